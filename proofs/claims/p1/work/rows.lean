section
/-! the exception rows of part 02 (as the task prints them) rest on these two: named in full, so that a round on a new machine reads the whole library -/
theorem mj_wide : True := by
  have _h1 := @Jvm.Stand.outThrough
  have _h2 := @Jvm.Stand.thenCaughtThrough
  trivial
end
section
-- ===== PART A: goes FIRST, ahead of the names: the tables' words, and 'selects' of the private methods out of them =====
/-- a private method of a class that the tables say can be made, by its rows of tables_1 -/
def lw_okq (q : MethodName × Nat) : Prop := (q.1.cls ≠ "java/lang/invoke/MethodHandle" ∧ q.1.cls ≠ "java/lang/invoke/VarHandle") ∧ Cond.instantiable q.1.cls q.2 ∈ tables_1 ∧ Cond.privateMethod q.1 ∈ tables_1 ∧ Cond.instanceMethod q.1 ∈ tables_1
theorem lw_p0 : lw_okq (⟨"RentRiver$Tape", "readRun", "()V"⟩, 12) := ⟨⟨by decide +kernel, by decide +kernel⟩, List.mem_of_getElem? (i := 30) (by decide +kernel), List.mem_of_getElem? (i := 551) (by decide +kernel), List.mem_of_getElem? (i := 552) (by decide +kernel)⟩
theorem lw_p1 : lw_okq (⟨"RentRiver$Plain", "readRow", "(LRentRiver$Tape;)Z"⟩, 15) := ⟨⟨by decide +kernel, by decide +kernel⟩, List.mem_of_getElem? (i := 91) (by decide +kernel), List.mem_of_getElem? (i := 560) (by decide +kernel), List.mem_of_getElem? (i := 561) (by decide +kernel)⟩
theorem lw_p2 : lw_okq (⟨"RentRiver$Plain", "readTown", "(LRentRiver$Tape;)Z"⟩, 15) := ⟨⟨by decide +kernel, by decide +kernel⟩, List.mem_of_getElem? (i := 91) (by decide +kernel), List.mem_of_getElem? (i := 570) (by decide +kernel), List.mem_of_getElem? (i := 571) (by decide +kernel)⟩
theorem lw_p3 : lw_okq (⟨"RentRiver$Plain", "find", "(J)I"⟩, 15) := ⟨⟨by decide +kernel, by decide +kernel⟩, List.mem_of_getElem? (i := 91) (by decide +kernel), List.mem_of_getElem? (i := 579) (by decide +kernel), List.mem_of_getElem? (i := 580) (by decide +kernel)⟩
theorem lw_p4 : lw_okq (⟨"RentRiver$Plain", "readWater", "(LRentRiver$Tape;)Z"⟩, 15) := ⟨⟨by decide +kernel, by decide +kernel⟩, List.mem_of_getElem? (i := 91) (by decide +kernel), List.mem_of_getElem? (i := 594) (by decide +kernel), List.mem_of_getElem? (i := 595) (by decide +kernel)⟩
theorem lw_p5 : lw_okq (⟨"RentRiver$Plain", "readBid", "(LRentRiver$Tape;)Z"⟩, 15) := ⟨⟨by decide +kernel, by decide +kernel⟩, List.mem_of_getElem? (i := 91) (by decide +kernel), List.mem_of_getElem? (i := 600) (by decide +kernel), List.mem_of_getElem? (i := 601) (by decide +kernel)⟩
theorem lw_p6 : lw_okq (⟨"RentRiver$Plain", "readAboutTown", "(LRentRiver$Tape;LRentRiver$Word;)Z"⟩, 15) := ⟨⟨by decide +kernel, by decide +kernel⟩, List.mem_of_getElem? (i := 91) (by decide +kernel), List.mem_of_getElem? (i := 628) (by decide +kernel), List.mem_of_getElem? (i := 629) (by decide +kernel)⟩
theorem lw_p7 : lw_okq (⟨"RentRiver$Plain", "readMove", "(LRentRiver$Tape;)Z"⟩, 15) := ⟨⟨by decide +kernel, by decide +kernel⟩, List.mem_of_getElem? (i := 91) (by decide +kernel), List.mem_of_getElem? (i := 636) (by decide +kernel), List.mem_of_getElem? (i := 637) (by decide +kernel)⟩
theorem lw_p8 : lw_okq (⟨"RentRiver$Plain", "readFish", "(LRentRiver$Tape;)Z"⟩, 15) := ⟨⟨by decide +kernel, by decide +kernel⟩, List.mem_of_getElem? (i := 91) (by decide +kernel), List.mem_of_getElem? (i := 642) (by decide +kernel), List.mem_of_getElem? (i := 643) (by decide +kernel)⟩
theorem lw_p9 : lw_okq (⟨"RentRiver$Plain", "readPatience", "(LRentRiver$Tape;)Z"⟩, 15) := ⟨⟨by decide +kernel, by decide +kernel⟩, List.mem_of_getElem? (i := 91) (by decide +kernel), List.mem_of_getElem? (i := 648) (by decide +kernel), List.mem_of_getElem? (i := 649) (by decide +kernel)⟩
theorem lw_p10 : lw_okq (⟨"RentRiver", "closeTape", "(I)I"⟩, 14) := ⟨⟨by decide +kernel, by decide +kernel⟩, List.mem_of_getElem? (i := 22) (by decide +kernel), List.mem_of_getElem? (i := 669) (by decide +kernel), List.mem_of_getElem? (i := 670) (by decide +kernel)⟩
theorem lw_p11 : lw_okq (⟨"RentRiver", "isTown", "(I)Z"⟩, 14) := ⟨⟨by decide +kernel, by decide +kernel⟩, List.mem_of_getElem? (i := 22) (by decide +kernel), List.mem_of_getElem? (i := 681) (by decide +kernel), List.mem_of_getElem? (i := 682) (by decide +kernel)⟩
theorem lw_p12 : lw_okq (⟨"RentRiver$Contracts", "readRow", "(LRentRiver$Tape;LRentRiver$Plain;)Z"⟩, 4) := ⟨⟨by decide +kernel, by decide +kernel⟩, List.mem_of_getElem? (i := 171) (by decide +kernel), List.mem_of_getElem? (i := 722) (by decide +kernel), List.mem_of_getElem? (i := 723) (by decide +kernel)⟩
theorem lw_p13 : lw_okq (⟨"RentRiver$Contracts", "readLet", "(LRentRiver$Tape;LRentRiver$Plain;I)Z"⟩, 4) := ⟨⟨by decide +kernel, by decide +kernel⟩, List.mem_of_getElem? (i := 171) (by decide +kernel), List.mem_of_getElem? (i := 736) (by decide +kernel), List.mem_of_getElem? (i := 737) (by decide +kernel)⟩
theorem lw_p14 : lw_okq (⟨"RentRiver$Year", "letByContract", "(LRentRiver$Contracts;)V"⟩, 15) := ⟨⟨by decide +kernel, by decide +kernel⟩, List.mem_of_getElem? (i := 230) (by decide +kernel), List.mem_of_getElem? (i := 775) (by decide +kernel), List.mem_of_getElem? (i := 776) (by decide +kernel)⟩
theorem lw_p15 : lw_okq (⟨"RentRiver$Year", "pay", "(II)V"⟩, 15) := ⟨⟨by decide +kernel, by decide +kernel⟩, List.mem_of_getElem? (i := 230) (by decide +kernel), List.mem_of_getElem? (i := 783) (by decide +kernel), List.mem_of_getElem? (i := 784) (by decide +kernel)⟩
def lw_privs_1 : List (MethodName × Nat) := [(⟨"RentRiver$Tape", "readRun", "()V"⟩, 12), (⟨"RentRiver$Plain", "readRow", "(LRentRiver$Tape;)Z"⟩, 15), (⟨"RentRiver$Plain", "readTown", "(LRentRiver$Tape;)Z"⟩, 15), (⟨"RentRiver$Plain", "find", "(J)I"⟩, 15), (⟨"RentRiver$Plain", "readWater", "(LRentRiver$Tape;)Z"⟩, 15), (⟨"RentRiver$Plain", "readBid", "(LRentRiver$Tape;)Z"⟩, 15), (⟨"RentRiver$Plain", "readAboutTown", "(LRentRiver$Tape;LRentRiver$Word;)Z"⟩, 15), (⟨"RentRiver$Plain", "readMove", "(LRentRiver$Tape;)Z"⟩, 15), (⟨"RentRiver$Plain", "readFish", "(LRentRiver$Tape;)Z"⟩, 15), (⟨"RentRiver$Plain", "readPatience", "(LRentRiver$Tape;)Z"⟩, 15), (⟨"RentRiver", "closeTape", "(I)I"⟩, 14), (⟨"RentRiver", "isTown", "(I)Z"⟩, 14), (⟨"RentRiver$Contracts", "readRow", "(LRentRiver$Tape;LRentRiver$Plain;)Z"⟩, 4), (⟨"RentRiver$Contracts", "readLet", "(LRentRiver$Tape;LRentRiver$Plain;I)Z"⟩, 4), (⟨"RentRiver$Year", "letByContract", "(LRentRiver$Contracts;)V"⟩, 15), (⟨"RentRiver$Year", "pay", "(II)V"⟩, 15)]
theorem lw_r1 : ∀ q ∈ lw_privs_1, lw_okq q := List.forall_mem_cons.mpr ⟨lw_p0, List.forall_mem_cons.mpr ⟨lw_p1, List.forall_mem_cons.mpr ⟨lw_p2, List.forall_mem_cons.mpr ⟨lw_p3, List.forall_mem_cons.mpr ⟨lw_p4, List.forall_mem_cons.mpr ⟨lw_p5, List.forall_mem_cons.mpr ⟨lw_p6, List.forall_mem_cons.mpr ⟨lw_p7, List.forall_mem_cons.mpr ⟨lw_p8, List.forall_mem_cons.mpr ⟨lw_p9, List.forall_mem_cons.mpr ⟨lw_p10, List.forall_mem_cons.mpr ⟨lw_p11, List.forall_mem_cons.mpr ⟨lw_p12, List.forall_mem_cons.mpr ⟨lw_p13, List.forall_mem_cons.mpr ⟨lw_p14, List.forall_mem_cons.mpr ⟨lw_p15, fun _ h => absurd h List.not_mem_nil⟩⟩⟩⟩⟩⟩⟩⟩⟩⟩⟩⟩⟩⟩⟩⟩
theorem lw_p16 : lw_okq (⟨"RentRiver$Year", "letByBids", "(LRentRiver$Plain;)V"⟩, 15) := ⟨⟨by decide +kernel, by decide +kernel⟩, List.mem_of_getElem? (i := 230) (by decide +kernel), List.mem_of_getElem? (i := 787) (by decide +kernel), List.mem_of_getElem? (i := 788) (by decide +kernel)⟩
theorem lw_p17 : lw_okq (⟨"RentRiver$Year", "moveRiver", "(LRentRiver$Plain;)V"⟩, 15) := ⟨⟨by decide +kernel, by decide +kernel⟩, List.mem_of_getElem? (i := 230) (by decide +kernel), List.mem_of_getElem? (i := 791) (by decide +kernel), List.mem_of_getElem? (i := 792) (by decide +kernel)⟩
theorem lw_p18 : lw_okq (⟨"RentRiver$Year", "bridgeTo", "(LRentRiver$Plain;I)I"⟩, 15) := ⟨⟨by decide +kernel, by decide +kernel⟩, List.mem_of_getElem? (i := 230) (by decide +kernel), List.mem_of_getElem? (i := 802) (by decide +kernel), List.mem_of_getElem? (i := 803) (by decide +kernel)⟩
theorem lw_p19 : lw_okq (⟨"RentRiver$Year", "pour", "(LRentRiver$Plain;I)V"⟩, 15) := ⟨⟨by decide +kernel, by decide +kernel⟩, List.mem_of_getElem? (i := 230) (by decide +kernel), List.mem_of_getElem? (i := 809) (by decide +kernel), List.mem_of_getElem? (i := 810) (by decide +kernel)⟩
theorem lw_p20 : lw_okq (⟨"RentRiver$Year", "pourTo", "(LRentRiver$Plain;II)V"⟩, 15) := ⟨⟨by decide +kernel, by decide +kernel⟩, List.mem_of_getElem? (i := 230) (by decide +kernel), List.mem_of_getElem? (i := 813) (by decide +kernel), List.mem_of_getElem? (i := 814) (by decide +kernel)⟩
theorem lw_p21 : lw_okq (⟨"RentRiver$Year", "drink", "(LRentRiver$Plain;I)V"⟩, 15) := ⟨⟨by decide +kernel, by decide +kernel⟩, List.mem_of_getElem? (i := 230) (by decide +kernel), List.mem_of_getElem? (i := 818) (by decide +kernel), List.mem_of_getElem? (i := 819) (by decide +kernel)⟩
theorem lw_p22 : lw_okq (⟨"RentRiver$Year", "waterField", "(LRentRiver$Plain;I)V"⟩, 15) := ⟨⟨by decide +kernel, by decide +kernel⟩, List.mem_of_getElem? (i := 230) (by decide +kernel), List.mem_of_getElem? (i := 822) (by decide +kernel), List.mem_of_getElem? (i := 823) (by decide +kernel)⟩
theorem lw_p23 : lw_okq (⟨"RentRiver$Year", "harvest", "(LRentRiver$Plain;)V"⟩, 15) := ⟨⟨by decide +kernel, by decide +kernel⟩, List.mem_of_getElem? (i := 230) (by decide +kernel), List.mem_of_getElem? (i := 826) (by decide +kernel), List.mem_of_getElem? (i := 827) (by decide +kernel)⟩
theorem lw_p24 : lw_okq (⟨"RentRiver$Year", "inPonds", "()I"⟩, 15) := ⟨⟨by decide +kernel, by decide +kernel⟩, List.mem_of_getElem? (i := 230) (by decide +kernel), List.mem_of_getElem? (i := 838) (by decide +kernel), List.mem_of_getElem? (i := 839) (by decide +kernel)⟩
theorem lw_p25 : lw_okq (⟨"RentRiver$Cheapest", "searchPlan", "(LRentRiver$Plain;)I"⟩, 19) := ⟨⟨by decide +kernel, by decide +kernel⟩, List.mem_of_getElem? (i := 331) (by decide +kernel), List.mem_of_getElem? (i := 862) (by decide +kernel), List.mem_of_getElem? (i := 863) (by decide +kernel)⟩
theorem lw_p26 : lw_okq (⟨"RentRiver$Cheapest", "prepare", "(LRentRiver$Plain;)V"⟩, 19) := ⟨⟨by decide +kernel, by decide +kernel⟩, List.mem_of_getElem? (i := 331) (by decide +kernel), List.mem_of_getElem? (i := 866) (by decide +kernel), List.mem_of_getElem? (i := 867) (by decide +kernel)⟩
theorem lw_p27 : lw_okq (⟨"RentRiver$Cheapest", "listTails", "()V"⟩, 19) := ⟨⟨by decide +kernel, by decide +kernel⟩, List.mem_of_getElem? (i := 331) (by decide +kernel), List.mem_of_getElem? (i := 877) (by decide +kernel), List.mem_of_getElem? (i := 878) (by decide +kernel)⟩
theorem lw_p28 : lw_okq (⟨"RentRiver$Cheapest", "putAhead", "(IIII)V"⟩, 19) := ⟨⟨by decide +kernel, by decide +kernel⟩, List.mem_of_getElem? (i := 331) (by decide +kernel), List.mem_of_getElem? (i := 881) (by decide +kernel), List.mem_of_getElem? (i := 882) (by decide +kernel)⟩
theorem lw_p29 : lw_okq (⟨"RentRiver$Cheapest", "costOf", "(II)I"⟩, 19) := ⟨⟨by decide +kernel, by decide +kernel⟩, List.mem_of_getElem? (i := 331) (by decide +kernel), List.mem_of_getElem? (i := 885) (by decide +kernel), List.mem_of_getElem? (i := 886) (by decide +kernel)⟩
theorem lw_p30 : lw_okq (⟨"RentRiver$Cheapest", "tryMonth", "(III)V"⟩, 19) := ⟨⟨by decide +kernel, by decide +kernel⟩, List.mem_of_getElem? (i := 331) (by decide +kernel), List.mem_of_getElem? (i := 891) (by decide +kernel), List.mem_of_getElem? (i := 892) (by decide +kernel)⟩
theorem lw_p31 : lw_okq (⟨"RentRiver$Cheapest", "leastToCome", "(I)I"⟩, 19) := ⟨⟨by decide +kernel, by decide +kernel⟩, List.mem_of_getElem? (i := 331) (by decide +kernel), List.mem_of_getElem? (i := 895) (by decide +kernel), List.mem_of_getElem? (i := 896) (by decide +kernel)⟩
def lw_privs_2 : List (MethodName × Nat) := [(⟨"RentRiver$Year", "letByBids", "(LRentRiver$Plain;)V"⟩, 15), (⟨"RentRiver$Year", "moveRiver", "(LRentRiver$Plain;)V"⟩, 15), (⟨"RentRiver$Year", "bridgeTo", "(LRentRiver$Plain;I)I"⟩, 15), (⟨"RentRiver$Year", "pour", "(LRentRiver$Plain;I)V"⟩, 15), (⟨"RentRiver$Year", "pourTo", "(LRentRiver$Plain;II)V"⟩, 15), (⟨"RentRiver$Year", "drink", "(LRentRiver$Plain;I)V"⟩, 15), (⟨"RentRiver$Year", "waterField", "(LRentRiver$Plain;I)V"⟩, 15), (⟨"RentRiver$Year", "harvest", "(LRentRiver$Plain;)V"⟩, 15), (⟨"RentRiver$Year", "inPonds", "()I"⟩, 15), (⟨"RentRiver$Cheapest", "searchPlan", "(LRentRiver$Plain;)I"⟩, 19), (⟨"RentRiver$Cheapest", "prepare", "(LRentRiver$Plain;)V"⟩, 19), (⟨"RentRiver$Cheapest", "listTails", "()V"⟩, 19), (⟨"RentRiver$Cheapest", "putAhead", "(IIII)V"⟩, 19), (⟨"RentRiver$Cheapest", "costOf", "(II)I"⟩, 19), (⟨"RentRiver$Cheapest", "tryMonth", "(III)V"⟩, 19), (⟨"RentRiver$Cheapest", "leastToCome", "(I)I"⟩, 19)]
theorem lw_r2 : ∀ q ∈ lw_privs_2, lw_okq q := List.forall_mem_cons.mpr ⟨lw_p16, List.forall_mem_cons.mpr ⟨lw_p17, List.forall_mem_cons.mpr ⟨lw_p18, List.forall_mem_cons.mpr ⟨lw_p19, List.forall_mem_cons.mpr ⟨lw_p20, List.forall_mem_cons.mpr ⟨lw_p21, List.forall_mem_cons.mpr ⟨lw_p22, List.forall_mem_cons.mpr ⟨lw_p23, List.forall_mem_cons.mpr ⟨lw_p24, List.forall_mem_cons.mpr ⟨lw_p25, List.forall_mem_cons.mpr ⟨lw_p26, List.forall_mem_cons.mpr ⟨lw_p27, List.forall_mem_cons.mpr ⟨lw_p28, List.forall_mem_cons.mpr ⟨lw_p29, List.forall_mem_cons.mpr ⟨lw_p30, List.forall_mem_cons.mpr ⟨lw_p31, fun _ h => absurd h List.not_mem_nil⟩⟩⟩⟩⟩⟩⟩⟩⟩⟩⟩⟩⟩⟩⟩⟩
theorem lw_p32 : lw_okq (⟨"RentRiver$Cheapest", "lacksAny", "()Z"⟩, 19) := ⟨⟨by decide +kernel, by decide +kernel⟩, List.mem_of_getElem? (i := 331) (by decide +kernel), List.mem_of_getElem? (i := 899) (by decide +kernel), List.mem_of_getElem? (i := 900) (by decide +kernel)⟩
theorem lw_p33 : lw_okq (⟨"RentRiver$Cheapest", "keepPath", "(II)V"⟩, 19) := ⟨⟨by decide +kernel, by decide +kernel⟩, List.mem_of_getElem? (i := 331) (by decide +kernel), List.mem_of_getElem? (i := 903) (by decide +kernel), List.mem_of_getElem? (i := 904) (by decide +kernel)⟩
theorem lw_p34 : lw_okq (⟨"RentRiver$Cheapest", "stayFrom", "(II)V"⟩, 19) := ⟨⟨by decide +kernel, by decide +kernel⟩, List.mem_of_getElem? (i := 331) (by decide +kernel), List.mem_of_getElem? (i := 907) (by decide +kernel), List.mem_of_getElem? (i := 908) (by decide +kernel)⟩
theorem lw_p35 : lw_okq (⟨"RentRiver$Cheapest", "firstForNothing", "(I)I"⟩, 19) := ⟨⟨by decide +kernel, by decide +kernel⟩, List.mem_of_getElem? (i := 331) (by decide +kernel), List.mem_of_getElem? (i := 911) (by decide +kernel), List.mem_of_getElem? (i := 912) (by decide +kernel)⟩
theorem lw_p36 : lw_okq (⟨"RentRiver$Cheapest", "canBe", "(I)Z"⟩, 19) := ⟨⟨by decide +kernel, by decide +kernel⟩, List.mem_of_getElem? (i := 331) (by decide +kernel), List.mem_of_getElem? (i := 915) (by decide +kernel), List.mem_of_getElem? (i := 916) (by decide +kernel)⟩
theorem lw_p37 : lw_okq (⟨"RentRiver$Cheapest", "tryTails", "(II)V"⟩, 19) := ⟨⟨by decide +kernel, by decide +kernel⟩, List.mem_of_getElem? (i := 331) (by decide +kernel), List.mem_of_getElem? (i := 919) (by decide +kernel), List.mem_of_getElem? (i := 920) (by decide +kernel)⟩
theorem lw_p38 : lw_okq (⟨"RentRiver$Cheapest", "meetsNeeds", "(I)Z"⟩, 19) := ⟨⟨by decide +kernel, by decide +kernel⟩, List.mem_of_getElem? (i := 331) (by decide +kernel), List.mem_of_getElem? (i := 923) (by decide +kernel), List.mem_of_getElem? (i := 924) (by decide +kernel)⟩
theorem lw_p39 : lw_okq (⟨"RentRiver$Cheapest", "keepTail", "(I)V"⟩, 19) := ⟨⟨by decide +kernel, by decide +kernel⟩, List.mem_of_getElem? (i := 331) (by decide +kernel), List.mem_of_getElem? (i := 927) (by decide +kernel), List.mem_of_getElem? (i := 928) (by decide +kernel)⟩
theorem lw_p40 : lw_okq (⟨"RentRiver$Rounds", "clear", "()V"⟩, 4) := ⟨⟨by decide +kernel, by decide +kernel⟩, List.mem_of_getElem? (i := 399) (by decide +kernel), List.mem_of_getElem? (i := 948) (by decide +kernel), List.mem_of_getElem? (i := 949) (by decide +kernel)⟩
theorem lw_p41 : lw_okq (⟨"RentRiver$Rounds", "takeBest", "(LRentRiver$Plain;II)Z"⟩, 4) := ⟨⟨by decide +kernel, by decide +kernel⟩, List.mem_of_getElem? (i := 399) (by decide +kernel), List.mem_of_getElem? (i := 952) (by decide +kernel), List.mem_of_getElem? (i := 953) (by decide +kernel)⟩
theorem lw_p42 : lw_okq (⟨"RentRiver$Rounds", "priceNow", "(II)I"⟩, 4) := ⟨⟨by decide +kernel, by decide +kernel⟩, List.mem_of_getElem? (i := 399) (by decide +kernel), List.mem_of_getElem? (i := 956) (by decide +kernel), List.mem_of_getElem? (i := 957) (by decide +kernel)⟩
theorem lw_p43 : lw_okq (⟨"RentRiver$Leaks", "comesBy", "(LRentRiver$Plain;LRentRiver$Contracts;II)Z"⟩, 8) := ⟨⟨by decide +kernel, by decide +kernel⟩, List.mem_of_getElem? (i := 421) (by decide +kernel), List.mem_of_getElem? (i := 982) (by decide +kernel), List.mem_of_getElem? (i := 983) (by decide +kernel)⟩
theorem lw_p44 : lw_okq (⟨"RentRiver$Leaks", "asTold", "(LRentRiver$Year;I)Z"⟩, 8) := ⟨⟨by decide +kernel, by decide +kernel⟩, List.mem_of_getElem? (i := 421) (by decide +kernel), List.mem_of_getElem? (i := 996) (by decide +kernel), List.mem_of_getElem? (i := 997) (by decide +kernel)⟩
theorem lw_p45 : lw_okq (⟨"RentRiver$Leaks", "keep", "(III)V"⟩, 8) := ⟨⟨by decide +kernel, by decide +kernel⟩, List.mem_of_getElem? (i := 421) (by decide +kernel), List.mem_of_getElem? (i := 1000) (by decide +kernel), List.mem_of_getElem? (i := 1001) (by decide +kernel)⟩
theorem lw_p46 : lw_okq (⟨"RentRiver", "mostGain", "(II)I"⟩, 14) := ⟨⟨by decide +kernel, by decide +kernel⟩, List.mem_of_getElem? (i := 22) (by decide +kernel), List.mem_of_getElem? (i := 1016) (by decide +kernel), List.mem_of_getElem? (i := 1017) (by decide +kernel)⟩
theorem lw_p47 : lw_okq (⟨"RentRiver", "tryYear", "(LRentRiver$Plain;)V"⟩, 14) := ⟨⟨by decide +kernel, by decide +kernel⟩, List.mem_of_getElem? (i := 22) (by decide +kernel), List.mem_of_getElem? (i := 1025) (by decide +kernel), List.mem_of_getElem? (i := 1026) (by decide +kernel)⟩
def lw_privs_3 : List (MethodName × Nat) := [(⟨"RentRiver$Cheapest", "lacksAny", "()Z"⟩, 19), (⟨"RentRiver$Cheapest", "keepPath", "(II)V"⟩, 19), (⟨"RentRiver$Cheapest", "stayFrom", "(II)V"⟩, 19), (⟨"RentRiver$Cheapest", "firstForNothing", "(I)I"⟩, 19), (⟨"RentRiver$Cheapest", "canBe", "(I)Z"⟩, 19), (⟨"RentRiver$Cheapest", "tryTails", "(II)V"⟩, 19), (⟨"RentRiver$Cheapest", "meetsNeeds", "(I)Z"⟩, 19), (⟨"RentRiver$Cheapest", "keepTail", "(I)V"⟩, 19), (⟨"RentRiver$Rounds", "clear", "()V"⟩, 4), (⟨"RentRiver$Rounds", "takeBest", "(LRentRiver$Plain;II)Z"⟩, 4), (⟨"RentRiver$Rounds", "priceNow", "(II)I"⟩, 4), (⟨"RentRiver$Leaks", "comesBy", "(LRentRiver$Plain;LRentRiver$Contracts;II)Z"⟩, 8), (⟨"RentRiver$Leaks", "asTold", "(LRentRiver$Year;I)Z"⟩, 8), (⟨"RentRiver$Leaks", "keep", "(III)V"⟩, 8), (⟨"RentRiver", "mostGain", "(II)I"⟩, 14), (⟨"RentRiver", "tryYear", "(LRentRiver$Plain;)V"⟩, 14)]
theorem lw_r3 : ∀ q ∈ lw_privs_3, lw_okq q := List.forall_mem_cons.mpr ⟨lw_p32, List.forall_mem_cons.mpr ⟨lw_p33, List.forall_mem_cons.mpr ⟨lw_p34, List.forall_mem_cons.mpr ⟨lw_p35, List.forall_mem_cons.mpr ⟨lw_p36, List.forall_mem_cons.mpr ⟨lw_p37, List.forall_mem_cons.mpr ⟨lw_p38, List.forall_mem_cons.mpr ⟨lw_p39, List.forall_mem_cons.mpr ⟨lw_p40, List.forall_mem_cons.mpr ⟨lw_p41, List.forall_mem_cons.mpr ⟨lw_p42, List.forall_mem_cons.mpr ⟨lw_p43, List.forall_mem_cons.mpr ⟨lw_p44, List.forall_mem_cons.mpr ⟨lw_p45, List.forall_mem_cons.mpr ⟨lw_p46, List.forall_mem_cons.mpr ⟨lw_p47, fun _ h => absurd h List.not_mem_nil⟩⟩⟩⟩⟩⟩⟩⟩⟩⟩⟩⟩⟩⟩⟩⟩
theorem lw_p48 : lw_okq (⟨"RentRiver", "putNumber", "(I)V"⟩, 14) := ⟨⟨by decide +kernel, by decide +kernel⟩, List.mem_of_getElem? (i := 22) (by decide +kernel), List.mem_of_getElem? (i := 1049) (by decide +kernel), List.mem_of_getElem? (i := 1050) (by decide +kernel)⟩
theorem lw_p49 : lw_okq (⟨"RentRiver", "putByte", "(I)V"⟩, 14) := ⟨⟨by decide +kernel, by decide +kernel⟩, List.mem_of_getElem? (i := 22) (by decide +kernel), List.mem_of_getElem? (i := 1053) (by decide +kernel), List.mem_of_getElem? (i := 1054) (by decide +kernel)⟩
theorem lw_p50 : lw_okq (⟨"RentRiver", "putTenant", "(I)V"⟩, 14) := ⟨⟨by decide +kernel, by decide +kernel⟩, List.mem_of_getElem? (i := 22) (by decide +kernel), List.mem_of_getElem? (i := 1057) (by decide +kernel), List.mem_of_getElem? (i := 1058) (by decide +kernel)⟩
theorem lw_p51 : lw_okq (⟨"RentRiver$Sentence", "readCond", "(LRentRiver$Tape;I)Z"⟩, 6) := ⟨⟨by decide +kernel, by decide +kernel⟩, List.mem_of_getElem? (i := 201) (by decide +kernel), List.mem_of_getElem? (i := 1107) (by decide +kernel), List.mem_of_getElem? (i := 1108) (by decide +kernel)⟩
theorem lw_p52 : lw_okq (⟨"RentRiver$Sentence", "readAll", "(LRentRiver$Tape;I)Z"⟩, 6) := ⟨⟨by decide +kernel, by decide +kernel⟩, List.mem_of_getElem? (i := 201) (by decide +kernel), List.mem_of_getElem? (i := 1111) (by decide +kernel), List.mem_of_getElem? (i := 1112) (by decide +kernel)⟩
theorem lw_p53 : lw_okq (⟨"RentRiver$Sentence", "readOne", "(LRentRiver$Tape;I)Z"⟩, 6) := ⟨⟨by decide +kernel, by decide +kernel⟩, List.mem_of_getElem? (i := 201) (by decide +kernel), List.mem_of_getElem? (i := 1115) (by decide +kernel), List.mem_of_getElem? (i := 1116) (by decide +kernel)⟩
theorem lw_p54 : lw_okq (⟨"RentRiver$Sentence", "readClosing", "(LRentRiver$Tape;)Z"⟩, 6) := ⟨⟨by decide +kernel, by decide +kernel⟩, List.mem_of_getElem? (i := 201) (by decide +kernel), List.mem_of_getElem? (i := 1148) (by decide +kernel), List.mem_of_getElem? (i := 1149) (by decide +kernel)⟩
theorem lw_p55 : lw_okq (⟨"RentRiver$Sentence", "add", "(LRentRiver$Word;II)Z"⟩, 6) := ⟨⟨by decide +kernel, by decide +kernel⟩, List.mem_of_getElem? (i := 201) (by decide +kernel), List.mem_of_getElem? (i := 1152) (by decide +kernel), List.mem_of_getElem? (i := 1153) (by decide +kernel)⟩
theorem lw_p56 : lw_okq (⟨"RentRiver$Sentence", "readMeasure", "(LRentRiver$Tape;LRentRiver$Word;)Z"⟩, 6) := ⟨⟨by decide +kernel, by decide +kernel⟩, List.mem_of_getElem? (i := 201) (by decide +kernel), List.mem_of_getElem? (i := 1156) (by decide +kernel), List.mem_of_getElem? (i := 1157) (by decide +kernel)⟩
theorem lw_p57 : lw_okq (⟨"RentRiver$Sentence", "holdsOne", "(LRentRiver$Plain;LRentRiver$Year;II)Z"⟩, 6) := ⟨⟨by decide +kernel, by decide +kernel⟩, List.mem_of_getElem? (i := 201) (by decide +kernel), List.mem_of_getElem? (i := 1174) (by decide +kernel), List.mem_of_getElem? (i := 1175) (by decide +kernel)⟩
theorem lw_p58 : lw_okq (⟨"java/lang/Throwable", "fillInStackTrace", "(I)Ljava/lang/Throwable;"⟩, 6) := ⟨⟨by decide +kernel, by decide +kernel⟩, List.mem_of_getElem? (i := 1250) (by decide +kernel), List.mem_of_getElem? (i := 1248) (by decide +kernel), List.mem_of_getElem? (i := 1249) (by decide +kernel)⟩
theorem lw_p59 : lw_okq (⟨"RentRiverModel", "four", "(I)V"⟩, 62) := ⟨⟨by decide +kernel, by decide +kernel⟩, List.mem_of_getElem? (i := 1289) (by decide +kernel), List.mem_of_getElem? (i := 1287) (by decide +kernel), List.mem_of_getElem? (i := 1288) (by decide +kernel)⟩
theorem lw_p60 : lw_okq (⟨"RentRiverModel", "taken", "(I)V"⟩, 62) := ⟨⟨by decide +kernel, by decide +kernel⟩, List.mem_of_getElem? (i := 1289) (by decide +kernel), List.mem_of_getElem? (i := 1516) (by decide +kernel), List.mem_of_getElem? (i := 1517) (by decide +kernel)⟩
theorem lw_p61 : lw_okq (⟨"RentRiverModel", "next", "()V"⟩, 62) := ⟨⟨by decide +kernel, by decide +kernel⟩, List.mem_of_getElem? (i := 1289) (by decide +kernel), List.mem_of_getElem? (i := 1520) (by decide +kernel), List.mem_of_getElem? (i := 1521) (by decide +kernel)⟩
theorem lw_p62 : lw_okq (⟨"RentRiverModel", "peek", "()I"⟩, 62) := ⟨⟨by decide +kernel, by decide +kernel⟩, List.mem_of_getElem? (i := 1289) (by decide +kernel), List.mem_of_getElem? (i := 1524) (by decide +kernel), List.mem_of_getElem? (i := 1525) (by decide +kernel)⟩
theorem lw_p63 : lw_okq (⟨"RentRiverModel", "row", "()Z"⟩, 62) := ⟨⟨by decide +kernel, by decide +kernel⟩, List.mem_of_getElem? (i := 1289) (by decide +kernel), List.mem_of_getElem? (i := 1534) (by decide +kernel), List.mem_of_getElem? (i := 1535) (by decide +kernel)⟩
def lw_privs_4 : List (MethodName × Nat) := [(⟨"RentRiver", "putNumber", "(I)V"⟩, 14), (⟨"RentRiver", "putByte", "(I)V"⟩, 14), (⟨"RentRiver", "putTenant", "(I)V"⟩, 14), (⟨"RentRiver$Sentence", "readCond", "(LRentRiver$Tape;I)Z"⟩, 6), (⟨"RentRiver$Sentence", "readAll", "(LRentRiver$Tape;I)Z"⟩, 6), (⟨"RentRiver$Sentence", "readOne", "(LRentRiver$Tape;I)Z"⟩, 6), (⟨"RentRiver$Sentence", "readClosing", "(LRentRiver$Tape;)Z"⟩, 6), (⟨"RentRiver$Sentence", "add", "(LRentRiver$Word;II)Z"⟩, 6), (⟨"RentRiver$Sentence", "readMeasure", "(LRentRiver$Tape;LRentRiver$Word;)Z"⟩, 6), (⟨"RentRiver$Sentence", "holdsOne", "(LRentRiver$Plain;LRentRiver$Year;II)Z"⟩, 6), (⟨"java/lang/Throwable", "fillInStackTrace", "(I)Ljava/lang/Throwable;"⟩, 6), (⟨"RentRiverModel", "four", "(I)V"⟩, 62), (⟨"RentRiverModel", "taken", "(I)V"⟩, 62), (⟨"RentRiverModel", "next", "()V"⟩, 62), (⟨"RentRiverModel", "peek", "()I"⟩, 62), (⟨"RentRiverModel", "row", "()Z"⟩, 62)]
theorem lw_r4 : ∀ q ∈ lw_privs_4, lw_okq q := List.forall_mem_cons.mpr ⟨lw_p48, List.forall_mem_cons.mpr ⟨lw_p49, List.forall_mem_cons.mpr ⟨lw_p50, List.forall_mem_cons.mpr ⟨lw_p51, List.forall_mem_cons.mpr ⟨lw_p52, List.forall_mem_cons.mpr ⟨lw_p53, List.forall_mem_cons.mpr ⟨lw_p54, List.forall_mem_cons.mpr ⟨lw_p55, List.forall_mem_cons.mpr ⟨lw_p56, List.forall_mem_cons.mpr ⟨lw_p57, List.forall_mem_cons.mpr ⟨lw_p58, List.forall_mem_cons.mpr ⟨lw_p59, List.forall_mem_cons.mpr ⟨lw_p60, List.forall_mem_cons.mpr ⟨lw_p61, List.forall_mem_cons.mpr ⟨lw_p62, List.forall_mem_cons.mpr ⟨lw_p63, fun _ h => absurd h List.not_mem_nil⟩⟩⟩⟩⟩⟩⟩⟩⟩⟩⟩⟩⟩⟩⟩⟩
theorem lw_p64 : lw_okq (⟨"RentRiverModel", "isWord", "(J)Z"⟩, 62) := ⟨⟨by decide +kernel, by decide +kernel⟩, List.mem_of_getElem? (i := 1289) (by decide +kernel), List.mem_of_getElem? (i := 1538) (by decide +kernel), List.mem_of_getElem? (i := 1539) (by decide +kernel)⟩
theorem lw_p65 : lw_okq (⟨"RentRiverModel", "readTown", "()Z"⟩, 62) := ⟨⟨by decide +kernel, by decide +kernel⟩, List.mem_of_getElem? (i := 1289) (by decide +kernel), List.mem_of_getElem? (i := 1542) (by decide +kernel), List.mem_of_getElem? (i := 1543) (by decide +kernel)⟩
theorem lw_p66 : lw_okq (⟨"RentRiverModel", "bad", "(I)Z"⟩, 62) := ⟨⟨by decide +kernel, by decide +kernel⟩, List.mem_of_getElem? (i := 1289) (by decide +kernel), List.mem_of_getElem? (i := 1546) (by decide +kernel), List.mem_of_getElem? (i := 1547) (by decide +kernel)⟩
theorem lw_p67 : lw_okq (⟨"RentRiverModel", "isName", "()Z"⟩, 62) := ⟨⟨by decide +kernel, by decide +kernel⟩, List.mem_of_getElem? (i := 1289) (by decide +kernel), List.mem_of_getElem? (i := 1550) (by decide +kernel), List.mem_of_getElem? (i := 1551) (by decide +kernel)⟩
theorem lw_p68 : lw_okq (⟨"RentRiverModel", "find", "(II)I"⟩, 62) := ⟨⟨by decide +kernel, by decide +kernel⟩, List.mem_of_getElem? (i := 1289) (by decide +kernel), List.mem_of_getElem? (i := 1554) (by decide +kernel), List.mem_of_getElem? (i := 1555) (by decide +kernel)⟩
theorem lw_p69 : lw_okq (⟨"RentRiverModel", "takes", "(II)Z"⟩, 62) := ⟨⟨by decide +kernel, by decide +kernel⟩, List.mem_of_getElem? (i := 1289) (by decide +kernel), List.mem_of_getElem? (i := 1558) (by decide +kernel), List.mem_of_getElem? (i := 1559) (by decide +kernel)⟩
theorem lw_p70 : lw_okq (⟨"RentRiverModel", "readBid", "()Z"⟩, 62) := ⟨⟨by decide +kernel, by decide +kernel⟩, List.mem_of_getElem? (i := 1289) (by decide +kernel), List.mem_of_getElem? (i := 1568) (by decide +kernel), List.mem_of_getElem? (i := 1569) (by decide +kernel)⟩
theorem lw_p71 : lw_okq (⟨"RentRiverModel", "readOf", "(III)Z"⟩, 62) := ⟨⟨by decide +kernel, by decide +kernel⟩, List.mem_of_getElem? (i := 1289) (by decide +kernel), List.mem_of_getElem? (i := 1572) (by decide +kernel), List.mem_of_getElem? (i := 1573) (by decide +kernel)⟩
theorem lw_p72 : lw_okq (⟨"RentRiverModel", "sign", "(I)Z"⟩, 62) := ⟨⟨by decide +kernel, by decide +kernel⟩, List.mem_of_getElem? (i := 1289) (by decide +kernel), List.mem_of_getElem? (i := 1576) (by decide +kernel), List.mem_of_getElem? (i := 1577) (by decide +kernel)⟩
theorem lw_p73 : lw_okq (⟨"RentRiverModel", "isSign", "(I)Z"⟩, 62) := ⟨⟨by decide +kernel, by decide +kernel⟩, List.mem_of_getElem? (i := 1289) (by decide +kernel), List.mem_of_getElem? (i := 1580) (by decide +kernel), List.mem_of_getElem? (i := 1581) (by decide +kernel)⟩
theorem lw_p74 : lw_okq (⟨"RentRiverModel", "isTown", "(I)Z"⟩, 62) := ⟨⟨by decide +kernel, by decide +kernel⟩, List.mem_of_getElem? (i := 1289) (by decide +kernel), List.mem_of_getElem? (i := 1592) (by decide +kernel), List.mem_of_getElem? (i := 1593) (by decide +kernel)⟩
theorem lw_p75 : lw_okq (⟨"RentRiverModel", "throwsIf", "(Z)Z"⟩, 62) := ⟨⟨by decide +kernel, by decide +kernel⟩, List.mem_of_getElem? (i := 1289) (by decide +kernel), List.mem_of_getElem? (i := 1596) (by decide +kernel), List.mem_of_getElem? (i := 1597) (by decide +kernel)⟩
theorem lw_p76 : lw_okq (⟨"RentRiverModel", "toldOf", "(II)I"⟩, 62) := ⟨⟨by decide +kernel, by decide +kernel⟩, List.mem_of_getElem? (i := 1289) (by decide +kernel), List.mem_of_getElem? (i := 1600) (by decide +kernel), List.mem_of_getElem? (i := 1601) (by decide +kernel)⟩
theorem lw_p77 : lw_okq (⟨"RentRiverModel", "bidOf", "(II)I"⟩, 62) := ⟨⟨by decide +kernel, by decide +kernel⟩, List.mem_of_getElem? (i := 1289) (by decide +kernel), List.mem_of_getElem? (i := 1611) (by decide +kernel), List.mem_of_getElem? (i := 1612) (by decide +kernel)⟩
theorem lw_p78 : lw_okq (⟨"RentRiverModel", "bidMany", "()I"⟩, 62) := ⟨⟨by decide +kernel, by decide +kernel⟩, List.mem_of_getElem? (i := 1289) (by decide +kernel), List.mem_of_getElem? (i := 1623) (by decide +kernel), List.mem_of_getElem? (i := 1624) (by decide +kernel)⟩
theorem lw_p79 : lw_okq (⟨"RentRiverModel", "dealRow", "()Z"⟩, 62) := ⟨⟨by decide +kernel, by decide +kernel⟩, List.mem_of_getElem? (i := 1289) (by decide +kernel), List.mem_of_getElem? (i := 1635) (by decide +kernel), List.mem_of_getElem? (i := 1636) (by decide +kernel)⟩
def lw_privs_5 : List (MethodName × Nat) := [(⟨"RentRiverModel", "isWord", "(J)Z"⟩, 62), (⟨"RentRiverModel", "readTown", "()Z"⟩, 62), (⟨"RentRiverModel", "bad", "(I)Z"⟩, 62), (⟨"RentRiverModel", "isName", "()Z"⟩, 62), (⟨"RentRiverModel", "find", "(II)I"⟩, 62), (⟨"RentRiverModel", "takes", "(II)Z"⟩, 62), (⟨"RentRiverModel", "readBid", "()Z"⟩, 62), (⟨"RentRiverModel", "readOf", "(III)Z"⟩, 62), (⟨"RentRiverModel", "sign", "(I)Z"⟩, 62), (⟨"RentRiverModel", "isSign", "(I)Z"⟩, 62), (⟨"RentRiverModel", "isTown", "(I)Z"⟩, 62), (⟨"RentRiverModel", "throwsIf", "(Z)Z"⟩, 62), (⟨"RentRiverModel", "toldOf", "(II)I"⟩, 62), (⟨"RentRiverModel", "bidOf", "(II)I"⟩, 62), (⟨"RentRiverModel", "bidMany", "()I"⟩, 62), (⟨"RentRiverModel", "dealRow", "()Z"⟩, 62)]
theorem lw_r5 : ∀ q ∈ lw_privs_5, lw_okq q := List.forall_mem_cons.mpr ⟨lw_p64, List.forall_mem_cons.mpr ⟨lw_p65, List.forall_mem_cons.mpr ⟨lw_p66, List.forall_mem_cons.mpr ⟨lw_p67, List.forall_mem_cons.mpr ⟨lw_p68, List.forall_mem_cons.mpr ⟨lw_p69, List.forall_mem_cons.mpr ⟨lw_p70, List.forall_mem_cons.mpr ⟨lw_p71, List.forall_mem_cons.mpr ⟨lw_p72, List.forall_mem_cons.mpr ⟨lw_p73, List.forall_mem_cons.mpr ⟨lw_p74, List.forall_mem_cons.mpr ⟨lw_p75, List.forall_mem_cons.mpr ⟨lw_p76, List.forall_mem_cons.mpr ⟨lw_p77, List.forall_mem_cons.mpr ⟨lw_p78, List.forall_mem_cons.mpr ⟨lw_p79, fun _ h => absurd h List.not_mem_nil⟩⟩⟩⟩⟩⟩⟩⟩⟩⟩⟩⟩⟩⟩⟩⟩
theorem lw_p80 : lw_okq (⟨"RentRiverModel", "begins", "()V"⟩, 62) := ⟨⟨by decide +kernel, by decide +kernel⟩, List.mem_of_getElem? (i := 1289) (by decide +kernel), List.mem_of_getElem? (i := 1647) (by decide +kernel), List.mem_of_getElem? (i := 1648) (by decide +kernel)⟩
theorem lw_p81 : lw_okq (⟨"RentRiverModel", "month", "(I)V"⟩, 62) := ⟨⟨by decide +kernel, by decide +kernel⟩, List.mem_of_getElem? (i := 1289) (by decide +kernel), List.mem_of_getElem? (i := 1655) (by decide +kernel), List.mem_of_getElem? (i := 1656) (by decide +kernel)⟩
theorem lw_p82 : lw_okq (⟨"RentRiverModel", "lets", "(I)V"⟩, 62) := ⟨⟨by decide +kernel, by decide +kernel⟩, List.mem_of_getElem? (i := 1289) (by decide +kernel), List.mem_of_getElem? (i := 1659) (by decide +kernel), List.mem_of_getElem? (i := 1660) (by decide +kernel)⟩
theorem lw_p83 : lw_okq (⟨"RentRiverModel", "canPay", "(II)Z"⟩, 62) := ⟨⟨by decide +kernel, by decide +kernel⟩, List.mem_of_getElem? (i := 1289) (by decide +kernel), List.mem_of_getElem? (i := 1663) (by decide +kernel), List.mem_of_getElem? (i := 1664) (by decide +kernel)⟩
theorem lw_p84 : lw_okq (⟨"RentRiverModel", "of", "(II)I"⟩, 62) := ⟨⟨by decide +kernel, by decide +kernel⟩, List.mem_of_getElem? (i := 1289) (by decide +kernel), List.mem_of_getElem? (i := 1667) (by decide +kernel), List.mem_of_getElem? (i := 1668) (by decide +kernel)⟩
theorem lw_p85 : lw_okq (⟨"RentRiverModel", "pays", "(II)V"⟩, 62) := ⟨⟨by decide +kernel, by decide +kernel⟩, List.mem_of_getElem? (i := 1289) (by decide +kernel), List.mem_of_getElem? (i := 1671) (by decide +kernel), List.mem_of_getElem? (i := 1672) (by decide +kernel)⟩
theorem lw_p86 : lw_okq (⟨"RentRiverModel", "more", "(III)V"⟩, 62) := ⟨⟨by decide +kernel, by decide +kernel⟩, List.mem_of_getElem? (i := 1289) (by decide +kernel), List.mem_of_getElem? (i := 1675) (by decide +kernel), List.mem_of_getElem? (i := 1676) (by decide +kernel)⟩
theorem lw_p87 : lw_okq (⟨"RentRiverModel", "placeOf", "(I)I"⟩, 62) := ⟨⟨by decide +kernel, by decide +kernel⟩, List.mem_of_getElem? (i := 1289) (by decide +kernel), List.mem_of_getElem? (i := 1679) (by decide +kernel), List.mem_of_getElem? (i := 1680) (by decide +kernel)⟩
theorem lw_p88 : lw_okq (⟨"RentRiverModel", "wasLet", "(II)Z"⟩, 62) := ⟨⟨by decide +kernel, by decide +kernel⟩, List.mem_of_getElem? (i := 1289) (by decide +kernel), List.mem_of_getElem? (i := 1686) (by decide +kernel), List.mem_of_getElem? (i := 1687) (by decide +kernel)⟩
theorem lw_p89 : lw_okq (⟨"RentRiverModel", "comes", "(II)V"⟩, 62) := ⟨⟨by decide +kernel, by decide +kernel⟩, List.mem_of_getElem? (i := 1289) (by decide +kernel), List.mem_of_getElem? (i := 1690) (by decide +kernel), List.mem_of_getElem? (i := 1691) (by decide +kernel)⟩
theorem lw_p90 : lw_okq (⟨"RentRiverModel", "uses", "(I)V"⟩, 62) := ⟨⟨by decide +kernel, by decide +kernel⟩, List.mem_of_getElem? (i := 1289) (by decide +kernel), List.mem_of_getElem? (i := 1694) (by decide +kernel), List.mem_of_getElem? (i := 1695) (by decide +kernel)⟩
theorem lw_p91 : lw_okq (⟨"RentRiverModel", "canBe", "(I)Z"⟩, 62) := ⟨⟨by decide +kernel, by decide +kernel⟩, List.mem_of_getElem? (i := 1289) (by decide +kernel), List.mem_of_getElem? (i := 1719) (by decide +kernel), List.mem_of_getElem? (i := 1720) (by decide +kernel)⟩
theorem lw_p92 : lw_okq (⟨"RentRiverModel", "gains", "(II)I"⟩, 62) := ⟨⟨by decide +kernel, by decide +kernel⟩, List.mem_of_getElem? (i := 1289) (by decide +kernel), List.mem_of_getElem? (i := 1723) (by decide +kernel), List.mem_of_getElem? (i := 1724) (by decide +kernel)⟩
theorem lw_p93 : lw_okq (⟨"RentRiverModel", "costOf", "(II)I"⟩, 62) := ⟨⟨by decide +kernel, by decide +kernel⟩, List.mem_of_getElem? (i := 1289) (by decide +kernel), List.mem_of_getElem? (i := 1727) (by decide +kernel), List.mem_of_getElem? (i := 1728) (by decide +kernel)⟩
theorem lw_p94 : lw_okq (⟨"RentRiverModel", "holderOf", "(I)I"⟩, 62) := ⟨⟨by decide +kernel, by decide +kernel⟩, List.mem_of_getElem? (i := 1289) (by decide +kernel), List.mem_of_getElem? (i := 1743) (by decide +kernel), List.mem_of_getElem? (i := 1744) (by decide +kernel)⟩
theorem lw_p95 : lw_okq (⟨"RentRiverModel", "octet", "(I)I"⟩, 62) := ⟨⟨by decide +kernel, by decide +kernel⟩, List.mem_of_getElem? (i := 1289) (by decide +kernel), List.mem_of_getElem? (i := 1759) (by decide +kernel), List.mem_of_getElem? (i := 1760) (by decide +kernel)⟩
def lw_privs_6 : List (MethodName × Nat) := [(⟨"RentRiverModel", "begins", "()V"⟩, 62), (⟨"RentRiverModel", "month", "(I)V"⟩, 62), (⟨"RentRiverModel", "lets", "(I)V"⟩, 62), (⟨"RentRiverModel", "canPay", "(II)Z"⟩, 62), (⟨"RentRiverModel", "of", "(II)I"⟩, 62), (⟨"RentRiverModel", "pays", "(II)V"⟩, 62), (⟨"RentRiverModel", "more", "(III)V"⟩, 62), (⟨"RentRiverModel", "placeOf", "(I)I"⟩, 62), (⟨"RentRiverModel", "wasLet", "(II)Z"⟩, 62), (⟨"RentRiverModel", "comes", "(II)V"⟩, 62), (⟨"RentRiverModel", "uses", "(I)V"⟩, 62), (⟨"RentRiverModel", "canBe", "(I)Z"⟩, 62), (⟨"RentRiverModel", "gains", "(II)I"⟩, 62), (⟨"RentRiverModel", "costOf", "(II)I"⟩, 62), (⟨"RentRiverModel", "holderOf", "(I)I"⟩, 62), (⟨"RentRiverModel", "octet", "(I)I"⟩, 62)]
theorem lw_r6 : ∀ q ∈ lw_privs_6, lw_okq q := List.forall_mem_cons.mpr ⟨lw_p80, List.forall_mem_cons.mpr ⟨lw_p81, List.forall_mem_cons.mpr ⟨lw_p82, List.forall_mem_cons.mpr ⟨lw_p83, List.forall_mem_cons.mpr ⟨lw_p84, List.forall_mem_cons.mpr ⟨lw_p85, List.forall_mem_cons.mpr ⟨lw_p86, List.forall_mem_cons.mpr ⟨lw_p87, List.forall_mem_cons.mpr ⟨lw_p88, List.forall_mem_cons.mpr ⟨lw_p89, List.forall_mem_cons.mpr ⟨lw_p90, List.forall_mem_cons.mpr ⟨lw_p91, List.forall_mem_cons.mpr ⟨lw_p92, List.forall_mem_cons.mpr ⟨lw_p93, List.forall_mem_cons.mpr ⟨lw_p94, List.forall_mem_cons.mpr ⟨lw_p95, fun _ h => absurd h List.not_mem_nil⟩⟩⟩⟩⟩⟩⟩⟩⟩⟩⟩⟩⟩⟩⟩⟩
theorem lw_p96 : lw_okq (⟨"RentRiverModel", "thinks", "()V"⟩, 62) := ⟨⟨by decide +kernel, by decide +kernel⟩, List.mem_of_getElem? (i := 1289) (by decide +kernel), List.mem_of_getElem? (i := 1763) (by decide +kernel), List.mem_of_getElem? (i := 1764) (by decide +kernel)⟩
theorem lw_p97 : lw_okq (⟨"RentRiverModel", "areLevels", "(I)Z"⟩, 62) := ⟨⟨by decide +kernel, by decide +kernel⟩, List.mem_of_getElem? (i := 1289) (by decide +kernel), List.mem_of_getElem? (i := 1767) (by decide +kernel), List.mem_of_getElem? (i := 1768) (by decide +kernel)⟩
theorem lw_p98 : lw_okq (⟨"RentRiverModel", "forgets", "()V"⟩, 62) := ⟨⟨by decide +kernel, by decide +kernel⟩, List.mem_of_getElem? (i := 1289) (by decide +kernel), List.mem_of_getElem? (i := 1771) (by decide +kernel), List.mem_of_getElem? (i := 1772) (by decide +kernel)⟩
theorem lw_p99 : lw_okq (⟨"RentRiverModel", "wholeYear", "(Z)V"⟩, 62) := ⟨⟨by decide +kernel, by decide +kernel⟩, List.mem_of_getElem? (i := 1289) (by decide +kernel), List.mem_of_getElem? (i := 1791) (by decide +kernel), List.mem_of_getElem? (i := 1792) (by decide +kernel)⟩
theorem lw_p100 : lw_okq (⟨"RentRiverModel", "draw", "(I)I"⟩, 62) := ⟨⟨by decide +kernel, by decide +kernel⟩, List.mem_of_getElem? (i := 1289) (by decide +kernel), List.mem_of_getElem? (i := 1795) (by decide +kernel), List.mem_of_getElem? (i := 1796) (by decide +kernel)⟩
theorem lw_p101 : lw_okq (⟨"RentRiverModel", "putNumber", "(I)V"⟩, 62) := ⟨⟨by decide +kernel, by decide +kernel⟩, List.mem_of_getElem? (i := 1289) (by decide +kernel), List.mem_of_getElem? (i := 1816) (by decide +kernel), List.mem_of_getElem? (i := 1817) (by decide +kernel)⟩
theorem lw_p102 : lw_okq (⟨"RentRiverModel", "put", "(I)V"⟩, 62) := ⟨⟨by decide +kernel, by decide +kernel⟩, List.mem_of_getElem? (i := 1289) (by decide +kernel), List.mem_of_getElem? (i := 1820) (by decide +kernel), List.mem_of_getElem? (i := 1821) (by decide +kernel)⟩
theorem lw_p103 : lw_okq (⟨"RentRiverModel", "putName", "(J)V"⟩, 62) := ⟨⟨by decide +kernel, by decide +kernel⟩, List.mem_of_getElem? (i := 1289) (by decide +kernel), List.mem_of_getElem? (i := 1824) (by decide +kernel), List.mem_of_getElem? (i := 1825) (by decide +kernel)⟩
theorem lw_p104 : lw_okq (⟨"RentRiverModel", "nots", "()V"⟩, 62) := ⟨⟨by decide +kernel, by decide +kernel⟩, List.mem_of_getElem? (i := 1289) (by decide +kernel), List.mem_of_getElem? (i := 1853) (by decide +kernel), List.mem_of_getElem? (i := 1854) (by decide +kernel)⟩
theorem lw_p105 : lw_okq (⟨"RentRiverModel", "code", "(III)V"⟩, 62) := ⟨⟨by decide +kernel, by decide +kernel⟩, List.mem_of_getElem? (i := 1289) (by decide +kernel), List.mem_of_getElem? (i := 1857) (by decide +kernel), List.mem_of_getElem? (i := 1858) (by decide +kernel)⟩
theorem lw_p106 : lw_okq (⟨"RentRiverModel", "joins", "(I)V"⟩, 62) := ⟨⟨by decide +kernel, by decide +kernel⟩, List.mem_of_getElem? (i := 1289) (by decide +kernel), List.mem_of_getElem? (i := 1861) (by decide +kernel), List.mem_of_getElem? (i := 1862) (by decide +kernel)⟩
theorem lw_p107 : lw_okq (⟨"RentRiverModel", "behind", "()Z"⟩, 62) := ⟨⟨by decide +kernel, by decide +kernel⟩, List.mem_of_getElem? (i := 1289) (by decide +kernel), List.mem_of_getElem? (i := 1865) (by decide +kernel), List.mem_of_getElem? (i := 1866) (by decide +kernel)⟩
theorem lw_p108 : lw_okq (⟨"RentRiverModel", "operand", "()Z"⟩, 62) := ⟨⟨by decide +kernel, by decide +kernel⟩, List.mem_of_getElem? (i := 1289) (by decide +kernel), List.mem_of_getElem? (i := 1869) (by decide +kernel), List.mem_of_getElem? (i := 1870) (by decide +kernel)⟩
theorem lw_p109 : lw_okq (⟨"RentRiverModel", "leafOf", "()I"⟩, 62) := ⟨⟨by decide +kernel, by decide +kernel⟩, List.mem_of_getElem? (i := 1289) (by decide +kernel), List.mem_of_getElem? (i := 1873) (by decide +kernel), List.mem_of_getElem? (i := 1874) (by decide +kernel)⟩
theorem lw_p110 : lw_okq (⟨"RentRiverModel", "isSaid", "(I)Z"⟩, 62) := ⟨⟨by decide +kernel, by decide +kernel⟩, List.mem_of_getElem? (i := 1289) (by decide +kernel), List.mem_of_getElem? (i := 1881) (by decide +kernel), List.mem_of_getElem? (i := 1882) (by decide +kernel)⟩
theorem lw_p111 : lw_okq (⟨"RentRiverModel", "isLeaf", "(IIII)Z"⟩, 62) := ⟨⟨by decide +kernel, by decide +kernel⟩, List.mem_of_getElem? (i := 1289) (by decide +kernel), List.mem_of_getElem? (i := 1885) (by decide +kernel), List.mem_of_getElem? (i := 1886) (by decide +kernel)⟩
def lw_privs_7 : List (MethodName × Nat) := [(⟨"RentRiverModel", "thinks", "()V"⟩, 62), (⟨"RentRiverModel", "areLevels", "(I)Z"⟩, 62), (⟨"RentRiverModel", "forgets", "()V"⟩, 62), (⟨"RentRiverModel", "wholeYear", "(Z)V"⟩, 62), (⟨"RentRiverModel", "draw", "(I)I"⟩, 62), (⟨"RentRiverModel", "putNumber", "(I)V"⟩, 62), (⟨"RentRiverModel", "put", "(I)V"⟩, 62), (⟨"RentRiverModel", "putName", "(J)V"⟩, 62), (⟨"RentRiverModel", "nots", "()V"⟩, 62), (⟨"RentRiverModel", "code", "(III)V"⟩, 62), (⟨"RentRiverModel", "joins", "(I)V"⟩, 62), (⟨"RentRiverModel", "behind", "()Z"⟩, 62), (⟨"RentRiverModel", "operand", "()Z"⟩, 62), (⟨"RentRiverModel", "leafOf", "()I"⟩, 62), (⟨"RentRiverModel", "isSaid", "(I)Z"⟩, 62), (⟨"RentRiverModel", "isLeaf", "(IIII)Z"⟩, 62)]
theorem lw_r7 : ∀ q ∈ lw_privs_7, lw_okq q := List.forall_mem_cons.mpr ⟨lw_p96, List.forall_mem_cons.mpr ⟨lw_p97, List.forall_mem_cons.mpr ⟨lw_p98, List.forall_mem_cons.mpr ⟨lw_p99, List.forall_mem_cons.mpr ⟨lw_p100, List.forall_mem_cons.mpr ⟨lw_p101, List.forall_mem_cons.mpr ⟨lw_p102, List.forall_mem_cons.mpr ⟨lw_p103, List.forall_mem_cons.mpr ⟨lw_p104, List.forall_mem_cons.mpr ⟨lw_p105, List.forall_mem_cons.mpr ⟨lw_p106, List.forall_mem_cons.mpr ⟨lw_p107, List.forall_mem_cons.mpr ⟨lw_p108, List.forall_mem_cons.mpr ⟨lw_p109, List.forall_mem_cons.mpr ⟨lw_p110, List.forall_mem_cons.mpr ⟨lw_p111, fun _ h => absurd h List.not_mem_nil⟩⟩⟩⟩⟩⟩⟩⟩⟩⟩⟩⟩⟩⟩⟩⟩
def lw_privs : List (MethodName × Nat) := lw_privs_1 ++ (lw_privs_2 ++ (lw_privs_3 ++ (lw_privs_4 ++ (lw_privs_5 ++ (lw_privs_6 ++ (lw_privs_7))))))
def lw_tbl : List Cond := k2_sels lw_privs ++ tables_1
theorem lw_privs_ok : ∀ q ∈ lw_privs, lw_okq q := by
  show ∀ q ∈ lw_privs_1 ++ (lw_privs_2 ++ (lw_privs_3 ++ (lw_privs_4 ++ (lw_privs_5 ++ (lw_privs_6 ++ (lw_privs_7)))))), lw_okq q
  exact List.forall_mem_append.mpr ⟨lw_r1, List.forall_mem_append.mpr ⟨lw_r2, List.forall_mem_append.mpr ⟨lw_r3, List.forall_mem_append.mpr ⟨lw_r4, List.forall_mem_append.mpr ⟨lw_r5, List.forall_mem_append.mpr ⟨lw_r6, lw_r7⟩⟩⟩⟩⟩⟩
-- ===== end of PART A; then your names; then what follows =====
end
section
/-! ===== BEGIN words of one list among another's, by their places ===== -/
theorem goodIn_r {big : List Cond} (ws : List Cond) (ps : List Nat) (hp : ws = ps.filterMap (fun i => big[i]?)) (h : ws.all goodWord = true) : GoodIn big ws := by
  intro w hw
  have h1 := List.all_eq_true.mp h w hw
  rw [hp] at hw
  obtain ⟨i, -, hi⟩ := List.mem_filterMap.mp hw
  have hm : w ∈ big := by first | exact List.mem_of_getElem? hi | exact List.getElem?_mem hi
  exact ⟨hm, good_of_word h1⟩
theorem goodIn_app {big a b : List Cond} (ha : GoodIn big a) (hb : GoodIn big b) : GoodIn big (a ++ b) := fun w h => (List.mem_append.mp h).elim (ha w) (hb w)
theorem goodIn_ca {big a b : List Cond} {c : Cond} (ha : GoodIn big (c :: a)) (hb : GoodIn big b) : GoodIn big (c :: (a ++ b)) := fun w h => (List.mem_cons.mp h).elim (fun e => ha w (List.mem_cons.mpr (Or.inl e))) (fun h => (List.mem_append.mp h).elim (fun h => ha w (List.mem_cons.mpr (Or.inr h))) (hb w))
theorem goodIn_sub {big ws : List Cond} (hm : ∀ w ∈ ws, w ∈ big) (h : ws.all goodWord = true) : GoodIn big ws := fun w hw => ⟨hm w hw, good_of_word (List.all_eq_true.mp h w hw)⟩
/-! ===== END ===== -/


/-! ===== BEGIN exceptions that leave a method, and their catching by the caller (launches without stack traces) ===== -/
section VXA
/-! The laws vx_back, vx_callV, vx_callS, vx_callSW, vx_throw0, vx_throwS follow proofs of the library, with one case more: JvmDerived/Free/Laws.lean (Back.of_free), Shelf42/LK1.lean (callV, callS), Shelf/KitTraced.lean (throwNew0V, throwNewS). -/
/-- where a method has thrown q: the class by its name, the cell, what was written, the world -/
def vx_T (XC : String → State → State → Prop) (st : State) (q : Addr) (t : State) (mc ms : Nat) (free : Addr → Prop) : Prop :=
  ∃ (E : String) (ce : Cell) (L : List Loc), XC E st t ∧ t.heap[q]? = some ce ∧ ce.vm = .none ∧ st.vm.findClass E = some ce.cls ∧ st.WarmedH t.vm ∧ st.sameButNew ({ t with vm := st.vm } : State) L mc ms ∧ ∀ z ∈ L, free z.base
def vx_Q (Qc : Array Value → State → Outcome → State → Prop) (XC : String → State → State → Prop) (mc ms : Nat) (free : Addr → Prop) : Array Value → State → Outcome → State → Prop := fun a st o t =>
  (Qc a st o t ∧ ∃ L, FrameEnd st o t L mc ms ∧ ∀ q ∈ L, free q.base) ∨ ∃ q, o = .threw q ∧ vx_T XC st q t mc ms free
/-- a callee that returns or throws -/
def vx_Met (l : Launch) (y : MethodName) (ws : List Cond) (rm : Room) (Pc : Array Value → State → Prop) (Qc : Array Value → State → Outcome → State → Prop) (XC : String → State → State → Prop) (mc ms : Nat) (free : Addr → Prop) : Prop :=
  MetFree l y (headSpec ws rm) Pc (fun _ _ _ _ _ => True) (vx_Q Qc XC mc ms free)
def vx_Post (XC : String → State → State → Prop) (mc ms : Nat) (free : Addr → Prop) : Pt → Array Value → Addr → Pt → Prop := fun A a q B =>
  ∃ (g : JFrame) (mk : MethodId) (t : State) (L : List Loc) (E : String) (ce : Cell), B.U.heap = t.heap ∧ B.U.vm = t.vm ∧ XC E (A.U.calling g mk a) t ∧ t.heap[q]? = some ce ∧ ce.vm = .none ∧ A.U.vm.findClass E = some ce.cls ∧ B.locs = A.locs ++ L ∧ (∀ z ∈ L, free z.base) ∧ B.cells = A.cells + mc ∧ B.slots = A.slots + ms
def vx_Back (l : Launch) (R : Room) (p : Program) (e : Env) (below : List Frame) (s : State) (sargs : Array Value) (y : MethodName) (len W9 : Nat)
    (Pre : Pt → Array Value → Prop) (Post : Pt → Array Value → Option Value → Pt → Prop) (PostX : Pt → Array Value → Addr → Pt → Prop) : Prop :=
  ∀ (m : MethodId) (meth : Method) (c : Code) (A : Pt) (g : JFrame) (ig : Instr) (mk : MethodId) (a : Array Value),
    Stand p l e R s m sargs below meth c A.U A.locs A.cells A.slots → g.method = m → g.locals.size = c.maxLocals → decode c.code g.pc = .ok (ig, len) →
    2 * g.monitorRoom + (g.stack.map fun v => v.category).sum ≤ W9 → A.U.methodNamed? y = some mk → Pre A a →
    (∃ (v : Option Value) (B : Pt), Stand p l e R s m sargs below meth c B.U B.locs B.cells B.slots ∧ Post A a v B ∧
      Steps p.tables e below (doInvoke e (A.U.setTop g) [] mk a).1 (B.U.setTop { g with pc := g.pc + len, stack := v.toList ++ g.stack })) ∨
    (∃ (q : Addr) (B : Pt), Stand p l e R s m sargs below meth c B.U B.locs B.cells B.slots ∧ PostX A a q B ∧
      Steps p.tables e below (doInvoke e (A.U.setTop g) [] mk a).1 ((B.U.setTop g).pushFrame (.throwing q)))
section Payer
variable {l : Launch} {R : Room} {p : Program} {e : Env} {below : List Frame} {s : State} {sargs : Array Value} {y : MethodName} {len W9 : Nat}
theorem vx_back {ws : List Cond} {rm : Room} {Pc : Array Value → State → Prop} {Qc : Array Value → State → Outcome → State → Prop} {XC : String → State → State → Prop} {mc ms : Nat} {free : Addr → Prop} {bytes : ByteArray} {maxL : Nat} {ret : Option FieldType}
    (hM : vx_Met l y ws rm Pc Qc XC mc ms free) (hblind : FrameBlind Pc) (hrc : rm.cells = mc) (hrs : rm.slots = ms)
    (hframes : rm.frames + 1 ≤ R.frames) (hlocals : W9 + (maxL + 11) + rm.locals ≤ R.locals)
    (hws : ∀ w ∈ ws, ∀ a' U, s.WarmedH U.vm → w.before a' U = true) (hcode : Cond.code y bytes maxL ret ∈ ws) (hinit : ∀ a' U, s.WarmedH U.vm → (Cond.initialized y.cls).before a' U = true) :
    vx_Back l R p e below s sargs y len W9 (PreOf R mc ms Pc) (PostOf Qc mc ms free) (vx_Post XC mc ms free) := by
  intro m meth c A g ig mk a X hg hsize hdg hW hn hp
  have h1 : (headSpec ws rm).pre.before a A.U = true := atoms_intro fun w hw => hws w hw _ _ X.warmed
  have h2 : (Cond.code y bytes maxL ret).before a A.U = true := hws _ hcode _ _ X.warmed
  have h3 : (Cond.initialized y.cls).before a A.U = true := hinit _ _ X.warmed
  have h4 : A.cells + (headSpec ws rm).room.cells ≤ R.cells := by rw [show (headSpec ws rm).room.cells = mc from hrc]; exact hp.1
  have h5 : A.slots + (headSpec ws rm).room.slots ≤ R.slots := by rw [show (headSpec ws rm).room.slots = ms from hrs]; exact hp.2.1
  have hPc : Pc a (A.U.calling g mk a) := hblind _ _ _ _ hp.2.2
  obtain ⟨U, Ls, c0, s0⟩ := A
  dsimp only [Pt.U, Pt.locs, Pt.cells, Pt.slots] at h1 h2 h3 h4 h5 X hn hPc ⊢
  obtain ⟨methY, cY, hmY, hcY, -, hlY, -, -, -, -⟩ := Cond.code_spec hn h2
  obtain ⟨kY, hkY, -⟩ := className_of_methodNamed hn
  have hinitY : kY.init = .initialized := Cond.initialized_spec (findClass_of_methodNamed hn) hkY h3
  have h : At U g.method c below := by rw [hg]; exact X.here
  have hlocals9 : W9 + (maxL + 11) + (headSpec ws rm).room.locals ≤ R.locals := hlocals
  have happ : (headSpec ws rm).appliesLoose y e.platform (U.calling g mk a) = true :=
    Spec.appliesLoose_calling (g := g) h hdg hn hkY hinitY
      (X.room_calling (g := g) (R' := (headSpec ws rm).room) hsize hmY hcY hframes (by rw [hlY]; omega) h4 h5) h1
  obtain ⟨mid, hmid⟩ := h.above
  have hfr : (U.setTop g).frames = (.java g :: mid) ++ below := by rw [State.frames_setTop' g h.top, hmid]; rfl
  obtain ⟨o, s₂, hsteps, -, hend, hq⟩ := Steps.callFree hM p X.admits X.cas X.clock (acts := []) hfr happ hPc trivial
  have hq' : vx_Q Qc XC mc ms free a (U.calling g mk a) o s₂ := hq
  rw [State.frames_setTop' g h.top] at hend
  obtain ⟨g₀, hg0⟩ := Option.isSome_iff_exists.mp h.top
  obtain ⟨r, hr⟩ := State.topJava?_eq_some.mp hg0
  have hr' : (({ U with heap := s₂.heap, slotsUsed := s₂.slotsUsed } : State).setVm s₂.vm).frames = .java g₀ :: r := hr
  rcases hq' with ⟨hqc, L, hfe, hL⟩ | ⟨q, rfl, E, ce, L, hx, hce, hcv, hcl, hW₂, hsm, hL⟩
  · obtain ⟨⟨v, rfl⟩, hW₂, e2, q2, q3, q4, q5, q6⟩ := id hfe
    have e3 : s₂ = ({ (U.calling g mk a).setFrames s₂.frames with heap := s₂.heap, slotsUsed := s₂.slotsUsed } : State).setVm s₂.vm := by
      have : s₂ = ({ s₂ with vm := (U.calling g mk a).vm } : State).setVm s₂.vm := rfl
      rw [e2] at this
      exact this
    obtain ⟨c₂, i₂, len₂, hc₂, hd₂, hf₂⟩ := hend
    have hW' : U.WarmedH s₂.vm := hW₂
    have hcc : c₂ = c := by
      have h1 : s₂.code? g.method = U.code? g.method := by
        rw [State.code?_eq, State.code?_eq, hW'.alike.method?]
      exact Option.some.inj (hc₂.symm.trans (h1.trans h.code))
    subst hcc
    have hlen : len₂ = len := by rw [hdg] at hd₂; cases hd₂; rfl
    subst hlen
    have hs₂ : s₂ = (({ U with heap := s₂.heap, slotsUsed := s₂.slotsUsed } : State).setVm s₂.vm).setTop { g with pc := g.pc + len₂, stack := v.toList ++ g.stack } := by
      refine e3.trans ?_
      rw [hf₂, State.calling_eq h.top, State.setFrames_setFrames, State.setTop_of_frames _ hr', hr]
      rfl
    have hsame : U.sameButNew ({ U with heap := s₂.heap, slotsUsed := s₂.slotsUsed } : State) L mc ms := by
      refine ⟨?_, q2, q3, q4, q5, q6⟩
      obtain ⟨t, ht, -⟩ := State.frames_cons hr
      show ({ U with heap := s₂.heap, slotsUsed := s₂.slotsUsed } : State) = { U.setFrames U.frames with heap := s₂.heap, slotsUsed := s₂.slotsUsed }
      rw [State.setFrames_self ht]
    subst hg
    refine Or.inl ⟨v, ⟨(({ U with heap := s₂.heap, slotsUsed := s₂.slotsUsed } : State).setVm s₂.vm), Ls ++ L, c0 + mc, s0 + ms⟩,
      ⟨X.admits, X.cas, X.clock, X.frames, X.room, X.hears, X.method, X.code, (X.here.setHeapUsed s₂.heap s₂.slotsUsed).setVm hW'.alike, X.tail, State.WarmedH.trans X.warmed hW', X.limits, X.bytes, X.same.trans (hsame.setVm s.vm)⟩,
      ⟨g, mk, s₂, L, rfl, rfl, hqc, rfl, hL, rfl, rfl⟩, ?_⟩
    show Steps p.tables e below _ ((({ U with heap := s₂.heap, slotsUsed := s₂.slotsUsed } : State).setVm s₂.vm).setTop { g with pc := g.pc + len₂, stack := v.toList ++ g.stack })
    rw [← hs₂]
    exact hsteps
  · obtain ⟨e2, q2, q3, q4, q5, q6⟩ := id hsm
    have e3 : s₂ = ({ (U.calling g mk a).setFrames s₂.frames with heap := s₂.heap, slotsUsed := s₂.slotsUsed } : State).setVm s₂.vm := by
      have : s₂ = ({ s₂ with vm := (U.calling g mk a).vm } : State).setVm s₂.vm := rfl
      rw [e2] at this
      exact this
    have hf₂ : s₂.frames = .throwing q :: .java g :: U.frames.tail := hend
    have hW' : U.WarmedH s₂.vm := hW₂
    have hs₂ : s₂ = ((({ U with heap := s₂.heap, slotsUsed := s₂.slotsUsed } : State).setVm s₂.vm).setTop g).pushFrame (.throwing q) := by
      refine e3.trans ?_
      rw [hf₂, State.calling_eq h.top, State.setFrames_setFrames, State.pushFrame, State.frames_setTop _ hr', State.setTop_of_frames _ hr', State.setFrames_setFrames, hr]
      rfl
    have hsame : U.sameButNew ({ U with heap := s₂.heap, slotsUsed := s₂.slotsUsed } : State) L mc ms := by
      refine ⟨?_, q2, q3, q4, q5, q6⟩
      obtain ⟨t, ht, -⟩ := State.frames_cons hr
      show ({ U with heap := s₂.heap, slotsUsed := s₂.slotsUsed } : State) = { U.setFrames U.frames with heap := s₂.heap, slotsUsed := s₂.slotsUsed }
      rw [State.setFrames_self ht]
    subst hg
    refine Or.inr ⟨q, ⟨(({ U with heap := s₂.heap, slotsUsed := s₂.slotsUsed } : State).setVm s₂.vm), Ls ++ L, c0 + mc, s0 + ms⟩,
      ⟨X.admits, X.cas, X.clock, X.frames, X.room, X.hears, X.method, X.code, (X.here.setHeapUsed s₂.heap s₂.slotsUsed).setVm hW'.alike, X.tail, State.WarmedH.trans X.warmed hW', X.limits, X.bytes, X.same.trans (hsame.setVm s.vm)⟩,
      ⟨g, mk, s₂, L, E, ce, rfl, rfl, hx, hce, hcv, hcl, rfl, hL, rfl, rfl⟩, ?_⟩
    show Steps p.tables e below _ (((({ U with heap := s₂.heap, slotsUsed := s₂.slotsUsed } : State).setVm s₂.vm).setTop g).pushFrame (.throwing q))
    rw [← hs₂]
    exact hsteps
end Payer
section Calls
variable {p : Program} {l : Launch} {e : Env} {R : Room} {s : State} {m : MethodId} {args : Array Value} {below : List Frame} {meth : Method} {c : Code} {T : State} {locs : List Loc} {cells slots : Nat}
theorem vx_callV (X : Stand p l e R s m args below meth c T locs cells slots) (hexec : p.tables.exec = Jvm.exec) {own C : String} {index : Nat} {y : MethodName} {bytes : ByteArray} {maxL : Nat} {ret : Option FieldType}
    (hown : s.vm.findClass own = some m.cls) (hlink : (Cond.methodLink own index y).before args s = true) (hinst : (Cond.instanceMethod y).before args s = true) (hsel : (Cond.selects C y y).before args s = true)
    (hcode : (Cond.code y bytes maxL ret).before args s = true) (hy : y.cls ≠ "java/lang/invoke/MethodHandle" ∧ y.cls ≠ "java/lang/invoke/VarHandle")
    {W9 : Nat} {Pre : Pt → Array Value → Prop} {Post : Pt → Array Value → Option Value → Pt → Prop} {PostX : Pt → Array Value → Addr → Pt → Prop} (hK : vx_Back l R p e below s args y 3 W9 Pre Post PostX)
    {b : Addr} {cellB : Cell} (hcell : T.heap[b]? = some cellB) (hobj : cellB.vm.isStatics = false) (hcls : s.vm.findClass C = some cellB.cls)
    {g : JFrame} (hg : g.method = m) (hsize : g.locals.size = c.maxLocals) {argsL rest : List Value} (hlen : ∀ sig, parseMethodDescriptor y.desc = some sig → argsL.length = sig.parameters.length)
    (hstack : g.stack = argsL.reverse ++ .ref b :: rest) (hW : 2 * g.monitorRoom + (rest.map fun v => v.category).sum ≤ W9) (hdg : decode c.code g.pc = .ok (.invokevirtual index, 3))
    (hpre : ∀ vm₁, s.WarmedH vm₁ → Pre ⟨T.setVm vm₁, locs, cells, slots⟩ (Value.ref b :: argsL).toArray) :
    (∃ (v : Option Value) (vm₁ : Vm) (B : Pt), s.WarmedH vm₁ ∧ Stand p l e R s m args below meth c B.U B.locs B.cells B.slots ∧ Post ⟨T.setVm vm₁, locs, cells, slots⟩ (Value.ref b :: argsL).toArray v B ∧
      ∀ target, Steps p.tables e below (B.U.setTop { g with pc := g.pc + 3, stack := v.toList ++ rest }) target → Steps p.tables e below (T.setTop g) target) ∨
    (∃ (q : Addr) (vm₁ : Vm) (B : Pt), s.WarmedH vm₁ ∧ Stand p l e R s m args below meth c B.U B.locs B.cells B.slots ∧ PostX ⟨T.setVm vm₁, locs, cells, slots⟩ (Value.ref b :: argsL).toArray q B ∧
      Steps p.tables e below (T.setTop g) ((B.U.setTop { g with stack := rest }).pushFrame (.throwing q))) := by
  obtain ⟨mk, methM, hnamed, hmethM, hstM, habM⟩ := Cond.instanceMethod_spec hinst
  obtain ⟨methM', cM, hmethM', -, -, -, -, -, -, hsigM⟩ := Cond.code_spec hnamed hcode
  cases hmethM.symm.trans hmethM'
  obtain ⟨c2, r2, m2, q1, q2, q3, q4, kP, hkP, hkPi⟩ := Cond.selects_spec hsel
  cases hcls.symm.trans q1
  cases (State.methodFound?_of_named hnamed hy).symm.trans q2
  cases hnamed.symm.trans q3
  have hselP : selectMethod e.platform s.vm cellB.cls mk = .method mk := by rw [Launch.admits_selectMethod X.admits]; exact q4
  obtain ⟨vm₁, X₁, hstep₁⟩ := X.invokevirtual hexec hown hlink hnamed hmethM hstM hkP hkPi hy (a := b) (cell := cellB) hcell
    (fun z h => by rw [h] at hobj; cases hobj) hselP hmethM habM hkP hkPi (g := g) hg (argsL := argsL) (rest := rest) (hlen _ hsigM) hstack hdg
  rcases hK m meth c ⟨T.setVm vm₁, locs, cells, slots⟩ { g with stack := rest } (.invokevirtual index) mk (Value.ref b :: argsL).toArray X₁ hg hsize hdg hW (X₁.named hnamed) (hpre vm₁ X₁.warmed) with ⟨v, B, X', hpost, hsteps⟩ | ⟨q, B, X', hpost, hsteps⟩
  · exact Or.inl ⟨v, vm₁, B, X₁.warmed, X', hpost, fun target h => hstep₁ _ fun acts => by rw [doInvoke_state]; exact hsteps.trans h⟩
  · exact Or.inr ⟨q, vm₁, B, X₁.warmed, X', hpost, hstep₁ _ fun acts => by rw [doInvoke_state]; exact hsteps⟩
theorem vx_callS (X : Stand p l e R s m args below meth c T locs cells slots) (hexec : p.tables.exec = Jvm.exec) {own : String} {index : Nat} {y : MethodName} {bytes : ByteArray} {maxL : Nat} {ret : Option FieldType}
    (hown : s.vm.findClass own = some m.cls) (hlink : (Cond.methodLink own index y).before args s = true) (hstat : (Cond.static y).before args s = true) (hinit : (Cond.initialized y.cls).before args s = true)
    (hcode : (Cond.code y bytes maxL ret).before args s = true) (hy : y.cls ≠ "java/lang/invoke/MethodHandle" ∧ y.cls ≠ "java/lang/invoke/VarHandle")
    {W9 : Nat} {Pre : Pt → Array Value → Prop} {Post : Pt → Array Value → Option Value → Pt → Prop} {PostX : Pt → Array Value → Addr → Pt → Prop} (hK : vx_Back l R p e below s args y 3 W9 Pre Post PostX)
    {g : JFrame} (hg : g.method = m) (hsize : g.locals.size = c.maxLocals) {argsL rest : List Value} (hlen : ∀ sig, parseMethodDescriptor y.desc = some sig → argsL.length = sig.parameters.length)
    (hstack : g.stack = argsL.reverse ++ rest) (hW : 2 * g.monitorRoom + (rest.map fun v => v.category).sum ≤ W9) (hdg : decode c.code g.pc = .ok (.invokestatic index, 3))
    (hpre : ∀ vm₁, s.WarmedH vm₁ → Pre ⟨T.setVm vm₁, locs, cells, slots⟩ argsL.toArray) :
    (∃ (v : Option Value) (vm₁ : Vm) (B : Pt), s.WarmedH vm₁ ∧ Stand p l e R s m args below meth c B.U B.locs B.cells B.slots ∧ Post ⟨T.setVm vm₁, locs, cells, slots⟩ argsL.toArray v B ∧
      ∀ target, Steps p.tables e below (B.U.setTop { g with pc := g.pc + 3, stack := v.toList ++ rest }) target → Steps p.tables e below (T.setTop g) target) ∨
    (∃ (q : Addr) (vm₁ : Vm) (B : Pt), s.WarmedH vm₁ ∧ Stand p l e R s m args below meth c B.U B.locs B.cells B.slots ∧ PostX ⟨T.setVm vm₁, locs, cells, slots⟩ argsL.toArray q B ∧
      Steps p.tables e below (T.setTop g) ((B.U.setTop { g with stack := rest }).pushFrame (.throwing q))) := by
  obtain ⟨mk, hnamed⟩ := Cond.code_named hcode
  obtain ⟨methM, cM, hmethM, -, -, -, -, -, -, hsigM⟩ := Cond.code_spec hnamed hcode
  have hstatic : methM.isStatic = true := Cond.static_spec hnamed hmethM hstat
  obtain ⟨kP, hkP, -⟩ := className_of_methodNamed hnamed
  have hinitP : kP.init = .initialized := Cond.initialized_spec (findClass_of_methodNamed hnamed) hkP hinit
  obtain ⟨vm₁, X₁, hstep₁⟩ := X.invokestatic hexec hown hlink hnamed hmethM hstatic hkP hinitP hy (g := g) hg (argsL := argsL) (rest := rest) (hlen _ hsigM) hstack hdg
  rcases hK m meth c ⟨T.setVm vm₁, locs, cells, slots⟩ { g with stack := rest } (.invokestatic index) mk argsL.toArray X₁ hg hsize hdg hW (X₁.named hnamed) (hpre vm₁ X₁.warmed) with ⟨v, B, X', hpost, hsteps⟩ | ⟨q, B, X', hpost, hsteps⟩
  · exact Or.inl ⟨v, vm₁, B, X₁.warmed, X', hpost, fun target h => hstep₁ _ fun acts => by rw [doInvoke_state]; exact hsteps.trans h⟩
  · exact Or.inr ⟨q, vm₁, B, X₁.warmed, X', hpost, hstep₁ _ fun acts => by rw [doInvoke_state]; exact hsteps⟩
end Calls
theorem vx_cls {s : State} {T : State} {vm₁ : Vm} {E : String} {k : ClassId} (hW : s.WarmedH vm₁) (h : (T.setVm vm₁).vm.findClass E = some k) : s.vm.findClass E = some k := by
  have h1 : vm₁.findClass E = some k := h
  rw [hW.alike.findClass] at h1
  exact h1
/-- the method's frame g, with q thrown over it -/
def vx_W (p : Program) (l : Launch) (e : Env) (R : Room) (s : State) (m : MethodId) (args : Array Value) (below : List Frame) (meth : Method) (c : Code) (H : Heap) (locs : List Loc) (cells slots : Nat) (Q : State → Prop) (g : JFrame) (q : Addr) : Prop :=
  ∀ T : State, T.heap = H → Stand p l e R s m args below meth c T locs cells slots → ∃ t, Steps p.tables e below ((T.setTop g).pushFrame (.throwing q)) t ∧ Q t
def vx_Run (p : Program) (l : Launch) (e : Env) (R : Room) (s : State) (m : MethodId) (args : Array Value) (below : List Frame) (meth : Method) (c : Code) (H : Heap) (locs : List Loc) (cells slots mc ms : Nat) (g : JFrame) (rest : List Value) (Qa : State → Outcome → State → Prop) (XC : String → State → State → Prop) (free : Addr → Prop) : Prop :=
  ∀ T : State, T.heap = H → Stand p l e R s m args below meth c T locs cells slots →
    (∃ (v : Option Value) (st₀ t T' : State) (L : List Loc), st₀.heap = H ∧ Stand p l e R s m args below meth c T' (locs ++ L) (cells + mc) (slots + ms) ∧ (∀ q ∈ L, free q.base) ∧ T'.heap = t.heap ∧ T'.vm = t.vm ∧ Qa st₀ (.returned v) t ∧
      Goes p e below T g T' { g with pc := g.pc + 3, stack := v.toList ++ rest }) ∨
    (∃ (q : Addr) (st₀ t T' : State) (L : List Loc) (E : String) (ce : Cell), st₀.heap = H ∧ Stand p l e R s m args below meth c T' (locs ++ L) (cells + mc) (slots + ms) ∧ (∀ z ∈ L, free z.base) ∧ T'.heap = t.heap ∧ T'.vm = t.vm ∧ XC E st₀ t ∧ t.heap[q]? = some ce ∧ ce.vm = .none ∧ s.vm.findClass E = some ce.cls ∧
      Steps p.tables e below (T.setTop g) ((T'.setTop { g with stack := rest }).pushFrame (.throwing q)))
def vx_X {S : Type} (px : S → Prop) (B : String → S → State → Prop) (A : Nat → Prop) : String → State → State → Prop := fun E st t => ∃ u : S, px u ∧ B E u t ∧ va_F A st t
section Runs
variable {p : Program} {l : Launch} {e : Env} {R : Room} {s : State} {m : MethodId} {args : Array Value} {below : List Frame} {meth : Method} {c : Code} {H : Heap} {locs : List Loc} {cells slots : Nat}
variable {y : MethodName} {bytes cc : ByteArray} {maxL nL mc ms n index : Nat} {ret : Option FieldType} {ws : List Cond} {rm : Room} {Pc : Array Value → State → Prop} {Qc : Array Value → State → Outcome → State → Prop} {XC : String → State → State → Prop} {free : Addr → Prop} {Ts : List Cond} {own C : String} {b : Addr} {As rest : List Value} {g : JFrame}
theorem vx_callBack (cb : CallB R s args own index y bytes maxL ret ws rm mc ms n) (hM : vx_Met l y ws rm Pc Qc XC mc ms free) (hbl : FrameBlind Pc) : vx_Back l R p e below s args y 3 8 (PreOf R mc ms Pc) (PostOf Qc mc ms free) (vx_Post XC mc ms free) := by
  obtain ⟨hrc, hrs, hfr, hlo, hws, hcw, -, hini, -⟩ := cb
  exact vx_back (bytes := bytes) (maxL := maxL) (ret := ret) hM hbl hrc hrs hfr hlo hws hcw (fun a' U hW => word_at hW (Or.inl (by first | rfl | simp [Cond.onTables, Cond.keeps, Cond.steady])) hini)
theorem vx_runV (S : CallFix p m c cc nL s args Ts own) (hM : vx_Met l y ws rm Pc Qc XC mc ms free) (cw : CallW R s args own C index y bytes maxL ret ws rm mc ms n) (hp : PreV s H C b Pc As)
    (hg : g.method = m) (hn : As.length = n) (hsize : g.locals.size = nL) (hstack : g.stack = As.reverse ++ .ref b :: rest) (hW : 2 * g.monitorRoom + (rest.map fun v => v.category).sum ≤ 8) (hdg : decode cc g.pc = .ok (.invokevirtual index, 3)) (hf : cells + mc ≤ R.cells ∧ slots + ms ≤ R.slots) :
    vx_Run p l e R s m args below meth c H locs cells slots mc ms g rest (Qc (Value.ref b :: As).toArray) XC free := by
  have hK : vx_Back l R p e below s args y 3 8 (PreOf R mc ms Pc) (PostOf Qc mc ms free) (vx_Post XC mc ms free) := vx_callBack cw.1 hM hp.1
  obtain ⟨⟨-, -, -, -, -, -, hcode, -, hy, hlen, hl⟩, hin, hse⟩ := cw
  obtain ⟨hx, hb, hml, ho, -⟩ := S
  obtain ⟨-, ⟨cellB, hcB, hoB, hclB⟩, hPc⟩ := hp
  intro T hT X
  rcases vx_callV X hx (C := C) (bytes := bytes) (maxL := maxL) (ret := ret) ho hl hin hse hcode hy hK (by rw [hT]; exact hcB) hoB hclB hg (hsize.trans hml.symm) (argsL := As) (rest := rest) (fun sig h => hn.trans (hlen sig h)) hstack hW (by rw [hb]; exact hdg)
    (fun vm₁ hW₁ => ⟨hf.1, hf.2, hPc (T.setVm vm₁) hT hW₁⟩) with ⟨v, vm₁, ⟨U', l2, c2, s2⟩, hW₁, X', ⟨g', mk, t, L, e1, e2, hq, h1, hL, h2, h3⟩, st⟩ | ⟨q, vm₁, ⟨U', l2, c2, s2⟩, hW₁, X', ⟨g', mk, t, L, E, ce, e1, e2, hq, hce, hcv, hcl, h1, hL, h2, h3⟩, st⟩
  · dsimp only [Pt.U, Pt.locs, Pt.cells, Pt.slots] at X' e1 e2 h1 h2 h3 st
    subst h1; subst h2; subst h3
    exact Or.inl ⟨v, (T.setVm vm₁).calling g' mk (Value.ref b :: As).toArray, t, U', L, hT, X', hL, e1, e2, hq, st⟩
  · dsimp only [Pt.U, Pt.locs, Pt.cells, Pt.slots] at X' e1 e2 h1 h2 h3 st hcl
    subst h1; subst h2; subst h3
    exact Or.inr ⟨q, (T.setVm vm₁).calling g' mk (Value.ref b :: As).toArray, t, U', L, E, ce, hT, X', hL, e1, e2, hq, hce, hcv, vx_cls hW₁ hcl, st⟩
theorem vx_runS (S : CallFix p m c cc nL s args Ts own) (hM : vx_Met l y ws rm Pc Qc XC mc ms free) (cw : CallB R s args own index y bytes maxL ret ws rm mc ms n ∧ (Cond.static y).before args s = true) (hp : PreS s H Pc As)
    (hg : g.method = m) (hn : As.length = n) (hsize : g.locals.size = nL) (hstack : g.stack = As.reverse ++ rest) (hW : 2 * g.monitorRoom + (rest.map fun v => v.category).sum ≤ 8) (hdg : decode cc g.pc = .ok (.invokestatic index, 3)) (hf : cells + mc ≤ R.cells ∧ slots + ms ≤ R.slots) :
    vx_Run p l e R s m args below meth c H locs cells slots mc ms g rest (Qc As.toArray) XC free := by
  have hK : vx_Back l R p e below s args y 3 8 (PreOf R mc ms Pc) (PostOf Qc mc ms free) (vx_Post XC mc ms free) := vx_callBack cw.1 hM hp.1
  obtain ⟨⟨-, -, -, -, -, -, hcode, hini, hy, hlen, hl⟩, hstt⟩ := cw
  obtain ⟨hx, hb, hml, ho, -⟩ := S
  intro T hT X
  rcases vx_callS X hx (bytes := bytes) (maxL := maxL) (ret := ret) ho hl hstt hini hcode hy hK hg (hsize.trans hml.symm) (argsL := As) (rest := rest) (fun sig h => hn.trans (hlen sig h)) hstack hW (by rw [hb]; exact hdg)
    (fun vm₁ hW₁ => ⟨hf.1, hf.2, hp.2 (T.setVm vm₁) hT hW₁⟩) with ⟨v, vm₁, ⟨U', l2, c2, s2⟩, hW₁, X', ⟨g', mk, t, L, e1, e2, hq, h1, hL, h2, h3⟩, st⟩ | ⟨q, vm₁, ⟨U', l2, c2, s2⟩, hW₁, X', ⟨g', mk, t, L, E, ce, e1, e2, hq, hce, hcv, hcl, h1, hL, h2, h3⟩, st⟩
  · dsimp only [Pt.U, Pt.locs, Pt.cells, Pt.slots] at X' e1 e2 h1 h2 h3 st
    subst h1; subst h2; subst h3
    exact Or.inl ⟨v, (T.setVm vm₁).calling g' mk As.toArray, t, U', L, hT, X', hL, e1, e2, hq, st⟩
  · dsimp only [Pt.U, Pt.locs, Pt.cells, Pt.slots] at X' e1 e2 h1 h2 h3 st hcl
    subst h1; subst h2; subst h3
    exact Or.inr ⟨q, (T.setVm vm₁).calling g' mk As.toArray, t, U', L, E, ce, hT, X', hL, e1, e2, hq, hce, hcv, vx_cls hW₁ hcl, st⟩
end Runs
section Rows
variable {p : Program} {l : Launch} {e : Env} {R : Room} {s : State} {m : MethodId} {args : Array Value} {below : List Frame} {meth : Method} {c : Code} {H : Heap} {locs : List Loc} {cells slots : Nat} {Q : State → Prop}
variable {mc ms : Nat} {free : Addr → Prop} {A0 A1 : Nat → Prop} {H0 : Heap} {a : Array Value} {pc : Nat} {ls : Array Slot} {st0 rest : List Value}
theorem vx_keep {st₀ t T' : State} {L : List Loc} (h0 : st₀.heap = H) (e1 : T'.heap = t.heap) (hS : va_S A0 H0 H locs) (hA : ∀ q, q < H.size → A1 q → A0 q) (hf : ∀ q, free q → A0 q) (hL : ∀ q ∈ L, free q.base) (hF : va_F A1 st₀ t) :
    H.size ≤ T'.heap.size ∧ (∀ q : Nat, q < H.size → ¬ A1 q → T'.heap[q]? = H[q]?) ∧ va_S A0 H0 T'.heap (locs ++ L) := by
  obtain ⟨hz, hk⟩ := hF
  rw [h0] at hz hk
  exact ⟨by rw [e1]; exact hz, fun q h1 h2 => by rw [e1]; exact hk q h1 h2,
    ⟨Nat.le_trans hS.1 (by rw [e1]; exact hz), fun q h1 h2 => by rw [e1, hk q (Nat.lt_of_lt_of_le h1 hS.1) (fun z => h2 (hA q (Nat.lt_of_lt_of_le h1 hS.1) z))]; exact hS.2.1 q h1 h2, fun q hq => by
      rcases List.mem_append.mp hq with h | h
      · exact hS.2.2 q h
      · exact hf _ (hL q h)⟩⟩
theorem vx_calli {S SX : Type} {post : Int32 → S → Prop} {px : SX → Prop} {B : S → State → Prop} {BX : String → SX → State → Prop} {AX : Nat → Prop} (hr : vx_Run p l e R s m args below meth c H locs cells slots mc ms (F0 m pc ls st0) rest (va_Qi post B A1 a) (vx_X px BX AX) free) (hS : va_S A0 H0 H locs) (hA : ∀ q, q < H.size → A1 q → A0 q) (hf : ∀ q, free q → A0 q) (hAX : ∀ q, q < H.size → AX q → A0 q)
    (kx : ∀ (E : String) (ce : Cell) (q9 : Addr) (u : SX) (t : State) (H1 : Heap) (locs1 : List Loc), t.heap = H1 → s.vm.Alike t.vm → px u → BX E u t → H.size ≤ H1.size → (∀ q : Nat, q < H.size → ¬ AX q → H1[q]? = H[q]?) → va_S A0 H0 H1 locs1 → H1[q9]? = some ce → ce.vm = .none → s.vm.findClass E = some ce.cls → vx_W p l e R s m args below meth c H1 locs1 (cells + mc) (slots + ms) Q (F0 m pc ls rest) q9)
    (kk : ∀ (r : Int32) (u : S) (t : State) (H1 : Heap) (locs1 : List Loc), t.heap = H1 → s.vm.Alike t.vm → post r u → B u t → H.size ≤ H1.size → (∀ q : Nat, q < H.size → ¬ A1 q → H1[q]? = H[q]?) → va_S A0 H0 H1 locs1 → W p l e R s m args below meth c H1 locs1 (cells + mc) (slots + ms) Q (F0 m (pc + 3) ls (.int r :: rest))) : W p l e R s m args below meth c H locs cells slots Q (F0 m pc ls st0) := by
  intro T hT X
  rcases hr T hT X with ⟨v, st₀, t, T', L, h0, X', hL, e1, e2, ⟨⟨r, u, hv, hp, hb⟩, hF⟩, st⟩ | ⟨q, st₀, t, T', L, E, ce, h0, X', hL, e1, e2, ⟨u, hp, hb, hF⟩, hce, hcv, hcl, st⟩
  · cases hv
    obtain ⟨k1, k2, k3⟩ := vx_keep h0 e1 hS hA hf hL hF
    obtain ⟨t2, a1, b1⟩ := kk r u t T'.heap (locs ++ L) e1.symm (by rw [← e2]; exact X'.warmed.alike) hp hb k1 k2 k3 T' rfl X'
    exact ⟨t2, st t2 a1, b1⟩
  · obtain ⟨k1, k2, k3⟩ := vx_keep h0 e1 hS hAX hf hL hF
    obtain ⟨t2, a1, b1⟩ := kx E ce q u t T'.heap (locs ++ L) e1.symm (by rw [← e2]; exact X'.warmed.alike) hp hb k1 k2 k3 (by rw [e1]; exact hce) hcv hcl T' rfl X'
    exact ⟨t2, st.trans a1, b1⟩
theorem vx_calll {S SX : Type} {post : Int64 → S → Prop} {px : SX → Prop} {B : S → State → Prop} {BX : String → SX → State → Prop} {AX : Nat → Prop} (hr : vx_Run p l e R s m args below meth c H locs cells slots mc ms (F0 m pc ls st0) rest (va_Ql post B A1 a) (vx_X px BX AX) free) (hS : va_S A0 H0 H locs) (hA : ∀ q, q < H.size → A1 q → A0 q) (hf : ∀ q, free q → A0 q) (hAX : ∀ q, q < H.size → AX q → A0 q)
    (kx : ∀ (E : String) (ce : Cell) (q9 : Addr) (u : SX) (t : State) (H1 : Heap) (locs1 : List Loc), t.heap = H1 → s.vm.Alike t.vm → px u → BX E u t → H.size ≤ H1.size → (∀ q : Nat, q < H.size → ¬ AX q → H1[q]? = H[q]?) → va_S A0 H0 H1 locs1 → H1[q9]? = some ce → ce.vm = .none → s.vm.findClass E = some ce.cls → vx_W p l e R s m args below meth c H1 locs1 (cells + mc) (slots + ms) Q (F0 m pc ls rest) q9)
    (kk : ∀ (r : Int64) (u : S) (t : State) (H1 : Heap) (locs1 : List Loc), t.heap = H1 → s.vm.Alike t.vm → post r u → B u t → H.size ≤ H1.size → (∀ q : Nat, q < H.size → ¬ A1 q → H1[q]? = H[q]?) → va_S A0 H0 H1 locs1 → W p l e R s m args below meth c H1 locs1 (cells + mc) (slots + ms) Q (F0 m (pc + 3) ls (.long r :: rest))) : W p l e R s m args below meth c H locs cells slots Q (F0 m pc ls st0) := by
  intro T hT X
  rcases hr T hT X with ⟨v, st₀, t, T', L, h0, X', hL, e1, e2, ⟨⟨r, u, hv, hp, hb⟩, hF⟩, st⟩ | ⟨q, st₀, t, T', L, E, ce, h0, X', hL, e1, e2, ⟨u, hp, hb, hF⟩, hce, hcv, hcl, st⟩
  · cases hv
    obtain ⟨k1, k2, k3⟩ := vx_keep h0 e1 hS hA hf hL hF
    obtain ⟨t2, a1, b1⟩ := kk r u t T'.heap (locs ++ L) e1.symm (by rw [← e2]; exact X'.warmed.alike) hp hb k1 k2 k3 T' rfl X'
    exact ⟨t2, st t2 a1, b1⟩
  · obtain ⟨k1, k2, k3⟩ := vx_keep h0 e1 hS hAX hf hL hF
    obtain ⟨t2, a1, b1⟩ := kx E ce q u t T'.heap (locs ++ L) e1.symm (by rw [← e2]; exact X'.warmed.alike) hp hb k1 k2 k3 (by rw [e1]; exact hce) hcv hcl T' rfl X'
    exact ⟨t2, st.trans a1, b1⟩
theorem vx_callf {S SX : Type} {post : UInt32 → S → Prop} {px : SX → Prop} {B : S → State → Prop} {BX : String → SX → State → Prop} {AX : Nat → Prop} (hr : vx_Run p l e R s m args below meth c H locs cells slots mc ms (F0 m pc ls st0) rest (va_Qf post B A1 a) (vx_X px BX AX) free) (hS : va_S A0 H0 H locs) (hA : ∀ q, q < H.size → A1 q → A0 q) (hf : ∀ q, free q → A0 q) (hAX : ∀ q, q < H.size → AX q → A0 q)
    (kx : ∀ (E : String) (ce : Cell) (q9 : Addr) (u : SX) (t : State) (H1 : Heap) (locs1 : List Loc), t.heap = H1 → s.vm.Alike t.vm → px u → BX E u t → H.size ≤ H1.size → (∀ q : Nat, q < H.size → ¬ AX q → H1[q]? = H[q]?) → va_S A0 H0 H1 locs1 → H1[q9]? = some ce → ce.vm = .none → s.vm.findClass E = some ce.cls → vx_W p l e R s m args below meth c H1 locs1 (cells + mc) (slots + ms) Q (F0 m pc ls rest) q9)
    (kk : ∀ (r : UInt32) (u : S) (t : State) (H1 : Heap) (locs1 : List Loc), t.heap = H1 → s.vm.Alike t.vm → post r u → B u t → H.size ≤ H1.size → (∀ q : Nat, q < H.size → ¬ A1 q → H1[q]? = H[q]?) → va_S A0 H0 H1 locs1 → W p l e R s m args below meth c H1 locs1 (cells + mc) (slots + ms) Q (F0 m (pc + 3) ls (.float r :: rest))) : W p l e R s m args below meth c H locs cells slots Q (F0 m pc ls st0) := by
  intro T hT X
  rcases hr T hT X with ⟨v, st₀, t, T', L, h0, X', hL, e1, e2, ⟨⟨r, u, hv, hp, hb⟩, hF⟩, st⟩ | ⟨q, st₀, t, T', L, E, ce, h0, X', hL, e1, e2, ⟨u, hp, hb, hF⟩, hce, hcv, hcl, st⟩
  · cases hv
    obtain ⟨k1, k2, k3⟩ := vx_keep h0 e1 hS hA hf hL hF
    obtain ⟨t2, a1, b1⟩ := kk r u t T'.heap (locs ++ L) e1.symm (by rw [← e2]; exact X'.warmed.alike) hp hb k1 k2 k3 T' rfl X'
    exact ⟨t2, st t2 a1, b1⟩
  · obtain ⟨k1, k2, k3⟩ := vx_keep h0 e1 hS hAX hf hL hF
    obtain ⟨t2, a1, b1⟩ := kx E ce q u t T'.heap (locs ++ L) e1.symm (by rw [← e2]; exact X'.warmed.alike) hp hb k1 k2 k3 (by rw [e1]; exact hce) hcv hcl T' rfl X'
    exact ⟨t2, st.trans a1, b1⟩
theorem vx_calld {S SX : Type} {post : UInt64 → S → Prop} {px : SX → Prop} {B : S → State → Prop} {BX : String → SX → State → Prop} {AX : Nat → Prop} (hr : vx_Run p l e R s m args below meth c H locs cells slots mc ms (F0 m pc ls st0) rest (va_Qd post B A1 a) (vx_X px BX AX) free) (hS : va_S A0 H0 H locs) (hA : ∀ q, q < H.size → A1 q → A0 q) (hf : ∀ q, free q → A0 q) (hAX : ∀ q, q < H.size → AX q → A0 q)
    (kx : ∀ (E : String) (ce : Cell) (q9 : Addr) (u : SX) (t : State) (H1 : Heap) (locs1 : List Loc), t.heap = H1 → s.vm.Alike t.vm → px u → BX E u t → H.size ≤ H1.size → (∀ q : Nat, q < H.size → ¬ AX q → H1[q]? = H[q]?) → va_S A0 H0 H1 locs1 → H1[q9]? = some ce → ce.vm = .none → s.vm.findClass E = some ce.cls → vx_W p l e R s m args below meth c H1 locs1 (cells + mc) (slots + ms) Q (F0 m pc ls rest) q9)
    (kk : ∀ (r : UInt64) (u : S) (t : State) (H1 : Heap) (locs1 : List Loc), t.heap = H1 → s.vm.Alike t.vm → post r u → B u t → H.size ≤ H1.size → (∀ q : Nat, q < H.size → ¬ A1 q → H1[q]? = H[q]?) → va_S A0 H0 H1 locs1 → W p l e R s m args below meth c H1 locs1 (cells + mc) (slots + ms) Q (F0 m (pc + 3) ls (.double r :: rest))) : W p l e R s m args below meth c H locs cells slots Q (F0 m pc ls st0) := by
  intro T hT X
  rcases hr T hT X with ⟨v, st₀, t, T', L, h0, X', hL, e1, e2, ⟨⟨r, u, hv, hp, hb⟩, hF⟩, st⟩ | ⟨q, st₀, t, T', L, E, ce, h0, X', hL, e1, e2, ⟨u, hp, hb, hF⟩, hce, hcv, hcl, st⟩
  · cases hv
    obtain ⟨k1, k2, k3⟩ := vx_keep h0 e1 hS hA hf hL hF
    obtain ⟨t2, a1, b1⟩ := kk r u t T'.heap (locs ++ L) e1.symm (by rw [← e2]; exact X'.warmed.alike) hp hb k1 k2 k3 T' rfl X'
    exact ⟨t2, st t2 a1, b1⟩
  · obtain ⟨k1, k2, k3⟩ := vx_keep h0 e1 hS hAX hf hL hF
    obtain ⟨t2, a1, b1⟩ := kx E ce q u t T'.heap (locs ++ L) e1.symm (by rw [← e2]; exact X'.warmed.alike) hp hb k1 k2 k3 (by rw [e1]; exact hce) hcv hcl T' rfl X'
    exact ⟨t2, st.trans a1, b1⟩
theorem vx_callv {S SX : Type} {post : S → Prop} {px : SX → Prop} {B : S → State → Prop} {BX : String → SX → State → Prop} {AX : Nat → Prop} (hr : vx_Run p l e R s m args below meth c H locs cells slots mc ms (F0 m pc ls st0) rest (va_Qv post B A1 a) (vx_X px BX AX) free) (hS : va_S A0 H0 H locs) (hA : ∀ q, q < H.size → A1 q → A0 q) (hf : ∀ q, free q → A0 q) (hAX : ∀ q, q < H.size → AX q → A0 q)
    (kx : ∀ (E : String) (ce : Cell) (q9 : Addr) (u : SX) (t : State) (H1 : Heap) (locs1 : List Loc), t.heap = H1 → s.vm.Alike t.vm → px u → BX E u t → H.size ≤ H1.size → (∀ q : Nat, q < H.size → ¬ AX q → H1[q]? = H[q]?) → va_S A0 H0 H1 locs1 → H1[q9]? = some ce → ce.vm = .none → s.vm.findClass E = some ce.cls → vx_W p l e R s m args below meth c H1 locs1 (cells + mc) (slots + ms) Q (F0 m pc ls rest) q9)
    (kk : ∀ (u : S) (t : State) (H1 : Heap) (locs1 : List Loc), t.heap = H1 → s.vm.Alike t.vm → post u → B u t → H.size ≤ H1.size → (∀ q : Nat, q < H.size → ¬ A1 q → H1[q]? = H[q]?) → va_S A0 H0 H1 locs1 → W p l e R s m args below meth c H1 locs1 (cells + mc) (slots + ms) Q (F0 m (pc + 3) ls (rest))) : W p l e R s m args below meth c H locs cells slots Q (F0 m pc ls st0) := by
  intro T hT X
  rcases hr T hT X with ⟨v, st₀, t, T', L, h0, X', hL, e1, e2, ⟨⟨u, hv, hp, hb⟩, hF⟩, st⟩ | ⟨q, st₀, t, T', L, E, ce, h0, X', hL, e1, e2, ⟨u, hp, hb, hF⟩, hce, hcv, hcl, st⟩
  · cases hv
    obtain ⟨k1, k2, k3⟩ := vx_keep h0 e1 hS hA hf hL hF
    obtain ⟨t2, a1, b1⟩ := kk u t T'.heap (locs ++ L) e1.symm (by rw [← e2]; exact X'.warmed.alike) hp hb k1 k2 k3 T' rfl X'
    exact ⟨t2, st t2 a1, b1⟩
  · obtain ⟨k1, k2, k3⟩ := vx_keep h0 e1 hS hAX hf hL hF
    obtain ⟨t2, a1, b1⟩ := kx E ce q u t T'.heap (locs ++ L) e1.symm (by rw [← e2]; exact X'.warmed.alike) hp hb k1 k2 k3 (by rw [e1]; exact hce) hcv hcl T' rfl X'
    exact ⟨t2, st.trans a1, b1⟩
/-- caught by the row x of this method's table; the rows ahead don't take it -/
theorem vx_catch {own name : String} {E : String} {ce : Cell} {q : Addr} (hown : s.vm.findClass own = some m.cls) (pre : List ExceptionTableEntry) (x : ExceptionTableEntry) (suf : List ExceptionTableEntry) (hsplit : c.exceptionTable.toList = pre ++ x :: suf)
    (hpass : ∀ z ∈ pre, covers z pc = false ∨ (z.catchType ≠ 0 ∧ ∃ nm : String, (Cond.classLink own z.catchType nm).before args s = true ∧ va_Nc E nm s)) (hx : covers x pc = true) (h0 : x.catchType ≠ 0)
    (hlink : (Cond.classLink own x.catchType name).before args s = true) (hcast : (Cond.castable E name).before args s = true) (hcell : H[q]? = some ce) (hv : ce.vm = .none) (hcl : s.vm.findClass E = some ce.cls)
    (kk : W p l e R s m args below meth c H locs cells slots Q (F0 m x.handlerPc ls [.ref q])) : vx_W p l e R s m args below meth c H locs cells slots Q (F0 m pc ls rest) q := by
  intro T hT X
  have hpl : e.platform.magicAccessors = ({} : Platform).magicAccessors := by rw [X.admits.platform]
  obtain ⟨c3, c4, hc3, hc4, hasg⟩ := Cond.castable_spec hcast
  cases Option.some.inj (hc3.symm.trans hcl)
  obtain ⟨c5, hc5, hcl5⟩ := Cond.classLink_spec hown hlink e.platform hpl
  cases Option.some.inj (hc4.symm.trans hc5)
  obtain ⟨vm', X', st⟩ := X.thenCaughtThrough q (g := F0 m pc ls rest) rfl (Steps.refl _) (by rw [hT]; exact hcell) (by rw [hv]; rfl) (by obtain ⟨k9, h9, -⟩ := Vm.findClass_spec hcl; exact ⟨k9, h9⟩) pre x suf hsplit
    (fun z hz => by
      rcases hpass z hz with h | ⟨hz0, nm, hl1, hn1⟩
      · exact Or.inl h
      · obtain ⟨c6, hc6, hcl6⟩ := Cond.classLink_spec hown hl1 e.platform hpl
        obtain ⟨a8, b8, h1, h2, h3⟩ := hn1
        cases Option.some.inj (h1.symm.trans hcl)
        cases Option.some.inj (h2.symm.trans hc6)
        exact Or.inr ⟨hz0, _, hcl6, h3⟩) hx (Or.inr ⟨h0, c4, hcl5, hasg⟩)
  obtain ⟨t, a1, b1⟩ := kk (T.setVm vm') hT X'
  exact ⟨t, st.trans a1, b1⟩
end Rows
section Ends
variable {p : Program} {l : Launch} {e : Env} {R : Room} {s : State} {m : MethodId} {args : Array Value} {below : List Frame} {meth : Method} {c : Code} {H : Heap} {locs : List Loc} {cells slots : Nat} {Q : State → Prop}
variable {mc ms : Nat} {free : Addr → Prop} {A0 A1 : Nat → Prop} {H0 : Heap} {a : Array Value} {ls : Array Slot} {st0 rest : List Value}
variable {Qc : Array Value → State → Outcome → State → Prop} {XC : String → State → State → Prop}
/-- what a body that may throw owes at its end -/
def vx_MQ (below : List Frame) (Qc : Array Value → State → Outcome → State → Prop) (XC : String → State → State → Prop) (a : Array Value) (s : State) (mc ms : Nat) (free : Addr → Prop) : State → Prop := fun t =>
  ∃ o, t.status = .running ∧ Ended t below o ∧ vx_Q Qc XC mc ms free a s o t
theorem vx_ret {g : JFrame} {mc ms : Nat} (k : W p l e R s m args below meth c H locs cells slots (MQ below Qc args s mc ms free) g) : W p l e R s m args below meth c H locs cells slots (vx_MQ below Qc XC args s mc ms free) g := by
  intro T hT X
  obtain ⟨t, a1, o, b1, b2, b3, b4⟩ := k T hT X
  exact ⟨t, a1, o, b1, b2, Or.inl ⟨b3, b4⟩⟩
/-- not caught here: it goes on to the caller -/
theorem vx_widen {g : JFrame} {q : Addr} {k n : Nat} (h1 : cells ≤ k) (h2 : slots ≤ n) (kk : vx_W p l e R s m args below meth c H locs k n Q g q) : vx_W p l e R s m args below meth c H locs cells slots Q g q := fun T hT X => kk T hT (stand_widen X h1 h2)
theorem vx_out {pc : Nat} {E : String} {ce : Cell} {q : Addr} {mc ms : Nat} (hout : ∀ x ∈ c.exceptionTable.toList, covers x pc = false) (hlocks : meth.locks = false) (hcell : H[q]? = some ce) (hv : ce.vm = .none) (hcl : s.vm.findClass E = some ce.cls)
    (hx : ∀ t : State, t.heap = H → s.vm.Alike t.vm → XC E s t) (hf : ∀ z ∈ locs, free z.base) (hc : cells ≤ mc) (hs : slots ≤ ms) :
    vx_W p l e R s m args below meth c H locs cells slots (vx_MQ below Qc XC args s mc ms free) (F0 m pc ls rest) q := by
  intro T hT X
  obtain ⟨st1, hrun, hend, hW, hsm⟩ := X.leaveThrown q (g := F0 m pc ls rest) rfl rfl rfl hout hlocks
  have hcell9 : (T.setFrames (.throwing q :: below)).heap[q]? = some ce := by
    show T.heap[q]? = some ce
    rw [hT]; exact hcell
  exact ⟨_, st1, .threw q, hrun, hend, Or.inr ⟨q, rfl, E, ce, locs, hx _ hT hW.alike, hcell9, hv, hcl, hW, hsm.mono hc hs, hf⟩⟩
theorem vx_frame {U : State} {k n : Nat} (h : s.sameButNew ({ U with vm := s.vm } : State) locs k n) : s.heap.size ≤ U.heap.size ∧ ∀ q : Nat, q < s.heap.size → (∀ z ∈ locs, z.base ≠ q) → U.heap[q]? = s.heap[q]? := by
  obtain ⟨-, h2, -, -, -, h6⟩ := h
  refine ⟨h2, fun q hq hz => ?_⟩
  obtain ⟨c9, e1, e2, e3, e4⟩ := h6 q _ (Array.getElem?_eq_getElem hq)
  have hs : c9.slots = (s.heap[q]).slots := Array.ext_getElem? fun i => e4 i fun hm => hz _ hm rfl
  have h9 : c9 = s.heap[q] := by
    rw [hs] at e2
    exact e2
  have e5 : U.heap[q]? = some c9 := e1
  rw [e5, h9, Array.getElem?_eq_getElem hq]
/-- the words of a throw but the four that speak of the heap -/
def vx_no (w : Cond) : Bool := decide (w ≠ .isRef (.static Bundle.tN "UNASSIGNED_STACK" Bundle.steD)) && decide (w ≠ .isRef (.static Bundle.tN "SUPPRESSED_SENTINEL" Bundle.listD)) && decide (w ≠ .laysStatic Bundle.tN "UNASSIGNED_STACK" Bundle.steD) && decide (w ≠ .laysStatic Bundle.tN "SUPPRESSED_SENTINEL" Bundle.listD)
def vx_at0 (own : String) (ic : Nat) (X : String) (names : List String) : List Cond := (Bundle.ownAtoms0 own ic X names).filter vx_no
def vx_atS (own : String) (ic : Nat) (X : String) (names : List String) : List Cond := (Bundle.ownAtoms own ic X names).filter vx_no
/-- a word that the tables alone decide, or a good one -/
def vx_ot (w : Cond) : Bool := w.onTables || goodWord w
theorem vx_ot_at {args a' : Array Value} {s U : State} {w : Cond} (hW : s.WarmedH U.vm) (hvm : s.vm = U.vm) (hg : vx_ot w = true) (h : w.before args s = true) : w.before a' U = true := by
  simp only [vx_ot, Bool.or_eq_true] at hg
  rcases hg with hg | hg
  · exact va_tabs hg hvm h
  · exact word_at hW (good_of_word hg) h
/-- a list's words: the good ones out of the method's own list, the others by premises of their own -/
theorem vx_hat {args : Array Value} {s : State} {L B : List Cond} (h1 : ∀ w ∈ L.filter goodWord, w.before args s = true) (h2 : ∀ w ∈ L.filter (fun w => !goodWord w), w ∈ B) (h3 : ∀ w ∈ B, w.before args s = true) : ∀ w ∈ L, w.before args s = true := by
  intro w hw
  by_cases g : goodWord w = true
  · exact h1 w (List.mem_filter.mpr ⟨hw, g⟩)
  · refine h3 w (h2 w (List.mem_filter.mpr ⟨hw, ?_⟩))
    show (!goodWord w) = true
    cases hgw : goodWord w
    · rfl
    · exact absurd hgw g
theorem vx_c {args : Array Value} {s : State} {w : Cond} {B : List Cond} (h : w.before args s = true) (t : ∀ w ∈ B, w.before args s = true) : ∀ w' ∈ w :: B, w'.before args s = true := fun w' h' => (List.mem_cons.mp h').elim (fun e => by rw [e]; exact h) (t w')
theorem vx_n {args : Array Value} {s : State} : ∀ w ∈ ([] : List Cond), w.before args s = true := fun _ h => nomatch h
theorem vx_own {args : Array Value} {s : State} {L : List Cond} (h1 : ∀ w ∈ L.filter vx_no, w.before args s = true)
    (hU : (Cond.isRef (.static Bundle.tN "UNASSIGNED_STACK" Bundle.steD)).before args s = true) (hN : (Cond.isRef (.static Bundle.tN "SUPPRESSED_SENTINEL" Bundle.listD)).before args s = true)
    (lU : (Cond.laysStatic Bundle.tN "UNASSIGNED_STACK" Bundle.steD).before args s = true) (lN : (Cond.laysStatic Bundle.tN "SUPPRESSED_SENTINEL" Bundle.listD).before args s = true) : ∀ w ∈ L, w.before args s = true := by
  intro w hw
  by_cases e1 : w = .isRef (.static Bundle.tN "UNASSIGNED_STACK" Bundle.steD)
  · rw [e1]; exact hU
  · by_cases e2 : w = .isRef (.static Bundle.tN "SUPPRESSED_SENTINEL" Bundle.listD)
    · rw [e2]; exact hN
    · by_cases e3 : w = .laysStatic Bundle.tN "UNASSIGNED_STACK" Bundle.steD
      · rw [e3]; exact lU
      · by_cases e4 : w = .laysStatic Bundle.tN "SUPPRESSED_SENTINEL" Bundle.listD
        · rw [e4]; exact lN
        · exact h1 w (List.mem_filter.mpr ⟨hw, by unfold vx_no; rw [decide_eq_true e1, decide_eq_true e2, decide_eq_true e3, decide_eq_true e4]; rfl⟩)
/-- where a static field lies, its class's statics cell in H -/
def vx_L (C n d : String) (A : Nat → Prop) (U : State) (H : Heap) : Prop := ∃ (c : ClassId) (k : Class) (i : Nat) (f : Field) (a : Nat) (cell : Cell), U.vm.findClass C = some c ∧ U.fieldFound? C n d = some (c, k, i, f) ∧ f.isStatic = true ∧ k.statics = some a ∧ H[a]? = some cell ∧ cell.vm.isStatics = true ∧ cell.cls = c ∧ f.slot < cell.slots.size ∧ k.staticTypes[f.slot]? = some f.type ∧ ¬ A a
theorem vx_L.moved {C n d : String} {A : Nat → Prop} {u U : State} {H : Heap} (hvm : u.vm.Alike U.vm) (h : vx_L C n d A u H) : vx_L C n d A U H := by
  obtain ⟨c, k, i, f, a, cell, h1, h2, h3, h4, h5, h6, h7, h8, h9, h10⟩ := h
  obtain ⟨k', hi', he⟩ := State.fieldFound?_setVm hvm h2
  exact ⟨c, k', i, f, a, cell, by rw [hvm.findClass]; exact h1, hi', h3, by rw [he]; exact h4, h5, h6, h7, h8, by rw [he]; exact h9, h10⟩
theorem vx_L.kept {C n d : String} {A : Nat → Prop} {U : State} {H H1 : Heap} (h : vx_L C n d A U H) (hq : ∀ a : Nat, a < H.size → ¬ A a → H1[a]? = H[a]?) : vx_L C n d A U H1 := by
  obtain ⟨c, k, i, f, a, cell, h1, h2, h3, h4, h5, h6, h7, h8, h9, h10⟩ := h
  exact ⟨c, k, i, f, a, cell, h1, h2, h3, h4, by rw [hq a (Array.getElem?_eq_some_iff.mp h5).1 h10]; exact h5, h6, h7, h8, h9, h10⟩
theorem vx_L.narrow {C n d : String} {A B : Nat → Prop} {U : State} {H : Heap} (h : vx_L C n d A U H) (hAB : ∀ q, B q → A q) : vx_L C n d B U H := by
  obtain ⟨c, k, i, f, a, cell, h1, h2, h3, h4, h5, h6, h7, h8, h9, h10⟩ := h
  exact ⟨c, k, i, f, a, cell, h1, h2, h3, h4, h5, h6, h7, h8, h9, fun z => h10 (hAB _ z)⟩
theorem vx_L.word {C n d : String} {A : Nat → Prop} {s : State} {args : Array Value} (h : vx_L C n d A s s.heap) : (Cond.laysStatic C n d).before args s = true := by
  obtain ⟨c, k, i, f, a, cell, h1, h2, h3, h4, h5, h6, h7, h8, h9, -⟩ := h
  show (Cond.laysStatic C n d).holds args s none s [] = true
  exact Cond.laysStatic_of h1 h2 h3 h4 h5 h6 h7 h8 h9
/-- .. and what it holds: null or some reference -/
def vx_Zq (C n d : String) (A : Nat → Prop) (U : State) (H : Heap) : Prop := va_Zq C n d A U H ∧ vx_L C n d A U H
theorem vx_Zq.moved {C n d : String} {A : Nat → Prop} {u U : State} {H : Heap} (hvm : u.vm.Alike U.vm) (h : vx_Zq C n d A u H) : vx_Zq C n d A U H := ⟨va_Zq.moved hvm h.1, vx_L.moved hvm h.2⟩
theorem vx_Zq.kept {C n d : String} {A : Nat → Prop} {U : State} {H H1 : Heap} (h : vx_Zq C n d A U H) (hq : ∀ a : Nat, a < H.size → ¬ A a → H1[a]? = H[a]?) : vx_Zq C n d A U H1 := ⟨va_Zq.kept h.1 hq, vx_L.kept h.2 hq⟩
theorem vx_Zq.narrow {C n d : String} {A B : Nat → Prop} {U : State} {H : Heap} (h : vx_Zq C n d A U H) (hAB : ∀ q, B q → A q) : vx_Zq C n d B U H := ⟨va_Zq.narrow h.1 hAB, vx_L.narrow h.2 hAB⟩
theorem vx_Zqof {args : Array Value} {s : State} {C n d : String} {A : Nat → Prop} (hl : (Cond.laysStatic C n d).before args s = true) (hini : (Cond.initialized C).before args s = true) (h : (Cond.isRef (.static C n d)).before args s = true) (hA : ∀ a : Nat, a < s.heap.size → ¬ A a) : vx_Zq C n d A s s.heap := by
  refine ⟨va_Zqof hl hini h hA, ?_⟩
  obtain ⟨c, k, i, f, a, cell, h1, h2, h3, h4, h5, h6, h7, h8, h9⟩ := Cond.laysStatic_spec hl
  exact ⟨c, k, i, f, a, cell, h1, h2, h3, h4, h5, h6, h7, h8, h9, hA a (Array.getElem?_eq_some_iff.mp h5).1⟩
theorem vx_isRef {C n d : String} {v : Value} {A : Nat → Prop} {s : State} {args : Array Value} (h : va_Z C n d v A s s.heap) (hv : v.isRef = true) : (Cond.isRef (.static C n d)).before args s = true := by
  obtain ⟨cf, kf, fi, f, a, cell, h1, h2, h3, h4, h5, h6, h7, -⟩ := h
  have he : (Term.static C n d).eval args s none [] s = some v := by
    simp [Term.eval, State.fieldNamed?, h1, h2, h4, h5, h6, h7]
  simp only [Cond.before, Cond.holds, Cond.value, he]
  cases v <;> simp_all [Value.isRef]
theorem vx_isRefq {C n d : String} {A : Nat → Prop} {s : State} {args : Array Value} (h : va_Zq C n d A s s.heap) : (Cond.isRef (.static C n d)).before args s = true := by
  rcases h with h | ⟨t, h⟩
  · exact vx_isRef h rfl
  · exact vx_isRef h rfl
/-- the same frame, seen from here: as if the method were called anew in this heap -/
theorem vx_rebase {T : State} (X : Stand p l e R s m args below meth c T locs cells slots) {R' : Room} (hf : R'.frames ≤ R.frames) (hl : R'.locals ≤ R.locals) (hc : cells + R'.cells ≤ R.cells) (hs : slots + R'.slots ≤ R.slots) :
    Stand p l e R' ((T.setVm s.vm).setFrames (.invoking m args :: below)) m args below meth c T [] 0 0 := by
  have htop : (T.setVm s.vm).topJava?.isSome := X.here.top
  have hF : ((T.setVm s.vm).setFrames (.invoking m args :: below)).frames = .invoking m args :: below := State.frames_setFrames _ (State.cur_lt_of_top htop)
  obtain ⟨g₀, hg0⟩ := Option.isSome_iff_exists.mp htop
  obtain ⟨r, hr⟩ := State.topJava?_eq_some.mp hg0
  have hl9 : e.platform.stackLimits (T.setVm s.vm).me = e.platform.stackLimits s.me := X.limits
  have hb9 : (T.setVm s.vm).me.stackBytes = s.me.stackBytes := X.bytes
  refine ⟨X.admits, X.cas, X.clock, hF, ?_, X.hears, X.method, X.code, X.here, X.tail, X.warmed, ?_, ?_, ?_⟩
  · have h := X.room
    have hU : ((T.setVm s.vm).setFrames (.invoking m args :: below)).localsInUse = s.localsInUse := by
      rw [State.localsInUse_invoking hF (meth := meth) (c := c) X.method X.code, State.localsInUse_invoking X.frames X.method X.code]
    simp only [State.hasRoom, Bool.and_eq_true, decide_eq_true_eq] at h ⊢
    obtain ⟨⟨⟨⟨h1, h2, h3, h4, h5, h6⟩, h7⟩, h8⟩, h9⟩ := h
    rw [X.frames, List.length_cons] at h2 h3
    have q1 := X.heapSize
    have q2 := X.used
    simp only [hF, hU, List.length_cons, State.stackLimits_setFrames, State.stackBytes_setFrames, hl9, hb9]
    refine ⟨⟨⟨⟨by omega, by omega, by omega, by omega, by omega, h6⟩, ?_⟩, ?_⟩, X.book⟩
    · show T.heap.size + R'.cells ≤ e.platform.maxCells
      omega
    · show T.slotsUsed + R'.slots ≤ e.platform.maxSlots
      omega
  · rw [State.stackLimits_setFrames]; rfl
  · rw [State.stackBytes_setFrames]; rfl
  · refine ⟨?_, Nat.le_refl _, Nat.le_refl _, ?_, ?_, fun a c9 h9 => ⟨c9, h9, rfl, rfl, fun _ _ => rfl⟩⟩
    · obtain ⟨t, ht, -⟩ := State.frames_cons hr
      show T.setVm s.vm = { ((T.setVm s.vm).setFrames (.invoking m args :: below)).setFrames (T.setVm s.vm).frames with heap := T.heap, slotsUsed := T.slotsUsed }
      rw [State.setFrames_setFrames, State.setFrames_self ht]
      rfl
    · show T.slotsUsed = T.slotsUsed + ((T.heap.toList.drop T.heap.size).map (·.slots.size)).sum
      rw [List.drop_eq_nil_of_le (Nat.le_of_eq Array.length_toList)]
      rfl
    · show ((T.heap.toList.drop T.heap.size).map (·.slots.size)).sum ≤ 0
      rw [List.drop_eq_nil_of_le (Nat.le_of_eq Array.length_toList)]
      exact Nat.le_refl _
/-- 'throw new E()': new; dup; invokespecial; athrow -/
theorem vx_throw0 {cc : ByteArray} {pc : Nat} (hexec : p.tables.exec = Jvm.exec) (hb : c.code = cc) (hl : l.stackTraces = false) {own cls : String} {names : List String} {ik ic mc ms : Nat} {A : Nat → Prop}
    (hown : s.vm.findClass own = some m.cls) (hcls : Bundle.fit cls = true) (hnames : ∀ n ∈ names, Bundle.fit n = true)
    (hk : (Cond.classLink own ik cls).before args s = true) (hini : (Cond.initialized cls).before args s = true) (hat : ∀ w ∈ vx_at0 own ic cls names, w.before args s = true)
    (hgood : ∀ w ∈ Cond.classLink own ik cls :: Cond.initialized cls :: vx_at0 own ic cls names, vx_ot w = true)
    (hU : vx_Zq Bundle.tN "UNASSIGNED_STACK" Bundle.steD A s s.heap) (hN : vx_Zq Bundle.tN "SUPPRESSED_SENTINEL" Bundle.listD A s s.heap) (hS : va_S A s.heap H locs) (hsize : ls.size = c.maxLocals)
    (d0 : decode cc pc = .ok (.new ik, 3)) (d3 : decode cc (pc + 3) = .ok (.dup, 1)) (d4 : decode cc (pc + 4) = .ok (.invokespecial ic, 3)) (d7 : decode cc (pc + 7) = .ok (.athrow, 1))
    (hout : ∀ x ∈ c.exceptionTable.toList, covers x (pc + 7) = false)
    (hRframes : names.length + 3 < R.frames) (hRlocals : (rest.map fun v => v.category).sum + (13 * (names.length + 1) + 42) ≤ R.locals) (hRcells : cells + 1 ≤ R.cells) (hRslots : slots + 6 ≤ R.slots) (hlocks : meth.locks = false)
    (hx : ∀ t : State, s.vm.Alike t.vm → H.size ≤ t.heap.size → (∀ q : Nat, q < H.size → t.heap[q]? = H[q]?) → XC cls s t)
    (hf : ∀ z ∈ locs, free z.base) (hc : cells + 1 ≤ mc) (hs : slots + 6 ≤ ms) :
    W p l e R s m args below meth c H locs cells slots (vx_MQ below Qc XC args s mc ms free) (F0 m pc ls rest) := by
  intro T hT X
  have htr : e.platform.stackTraces = false := (show e.platform.stackTraces = l.stackTraces by rw [X.admits.platform]).trans hl
  have Y := vx_rebase X (R' := { frames := R.frames, locals := R.locals, cells := 1, slots := 6 }) (Nat.le_refl _) (Nat.le_refl _) hRcells hRslots
  obtain ⟨s', hA⟩ : ∃ z, z = (T.setVm s.vm).setFrames (.invoking m args :: below) := ⟨_, rfl⟩
  rw [← hA] at Y
  have hvm : s'.vm = s.vm := by rw [hA]; rfl
  have hhp : s'.heap = H := by rw [hA]; exact hT
  have hW0 : s.WarmedH s'.vm := by rw [hvm]; exact State.WarmedH.refl s
  have hat' : ∀ w ∈ vx_at0 own ic cls names, w.before args s' = true := fun w hw => vx_ot_at hW0 hvm.symm (hgood w (List.mem_cons_of_mem _ (List.mem_cons_of_mem _ hw))) (hat w hw)
  have hk' : (Cond.classLink own ik cls).before args s' = true := vx_ot_at hW0 hvm.symm (hgood _ List.mem_cons_self) hk
  have hini' : (Cond.initialized cls).before args s' = true := vx_ot_at hW0 hvm.symm (hgood _ (List.mem_cons_of_mem _ List.mem_cons_self)) hini
  have hU' : vx_Zq Bundle.tN "UNASSIGNED_STACK" Bundle.steD A s' s'.heap := by rw [hhp]; exact vx_Zq.moved hW0.alike (hU.kept hS.2.1)
  have hN' : vx_Zq Bundle.tN "SUPPRESSED_SENTINEL" Bundle.listD A s' s'.heap := by rw [hhp]; exact vx_Zq.moved hW0.alike (hN.kept hS.2.1)
  have h : ∀ w ∈ Bundle.ownAtoms0 own ic cls names, w.before args s' = true := vx_own hat' (vx_isRefq hU'.1) (vx_isRefq hN'.1) hU'.2.word hN'.2.word
  have hown' : s'.vm.findClass own = some m.cls := by rw [hvm]; exact hown
  have hins : (Cond.instantiable cls 6).before args s' = true := h _ (by simp [Bundle.ownAtoms0])
  obtain ⟨vm₁, cX, kX, hfX, hkX, -, -, X₁, st1⟩ := Y.newCold hexec (own := own) (C := cls) (index := ik) (n := 6) hown' hk' hins hini'
    (g := F0 m pc ls rest) rfl (by rw [hb]; exact d0) (Nat.le_refl _) (Nat.le_refl _)
  generalize hT1 : (T.setVm vm₁).pushCell { cls := cX, slots := kX.instanceTypes.map defaultValue, vm := .none } = T1 at X₁ st1
  have hcat : (Value.ref T.heap.size).category = 1 := rfl
  have hcellA : T1.heap[T.heap.size]? = some (freshCell cX kX) := by rw [← hT1]; exact State.heap_pushCell_size _ _
  have d3' : decode c.code (pc + 3) = .ok (.dup, 1) := by rw [hb]; exact d3
  obtain ⟨U, hsteps, hrun, hend, hW, hsame, ce, hce, hO⟩ := X₁.ctorThrow0 hexec htr (own := own) (cls := cls) (names := names) (ic := ic) hown' hcls hnames h (fun x hx => nomatch hx) hfX hkX hcellA (by rw [hhp, hT]; exact Nat.le_refl _)
    (g := { method := m, pc := pc + 4, locals := ls, stack := .ref T.heap.size :: .ref T.heap.size :: rest, locked := none }) rfl hsize rfl rfl (rest := rest) rfl
    (by rw [hb]; exact d4) (by rw [hb]; exact d7) hout hRframes (by simp only [List.map_cons, List.sum_cons, hcat]; omega) hlocks
  obtain ⟨f1, f2⟩ := vx_frame hsame
  rw [hhp] at f1 f2
  have hWs : s.WarmedH U.vm := State.WarmedH.trans hW0 hW
  have hcl : s.vm.findClass cls = some ce.cls := by
    have h9 := hO.cls
    rw [hvm] at h9
    exact h9
  have hall : s.sameButNew ({ U with vm := s.vm } : State) locs mc ms := by
    subst hA
    obtain ⟨e1, e2⟩ := hsame
    rw [State.setFrames_setFrames] at e1
    have h2 : (T.setVm s.vm).sameButNew ({ U with vm := s.vm } : State) [] (0 + 1) (0 + 6) := ⟨e1, e2⟩
    have h3 := X.same.trans h2
    rw [List.append_nil] at h3
    exact h3.mono hc hs
  refine ⟨U, ?_, .threw T.heap.size, hrun, hend, Or.inr ⟨T.heap.size, rfl, cls, ce, locs, hx U hWs.alike f1 (fun q hq => f2 q hq (fun z hz => nomatch hz)), hce, hO.vm, hcl, hWs, hall, hf⟩⟩
  refine st1 _ ?_
  show Steps p.tables e below (T1.setTop { method := m, pc := pc + 3, locals := ls, stack := .ref T.heap.size :: rest, locked := none }) _
  jvm_step X₁.here [X₁.here.top, hexec, d3', Value.category]
  exact hsteps
/-- 'throw new E("text")': new; dup; ldc; invokespecial; athrow -/
theorem vx_throwS {cc : ByteArray} {pc : Nat} (hexec : p.tables.exec = Jvm.exec) (hb : c.code = cc) (hl : l.stackTraces = false) {own cls text : String} {names : List String} {ik is ic mc ms sa : Nat} {A : Nat → Prop}
    (hown : s.vm.findClass own = some m.cls) (hcls : Bundle.fit cls = true) (hnames : ∀ n ∈ names, Bundle.fit n = true)
    (hk : (Cond.classLink own ik cls).before args s = true) (hini : (Cond.initialized cls).before args s = true) (hstr : vk_R own is text sa s) (hat : ∀ w ∈ vx_atS own ic cls names, w.before args s = true)
    (hgood : ∀ w ∈ Cond.classLink own ik cls :: Cond.initialized cls :: vx_atS own ic cls names, vx_ot w = true)
    (hU : vx_Zq Bundle.tN "UNASSIGNED_STACK" Bundle.steD A s s.heap) (hN : vx_Zq Bundle.tN "SUPPRESSED_SENTINEL" Bundle.listD A s s.heap) (hS : va_S A s.heap H locs) (hsize : ls.size = c.maxLocals)
    (d0 : decode cc pc = .ok (.new ik, 3)) (d3 : decode cc (pc + 3) = .ok (.dup, 1)) (d4 : decode cc (pc + 4) = .ok (.ldc is, 2)) (d6 : decode cc (pc + 6) = .ok (.invokespecial ic, 3)) (d9 : decode cc (pc + 9) = .ok (.athrow, 1))
    (hout : ∀ x ∈ c.exceptionTable.toList, covers x (pc + 9) = false)
    (hRframes : names.length + 3 < R.frames) (hRlocals : (rest.map fun v => v.category).sum + (13 * (names.length + 1) + 43) ≤ R.locals) (hRcells : cells + 1 ≤ R.cells) (hRslots : slots + 6 ≤ R.slots) (hlocks : meth.locks = false)
    (hx : ∀ t : State, s.vm.Alike t.vm → H.size ≤ t.heap.size → (∀ q : Nat, q < H.size → t.heap[q]? = H[q]?) → XC cls s t)
    (hf : ∀ z ∈ locs, free z.base) (hc : cells + 1 ≤ mc) (hs : slots + 6 ≤ ms) :
    W p l e R s m args below meth c H locs cells slots (vx_MQ below Qc XC args s mc ms free) (F0 m pc ls rest) := by
  intro T hT X
  have htr : e.platform.stackTraces = false := (show e.platform.stackTraces = l.stackTraces by rw [X.admits.platform]).trans hl
  have Y := vx_rebase X (R' := { frames := R.frames, locals := R.locals, cells := 1, slots := 6 }) (Nat.le_refl _) (Nat.le_refl _) hRcells hRslots
  obtain ⟨s', hA⟩ : ∃ z, z = (T.setVm s.vm).setFrames (.invoking m args :: below) := ⟨_, rfl⟩
  rw [← hA] at Y
  have hvm : s'.vm = s.vm := by rw [hA]; rfl
  have hhp : s'.heap = H := by rw [hA]; exact hT
  have hW0 : s.WarmedH s'.vm := by rw [hvm]; exact State.WarmedH.refl s
  have hat' : ∀ w ∈ vx_atS own ic cls names, w.before args s' = true := fun w hw => vx_ot_at hW0 hvm.symm (hgood w (List.mem_cons_of_mem _ (List.mem_cons_of_mem _ hw))) (hat w hw)
  have hk' : (Cond.classLink own ik cls).before args s' = true := vx_ot_at hW0 hvm.symm (hgood _ List.mem_cons_self) hk
  have hini' : (Cond.initialized cls).before args s' = true := vx_ot_at hW0 hvm.symm (hgood _ (List.mem_cons_of_mem _ List.mem_cons_self)) hini
  have hU' : vx_Zq Bundle.tN "UNASSIGNED_STACK" Bundle.steD A s' s'.heap := by rw [hhp]; exact vx_Zq.moved hW0.alike (hU.kept hS.2.1)
  have hN' : vx_Zq Bundle.tN "SUPPRESSED_SENTINEL" Bundle.listD A s' s'.heap := by rw [hhp]; exact vx_Zq.moved hW0.alike (hN.kept hS.2.1)
  have h : ∀ w ∈ Bundle.ownAtoms own ic cls names, w.before args s' = true := vx_own hat' (vx_isRefq hU'.1) (vx_isRefq hN'.1) hU'.2.word hN'.2.word
  have hown' : s'.vm.findClass own = some m.cls := by rw [hvm]; exact hown
  have hins : (Cond.instantiable cls 6).before args s' = true := h _ (by simp [Bundle.ownAtoms])
  obtain ⟨vm₁, cX, kX, hfX, hkX, -, -, X₁, st1⟩ := Y.newCold hexec (own := own) (C := cls) (index := ik) (n := 6) hown' hk' hins hini'
    (g := F0 m pc ls rest) rfl (by rw [hb]; exact d0) (Nat.le_refl _) (Nat.le_refl _)
  generalize hT1 : (T.setVm vm₁).pushCell { cls := cX, slots := kX.instanceTypes.map defaultValue, vm := .none } = T1 at X₁ st1
  have hcat : (Value.ref T.heap.size).category = 1 := rfl
  have hcellA : T1.heap[T.heap.size]? = some (freshCell cX kX) := by rw [← hT1]; exact State.heap_pushCell_size _ _
  have d3' : decode c.code (pc + 3) = .ok (.dup, 1) := by rw [hb]; exact d3
  have d4' : decode c.code (pc + 4) = .ok (.ldc is, 2) := by rw [hb]; exact d4
  have hstr' : vk_R own is text sa s' := vk_R.warm hW0 hstr
  obtain ⟨U, hsteps, hrun, hend, hW, hsame, ce, hce, hO⟩ := X₁.ctorThrowS hexec htr (own := own) (cls := cls) (names := names) (ic := ic) hown' hcls hnames h (fun x hx => nomatch hx) hfX hkX hcellA (by rw [hhp, hT]; exact Nat.le_refl _) (msg := .ref sa) rfl
    (g := { method := m, pc := pc + 6, locals := ls, stack := .ref sa :: .ref T.heap.size :: .ref T.heap.size :: rest, locked := none }) rfl hsize rfl rfl (rest := rest) rfl
    (by rw [hb]; exact d6) (by rw [hb]; exact d9) hout hRframes (by simp only [List.map_cons, List.sum_cons, hcat]; omega) hlocks
  obtain ⟨f1, f2⟩ := vx_frame hsame
  rw [hhp] at f1 f2
  have hWs : s.WarmedH U.vm := State.WarmedH.trans hW0 hW
  have hcl : s.vm.findClass cls = some ce.cls := by
    have h9 := hO.cls
    rw [hvm] at h9
    exact h9
  have hall : s.sameButNew ({ U with vm := s.vm } : State) locs mc ms := by
    subst hA
    obtain ⟨e1, e2⟩ := hsame
    rw [State.setFrames_setFrames] at e1
    have h2 : (T.setVm s.vm).sameButNew ({ U with vm := s.vm } : State) [] (0 + 1) (0 + 6) := ⟨e1, e2⟩
    have h3 := X.same.trans h2
    rw [List.append_nil] at h3
    exact h3.mono hc hs
  refine ⟨U, ?_, .threw T.heap.size, hrun, hend, Or.inr ⟨T.heap.size, rfl, cls, ce, locs, hx U hWs.alike f1 (fun q hq => f2 q hq (fun z hz => nomatch hz)), hce, hO.vm, hcl, hWs, hall, hf⟩⟩
  refine st1 _ ?_
  show Steps p.tables e below (T1.setTop { method := m, pc := pc + 3, locals := ls, stack := .ref T.heap.size :: rest, locked := none }) _
  jvm_step X₁.here [X₁.here.top, hexec, d3', Value.category]
  exact X₁.ldcString hexec (own := own) (text := text) (index := is) (a := sa) hown' hstr'.1 hstr'.2
    (g := { method := m, pc := pc + 4, locals := ls, stack := .ref T.heap.size :: .ref T.heap.size :: rest, locked := none }) rfl d4' _ hsteps
/-- 'throw new E("text")', the text by a wide index -/
theorem vx_throwSW {cc : ByteArray} {pc : Nat} (hexec : p.tables.exec = Jvm.exec) (hb : c.code = cc) (hl : l.stackTraces = false) {own cls text : String} {names : List String} {ik is ic mc ms sa : Nat} {A : Nat → Prop}
    (hown : s.vm.findClass own = some m.cls) (hcls : Bundle.fit cls = true) (hnames : ∀ n ∈ names, Bundle.fit n = true)
    (hk : (Cond.classLink own ik cls).before args s = true) (hini : (Cond.initialized cls).before args s = true) (hstr : vk_R own is text sa s) (hat : ∀ w ∈ vx_atS own ic cls names, w.before args s = true)
    (hgood : ∀ w ∈ Cond.classLink own ik cls :: Cond.initialized cls :: vx_atS own ic cls names, vx_ot w = true)
    (hU : vx_Zq Bundle.tN "UNASSIGNED_STACK" Bundle.steD A s s.heap) (hN : vx_Zq Bundle.tN "SUPPRESSED_SENTINEL" Bundle.listD A s s.heap) (hS : va_S A s.heap H locs) (hsize : ls.size = c.maxLocals)
    (d0 : decode cc pc = .ok (.new ik, 3)) (d3 : decode cc (pc + 3) = .ok (.dup, 1)) (d4 : decode cc (pc + 4) = .ok (.ldc_w is, 3)) (d7 : decode cc (pc + 7) = .ok (.invokespecial ic, 3)) (d10 : decode cc (pc + 10) = .ok (.athrow, 1))
    (hout : ∀ x ∈ c.exceptionTable.toList, covers x (pc + 10) = false)
    (hRframes : names.length + 3 < R.frames) (hRlocals : (rest.map fun v => v.category).sum + (13 * (names.length + 1) + 43) ≤ R.locals) (hRcells : cells + 1 ≤ R.cells) (hRslots : slots + 6 ≤ R.slots) (hlocks : meth.locks = false)
    (hx : ∀ t : State, s.vm.Alike t.vm → H.size ≤ t.heap.size → (∀ q : Nat, q < H.size → t.heap[q]? = H[q]?) → XC cls s t)
    (hf : ∀ z ∈ locs, free z.base) (hc : cells + 1 ≤ mc) (hs : slots + 6 ≤ ms) :
    W p l e R s m args below meth c H locs cells slots (vx_MQ below Qc XC args s mc ms free) (F0 m pc ls rest) := by
  intro T hT X
  have htr : e.platform.stackTraces = false := (show e.platform.stackTraces = l.stackTraces by rw [X.admits.platform]).trans hl
  have Y := vx_rebase X (R' := { frames := R.frames, locals := R.locals, cells := 1, slots := 6 }) (Nat.le_refl _) (Nat.le_refl _) hRcells hRslots
  obtain ⟨s', hA⟩ : ∃ z, z = (T.setVm s.vm).setFrames (.invoking m args :: below) := ⟨_, rfl⟩
  rw [← hA] at Y
  have hvm : s'.vm = s.vm := by rw [hA]; rfl
  have hhp : s'.heap = H := by rw [hA]; exact hT
  have hW0 : s.WarmedH s'.vm := by rw [hvm]; exact State.WarmedH.refl s
  have hat' : ∀ w ∈ vx_atS own ic cls names, w.before args s' = true := fun w hw => vx_ot_at hW0 hvm.symm (hgood w (List.mem_cons_of_mem _ (List.mem_cons_of_mem _ hw))) (hat w hw)
  have hk' : (Cond.classLink own ik cls).before args s' = true := vx_ot_at hW0 hvm.symm (hgood _ List.mem_cons_self) hk
  have hini' : (Cond.initialized cls).before args s' = true := vx_ot_at hW0 hvm.symm (hgood _ (List.mem_cons_of_mem _ List.mem_cons_self)) hini
  have hU' : vx_Zq Bundle.tN "UNASSIGNED_STACK" Bundle.steD A s' s'.heap := by rw [hhp]; exact vx_Zq.moved hW0.alike (hU.kept hS.2.1)
  have hN' : vx_Zq Bundle.tN "SUPPRESSED_SENTINEL" Bundle.listD A s' s'.heap := by rw [hhp]; exact vx_Zq.moved hW0.alike (hN.kept hS.2.1)
  have h : ∀ w ∈ Bundle.ownAtoms own ic cls names, w.before args s' = true := vx_own hat' (vx_isRefq hU'.1) (vx_isRefq hN'.1) hU'.2.word hN'.2.word
  have hown' : s'.vm.findClass own = some m.cls := by rw [hvm]; exact hown
  have hins : (Cond.instantiable cls 6).before args s' = true := h _ (by simp [Bundle.ownAtoms])
  obtain ⟨vm₁, cX, kX, hfX, hkX, -, -, X₁, st1⟩ := Y.newCold hexec (own := own) (C := cls) (index := ik) (n := 6) hown' hk' hins hini'
    (g := F0 m pc ls rest) rfl (by rw [hb]; exact d0) (Nat.le_refl _) (Nat.le_refl _)
  generalize hT1 : (T.setVm vm₁).pushCell { cls := cX, slots := kX.instanceTypes.map defaultValue, vm := .none } = T1 at X₁ st1
  have hcat : (Value.ref T.heap.size).category = 1 := rfl
  have hcellA : T1.heap[T.heap.size]? = some (freshCell cX kX) := by rw [← hT1]; exact State.heap_pushCell_size _ _
  have d3' : decode c.code (pc + 3) = .ok (.dup, 1) := by rw [hb]; exact d3
  have d4' : decode c.code (pc + 4) = .ok (.ldc_w is, 3) := by rw [hb]; exact d4
  have hstr' : vk_R own is text sa s' := vk_R.warm hW0 hstr
  obtain ⟨U, hsteps, hrun, hend, hW, hsame, ce, hce, hO⟩ := X₁.ctorThrowS hexec htr (own := own) (cls := cls) (names := names) (ic := ic) hown' hcls hnames h (fun x hx => nomatch hx) hfX hkX hcellA (by rw [hhp, hT]; exact Nat.le_refl _) (msg := .ref sa) rfl
    (g := { method := m, pc := pc + 7, locals := ls, stack := .ref sa :: .ref T.heap.size :: .ref T.heap.size :: rest, locked := none }) rfl hsize rfl rfl (rest := rest) rfl
    (by rw [hb]; exact d7) (by rw [hb]; exact d10) hout hRframes (by simp only [List.map_cons, List.sum_cons, hcat]; omega) hlocks
  obtain ⟨f1, f2⟩ := vx_frame hsame
  rw [hhp] at f1 f2
  have hWs : s.WarmedH U.vm := State.WarmedH.trans hW0 hW
  have hcl : s.vm.findClass cls = some ce.cls := by
    have h9 := hO.cls
    rw [hvm] at h9
    exact h9
  have hall : s.sameButNew ({ U with vm := s.vm } : State) locs mc ms := by
    subst hA
    obtain ⟨e1, e2⟩ := hsame
    rw [State.setFrames_setFrames] at e1
    have h2 : (T.setVm s.vm).sameButNew ({ U with vm := s.vm } : State) [] (0 + 1) (0 + 6) := ⟨e1, e2⟩
    have h3 := X.same.trans h2
    rw [List.append_nil] at h3
    exact h3.mono hc hs
  refine ⟨U, ?_, .threw T.heap.size, hrun, hend, Or.inr ⟨T.heap.size, rfl, cls, ce, locs, hx U hWs.alike f1 (fun q hq => f2 q hq (fun z hz => nomatch hz)), hce, hO.vm, hcl, hWs, hall, hf⟩⟩
  refine st1 _ ?_
  show Steps p.tables e below (T1.setTop { method := m, pc := pc + 3, locals := ls, stack := .ref T.heap.size :: rest, locked := none }) _
  jvm_step X₁.here [X₁.here.top, hexec, d3', Value.category]
  exact X₁.ldcStringW hexec (own := own) (text := text) (index := is) (a := sa) hown' hstr'.1 hstr'.2
    (g := { method := m, pc := pc + 4, locals := ls, stack := .ref T.heap.size :: .ref T.heap.size :: rest, locked := none }) rfl d4' _ hsteps
end Ends
section Bodies
variable {l : Launch}
theorem vx_ofW {y : MethodName} {ws ws' : List Cond} {rm : Room} {Pc : Array Value → State → Prop} {Qc : Array Value → State → Outcome → State → Prop} {XC : String → State → State → Prop} {mc ms : Nat} {free : Addr → Prop} {cc : ByteArray} {maxL : Nat} {ret : Option FieldType}
    (hy : plainName y.cls = true) (hw : ws = Cond.code y cc maxL ret :: ws')
    (body : ∀ p e s m args below meth c s₁, BodyLoose p l y (headSpec ws rm) cc maxL ret e s m args below meth c s₁ → c.maxLocals = maxL → (∀ x ∈ c.exceptionTable.toList, False) → Pc args s →
      W p l e (headSpec ws rm).room s m args below meth c s.heap [] 0 0 (vx_MQ below Qc XC args s mc ms free) (entryFrame m args maxL)) : vx_Met l y ws rm Pc Qc XC mc ms free := by
  refine MetFree.of_bodyS (code := cc) (maxLocals := maxL) (ret := ret) hy ?_ ?_
  · intro args s m h hn
    obtain ⟨meth, c, h1, h2, h3, h4, h5, h6, -, -⟩ := Cond.code_spec hn (atoms_spec (ws := ws) h _ (by rw [hw]; exact List.mem_cons_self))
    exact ⟨meth, c, h1, h2, h3, h4, h5, h6⟩
  · intro p e s m args below meth c s₁ B hml hP _
    have hh0 : s₁.heap = s.heap := by rw [B.state]; rfl
    have ht : ∀ x ∈ c.exceptionTable.toList, False := by
      obtain ⟨meth9, c9, h1, h2, -, -, -, -, h7, -⟩ := Cond.code_spec B.named (atoms_spec (ws := ws) B.pre _ (by rw [hw]; exact List.mem_cons_self))
      cases Option.some.inj (h1.symm.trans B.method)
      cases Option.some.inj (h2.symm.trans (Stand.of_body B).code)
      intro x hx
      rw [Array.isEmpty_iff.mp h7] at hx
      cases hx
    obtain ⟨t, a1, o, b1, b2, b3⟩ := body p e s m args below meth c s₁ B hml ht hP s₁ hh0 (Stand.of_body B)
    exact ⟨t, o, a1, b1, b2, b3⟩
/-- the table of a body with handlers -/
theorem vx_table {p : Program} {x y : MethodName} {S : Spec} {cc bytes : ByteArray} {maxL maxL' : Nat} {ret ret' : Option FieldType} {e : Env} {s s₁ : State} {m : MethodId} {args : Array Value} {below : List Frame} {meth : Method} {c : Code} {hh : List (Nat × Nat × Nat × Nat)}
    (B : BodyLoose p l y S cc maxL ret e s m args below meth c s₁) (h : (Cond.codeWith y bytes maxL' ret' hh).before args s = true) : c.exceptionTable.toList = tableOf hh := by
  obtain ⟨m9, meth9, c9, hn9, h1, h2, -, -, h6, -⟩ := Cond.codeWith_spec h
  cases Option.some.inj (hn9.symm.trans B.named)
  cases Option.some.inj (h1.symm.trans B.method)
  cases Option.some.inj (h2.symm.trans (Stand.of_body B).code)
  rw [← h6, table_eq]
end Bodies
end VXA
/-! ===== END ===== -/
/-! ===== BEGIN a static call of a method with an exception table ===== -/
section VXS
variable {p : Program} {l : Launch} {e : Env} {R : Room} {s : State} {m : MethodId} {args : Array Value} {below : List Frame} {meth : Method} {c : Code} {T : State} {H : Heap} {locs : List Loc} {cells slots : Nat}
abbrev vx_CSW (R : Room) (s : State) (args : Array Value) (own : String) (index : Nat) (y : MethodName) (bytes : ByteArray) (maxL : Nat) (ret : Option FieldType) (hh : List (Nat × Nat × Nat × Nat)) (ws : List Cond) (rm : Room) (mc ms n : Nat) : Prop :=
  (rm.cells = mc ∧ rm.slots = ms ∧ rm.frames + 1 ≤ R.frames ∧ 8 + (maxL + 11) + rm.locals ≤ R.locals ∧ (∀ w ∈ ws, ∀ (a' : Array Value) (U : State), s.WarmedH U.vm → w.before a' U = true) ∧ Cond.codeWith y bytes maxL ret hh ∈ ws) ∧
  (Cond.codeWith y bytes maxL ret hh).before args s = true ∧ (Cond.initialized y.cls).before args s = true ∧ (y.cls ≠ "java/lang/invoke/MethodHandle" ∧ y.cls ≠ "java/lang/invoke/VarHandle") ∧
  (∀ sig, parseMethodDescriptor y.desc = some sig → n = sig.parameters.length) ∧ (Cond.methodLink own index y).before args s = true ∧ (Cond.static y).before args s = true
theorem vx_cwSW {own : String} {index maxL mc ms : Nat} {y : MethodName} {bytes : ByteArray} {ret : Option FieldType} {hh : List (Nat × Nat × Nat × Nat)} {Ts ws ws' : List Cond} {rm : Room} (n : Nat) (ht : ∀ w ∈ Ts, w.before args s = true) (hT : GoodIn Ts (va_wsS own index y ws)) (hw : ws = Cond.codeWith y bytes maxL ret hh :: ws') (hrc : rm.cells = mc) (hrs : rm.slots = ms)
    (hd : y.cls ≠ "java/lang/invoke/MethodHandle" ∧ y.cls ≠ "java/lang/invoke/VarHandle" ∧ (parseMethodDescriptor y.desc).map (fun d => d.parameters.length) = some n) (hR : rm.frames + 1 ≤ R.frames ∧ 8 + (maxL + 11) + rm.locals ≤ R.locals) :
    vx_CSW R s args own index y bytes maxL ret hh ws rm mc ms n := by
  have ok : ∀ w ∈ va_wsS own index y ws, w.before args s = true := fun w h => ht w (hT w h).1
  have hG : GoodIn Ts ws := fun w h => hT w (by unfold va_wsS; exact List.mem_append_right _ h)
  have hc : Cond.codeWith y bytes maxL ret hh ∈ ws := by rw [hw]; exact List.mem_cons_self
  refine ⟨⟨hrc, hrs, hR.1, hR.2, pay_in ht hG, hc⟩, ht _ (hG _ hc).1, ok _ (by simp [va_wsS]), ⟨hd.1, hd.2.1⟩, fun sig h => ?_, ok _ (by simp [va_wsS]), ok _ (by simp [va_wsS])⟩
  have h2 := hd.2.2
  rw [h] at h2
  exact (Option.some.inj h2).symm
theorem vx_callSW (X : Stand p l e R s m args below meth c T locs cells slots) (hexec : p.tables.exec = Jvm.exec) {own : String} {index : Nat} {y : MethodName} {bytes : ByteArray} {maxL : Nat} {ret : Option FieldType} {hh : List (Nat × Nat × Nat × Nat)}
    (hown : s.vm.findClass own = some m.cls) (hlink : (Cond.methodLink own index y).before args s = true) (hstat : (Cond.static y).before args s = true) (hinit : (Cond.initialized y.cls).before args s = true)
    (hcode : (Cond.codeWith y bytes maxL ret hh).before args s = true) (hy : y.cls ≠ "java/lang/invoke/MethodHandle" ∧ y.cls ≠ "java/lang/invoke/VarHandle")
    {W9 : Nat} {Pre : Pt → Array Value → Prop} {Post : Pt → Array Value → Option Value → Pt → Prop} (hK : Back l R p e below s args y 3 W9 Pre Post)
    {g : JFrame} (hg : g.method = m) (hsize : g.locals.size = c.maxLocals) {argsL rest : List Value} (hlen : ∀ sig, parseMethodDescriptor y.desc = some sig → argsL.length = sig.parameters.length)
    (hstack : g.stack = argsL.reverse ++ rest) (hW : 2 * g.monitorRoom + (rest.map fun v => v.category).sum ≤ W9) (hdg : decode c.code g.pc = .ok (.invokestatic index, 3))
    (hpre : ∀ vm₁, s.WarmedH vm₁ → Pre ⟨T.setVm vm₁, locs, cells, slots⟩ argsL.toArray) :
    ∃ (v : Option Value) (vm₁ : Vm) (B : Pt), s.WarmedH vm₁ ∧ Stand p l e R s m args below meth c B.U B.locs B.cells B.slots ∧ Post ⟨T.setVm vm₁, locs, cells, slots⟩ argsL.toArray v B ∧
      ∀ target, Steps p.tables e below (B.U.setTop { g with pc := g.pc + 3, stack := v.toList ++ rest }) target → Steps p.tables e below (T.setTop g) target := by
  obtain ⟨mk, methM, cM, hnamed, hmethM, -, -, -, -, -, -, hsigM⟩ := Cond.codeWith_spec hcode
  have hstatic : methM.isStatic = true := Cond.static_spec hnamed hmethM hstat
  obtain ⟨kP, hkP, -⟩ := className_of_methodNamed hnamed
  have hinitP : kP.init = .initialized := Cond.initialized_spec (findClass_of_methodNamed hnamed) hkP hinit
  obtain ⟨vm₁, X₁, hstep₁⟩ := X.invokestatic hexec hown hlink hnamed hmethM hstatic hkP hinitP hy (g := g) hg (argsL := argsL) (rest := rest) (hlen _ hsigM) hstack hdg
  obtain ⟨v, B, X', hpost, hsteps⟩ := hK m meth c ⟨T.setVm vm₁, locs, cells, slots⟩ { g with stack := rest } (.invokestatic index) mk argsL.toArray X₁ hg hsize hdg hW (X₁.named hnamed) (hpre vm₁ X₁.warmed)
  exact ⟨v, vm₁, B, X₁.warmed, X', hpost, fun target h => hstep₁ _ fun acts => by rw [doInvoke_state]; exact hsteps.trans h⟩
theorem vx_runSW {y : MethodName} {bytes cc : ByteArray} {maxL nL mc ms n index : Nat} {ret : Option FieldType} {hh : List (Nat × Nat × Nat × Nat)} {ws : List Cond} {rm : Room} {Pc : Array Value → State → Prop} {Qc : Array Value → State → Outcome → State → Prop} {free : Addr → Prop} {Ts : List Cond} {own : String} {As rest : List Value} {g : JFrame}
    (S : CallFix p m c cc nL s args Ts own) (hM : Met l y ws rm Pc Qc mc ms free) (cw : vx_CSW R s args own index y bytes maxL ret hh ws rm mc ms n) (hp : PreS s H Pc As)
    (hg : g.method = m) (hn : As.length = n) (hsize : g.locals.size = nL) (hstack : g.stack = As.reverse ++ rest) (hW : 2 * g.monitorRoom + (rest.map fun v => v.category).sum ≤ 8) (hdg : decode cc g.pc = .ok (.invokestatic index, 3)) (hf : cells + mc ≤ R.cells ∧ slots + ms ≤ R.slots) :
    va_Run p l e R s m args below meth c H locs cells slots mc ms g rest (Qc As.toArray) (free) := by
  obtain ⟨⟨hrc, hrs, hfr, hlo, hws, hcw⟩, hcode, hini, hy, hlen, hl, hstt⟩ := cw
  have hK : Back l R p e below s args y 3 8 (PreOf R mc ms Pc) (PostOf Qc mc ms free) := va_backW (hh := hh) (bytes := bytes) (maxL := maxL) (ret := ret) hM hp.1 hrc hrs hfr hlo hws hcw (fun a' U hW => word_at hW (Or.inl (by first | rfl | simp [Cond.onTables, Cond.keeps, Cond.steady])) hini)
  obtain ⟨hx, hb, hml, ho, -⟩ := S
  intro T hT X
  obtain ⟨v, vm₁, ⟨U', l2, c2, s2⟩, hW₁, X', ⟨g', mk, t, L, e1, e2, hq, h1, hL, h2, h3⟩, st⟩ := vx_callSW X hx (hh := hh) (bytes := bytes) (maxL := maxL) (ret := ret) ho hl hstt hini hcode hy hK hg (hsize.trans hml.symm) (argsL := As) (rest := rest) (fun sig h => hn.trans (hlen sig h)) hstack hW (by rw [hb]; exact hdg)
    (fun vm₁ hW₁ => ⟨hf.1, hf.2, hp.2 (T.setVm vm₁) hT hW₁⟩)
  dsimp only [Pt.U, Pt.locs, Pt.cells, Pt.slots] at X' e1 e2 h1 h2 h3 st
  subst h1; subst h2; subst h3
  exact ⟨v, (T.setVm vm₁).calling g' mk As.toArray, t, U', L, hT, X', hL, e1, e2, hq, st⟩
/-- not caught here, past rows that name other classes: it goes on to the caller -/
theorem vx_outP {p : Program} {l : Launch} {e : Env} {R : Room} {s : State} {m : MethodId} {args : Array Value} {below : List Frame} {meth : Method} {c : Code} {H : Heap} {locs : List Loc} {cells slots : Nat} {free : Addr → Prop} {ls : Array Slot} {rest : List Value} {Qc : Array Value → State → Outcome → State → Prop} {XC : String → State → State → Prop}
    {pc : Nat} {own E : String} {ce : Cell} {q : Addr} {mc ms : Nat} (hown : s.vm.findClass own = some m.cls) (hlocks : meth.locks = false)
    (hpass : ∀ z ∈ c.exceptionTable.toList, covers z pc = false ∨ (z.catchType ≠ 0 ∧ ∃ nm : String, (Cond.classLink own z.catchType nm).before args s = true ∧ va_Nc E nm s)) (hcell : H[q]? = some ce) (hv : ce.vm = .none) (hcl : s.vm.findClass E = some ce.cls)
    (hx : ∀ t : State, t.heap = H → s.vm.Alike t.vm → XC E s t) (hf : ∀ z ∈ locs, free z.base) (hc : cells ≤ mc) (hs : slots ≤ ms) :
    vx_W p l e R s m args below meth c H locs cells slots (vx_MQ below Qc XC args s mc ms free) (F0 m pc ls rest) q := by
  intro T hT X
  have hpl : e.platform.magicAccessors = ({} : Platform).magicAccessors := by rw [X.admits.platform]
  obtain ⟨vm', hW', X', st⟩ := X.outThrough hlocks q (g := F0 m pc ls rest) rfl rfl rfl (cell := ce) (by rw [hT]; exact hcell) (by rw [hv]; rfl)
    (by obtain ⟨k9, h9, -⟩ := Vm.findClass_spec hcl; exact ⟨k9, h9⟩) (fun z hz => by
      rcases hpass z hz with h | ⟨hz0, nm, hl1, hn1⟩
      · exact Or.inl h
      · obtain ⟨c6, hc6, hcl6⟩ := Cond.classLink_spec hown hl1 e.platform hpl
        obtain ⟨a8, b8, h1, h2, h3⟩ := hn1
        cases Option.some.inj (h1.symm.trans hcl)
        cases Option.some.inj (h2.symm.trans hc6)
        exact Or.inr ⟨hz0, _, hcl6, h3⟩)
  obtain ⟨g₀, hfr⟩ := X'.frames_eq
  have hcell9 : ((T.setVm vm').setFrames (.throwing q :: below)).heap[q]? = some ce := by
    show T.heap[q]? = some ce
    rw [hT]; exact hcell
  have hend : Ended ((T.setVm vm').setFrames (.throwing q :: below)) below (.threw q) := State.frames_setFrames _ (State.cur_lt_of_frames hfr)
  refine ⟨(T.setVm vm').setFrames (.throwing q :: below), ?_, .threw q, X'.here.running, hend, Or.inr ⟨q, rfl, E, ce, locs, hx _ hT (X'.ends _).1.alike, hcell9, hv, hcl, (X'.ends _).1, (X'.ends _).2.mono hc hs, hf⟩⟩
  rw [X.pushThrowing_eq]
  exact st
/-- a thing of a world lies in the heap -/
theorem vx_lt {D : va_G} {cl : List vw_C} {ws : va_W} {H1 : Heap} (h : va_P D cl ws H1) {k : Nat} {q : Nat × va_E} (hk : ws[k]? = some q) : q.1 < H1.size := (h k q hk).lt
end VXS
/-! ===== END ===== -/
/-! ===== BEGIN methods with a table of their own: called by a name, returning or throwing ===== -/
section VXH
/-! vx_backW, vx_callVX, vx_callSX, vx_callVW, vx_runVW, vx_runVX, vx_runSX, vx_ofWH follow the same proofs as their sisters above (Free/Laws.lean, Shelf42/LK1.lean); vx_outP calls Shelf42/NT130.lean (outThrough). -/
section
variable {l : Launch} {R : Room} {p : Program} {e : Env} {below : List Frame} {s : State} {sargs : Array Value} {y : MethodName} {len W9 : Nat}
theorem vx_backW {ws : List Cond} {rm : Room} {Pc : Array Value → State → Prop} {Qc : Array Value → State → Outcome → State → Prop} {XC : String → State → State → Prop} {mc ms : Nat} {free : Addr → Prop} {bytes : ByteArray} {maxL : Nat} {ret : Option FieldType} {hh : List (Nat × Nat × Nat × Nat)}
    (hM : vx_Met l y ws rm Pc Qc XC mc ms free) (hblind : FrameBlind Pc) (hrc : rm.cells = mc) (hrs : rm.slots = ms)
    (hframes : rm.frames + 1 ≤ R.frames) (hlocals : W9 + (maxL + 11) + rm.locals ≤ R.locals)
    (hws : ∀ w ∈ ws, ∀ a' U, s.WarmedH U.vm → w.before a' U = true) (hcode : Cond.codeWith y bytes maxL ret hh ∈ ws) (hinit : ∀ a' U, s.WarmedH U.vm → (Cond.initialized y.cls).before a' U = true) :
    vx_Back l R p e below s sargs y len W9 (PreOf R mc ms Pc) (PostOf Qc mc ms free) (vx_Post XC mc ms free) := by
  intro m meth c A g ig mk a X hg hsize hdg hW hn hp
  have h1 : (headSpec ws rm).pre.before a A.U = true := atoms_intro fun w hw => hws w hw _ _ X.warmed
  have h2 : (Cond.codeWith y bytes maxL ret hh).before a A.U = true := hws _ hcode _ _ X.warmed
  have h3 : (Cond.initialized y.cls).before a A.U = true := hinit _ _ X.warmed
  have h4 : A.cells + (headSpec ws rm).room.cells ≤ R.cells := by rw [show (headSpec ws rm).room.cells = mc from hrc]; exact hp.1
  have h5 : A.slots + (headSpec ws rm).room.slots ≤ R.slots := by rw [show (headSpec ws rm).room.slots = ms from hrs]; exact hp.2.1
  have hPc : Pc a (A.U.calling g mk a) := hblind _ _ _ _ hp.2.2
  obtain ⟨U, Ls, c0, s0⟩ := A
  dsimp only [Pt.U, Pt.locs, Pt.cells, Pt.slots] at h1 h2 h3 h4 h5 X hn hPc ⊢
  obtain ⟨m9, methY, cY, hn9, hmY, hcY, -, hlY, -⟩ := Cond.codeWith_spec h2
  cases Option.some.inj (hn9.symm.trans hn)
  obtain ⟨kY, hkY, -⟩ := className_of_methodNamed hn
  have hinitY : kY.init = .initialized := Cond.initialized_spec (findClass_of_methodNamed hn) hkY h3
  have h : At U g.method c below := by rw [hg]; exact X.here
  have hlocals9 : W9 + (maxL + 11) + (headSpec ws rm).room.locals ≤ R.locals := hlocals
  have happ : (headSpec ws rm).appliesLoose y e.platform (U.calling g mk a) = true :=
    Spec.appliesLoose_calling (g := g) h hdg hn hkY hinitY
      (X.room_calling (g := g) (R' := (headSpec ws rm).room) hsize hmY hcY hframes (by rw [hlY]; omega) h4 h5) h1
  obtain ⟨mid, hmid⟩ := h.above
  have hfr : (U.setTop g).frames = (.java g :: mid) ++ below := by rw [State.frames_setTop' g h.top, hmid]; rfl
  obtain ⟨o, s₂, hsteps, -, hend, hq⟩ := Steps.callFree hM p X.admits X.cas X.clock (acts := []) hfr happ hPc trivial
  have hq' : vx_Q Qc XC mc ms free a (U.calling g mk a) o s₂ := hq
  rw [State.frames_setTop' g h.top] at hend
  obtain ⟨g₀, hg0⟩ := Option.isSome_iff_exists.mp h.top
  obtain ⟨r, hr⟩ := State.topJava?_eq_some.mp hg0
  have hr' : (({ U with heap := s₂.heap, slotsUsed := s₂.slotsUsed } : State).setVm s₂.vm).frames = .java g₀ :: r := hr
  rcases hq' with ⟨hqc, L, hfe, hL⟩ | ⟨q, rfl, E, ce, L, hx, hce, hcv, hcl, hW₂, hsm, hL⟩
  · obtain ⟨⟨v, rfl⟩, hW₂, e2, q2, q3, q4, q5, q6⟩ := id hfe
    have e3 : s₂ = ({ (U.calling g mk a).setFrames s₂.frames with heap := s₂.heap, slotsUsed := s₂.slotsUsed } : State).setVm s₂.vm := by
      have : s₂ = ({ s₂ with vm := (U.calling g mk a).vm } : State).setVm s₂.vm := rfl
      rw [e2] at this
      exact this
    obtain ⟨c₂, i₂, len₂, hc₂, hd₂, hf₂⟩ := hend
    have hW' : U.WarmedH s₂.vm := hW₂
    have hcc : c₂ = c := by
      have h1 : s₂.code? g.method = U.code? g.method := by
        rw [State.code?_eq, State.code?_eq, hW'.alike.method?]
      exact Option.some.inj (hc₂.symm.trans (h1.trans h.code))
    subst hcc
    have hlen : len₂ = len := by rw [hdg] at hd₂; cases hd₂; rfl
    subst hlen
    have hs₂ : s₂ = (({ U with heap := s₂.heap, slotsUsed := s₂.slotsUsed } : State).setVm s₂.vm).setTop { g with pc := g.pc + len₂, stack := v.toList ++ g.stack } := by
      refine e3.trans ?_
      rw [hf₂, State.calling_eq h.top, State.setFrames_setFrames, State.setTop_of_frames _ hr', hr]
      rfl
    have hsame : U.sameButNew ({ U with heap := s₂.heap, slotsUsed := s₂.slotsUsed } : State) L mc ms := by
      refine ⟨?_, q2, q3, q4, q5, q6⟩
      obtain ⟨t, ht, -⟩ := State.frames_cons hr
      show ({ U with heap := s₂.heap, slotsUsed := s₂.slotsUsed } : State) = { U.setFrames U.frames with heap := s₂.heap, slotsUsed := s₂.slotsUsed }
      rw [State.setFrames_self ht]
    subst hg
    refine Or.inl ⟨v, ⟨(({ U with heap := s₂.heap, slotsUsed := s₂.slotsUsed } : State).setVm s₂.vm), Ls ++ L, c0 + mc, s0 + ms⟩,
      ⟨X.admits, X.cas, X.clock, X.frames, X.room, X.hears, X.method, X.code, (X.here.setHeapUsed s₂.heap s₂.slotsUsed).setVm hW'.alike, X.tail, State.WarmedH.trans X.warmed hW', X.limits, X.bytes, X.same.trans (hsame.setVm s.vm)⟩,
      ⟨g, mk, s₂, L, rfl, rfl, hqc, rfl, hL, rfl, rfl⟩, ?_⟩
    show Steps p.tables e below _ ((({ U with heap := s₂.heap, slotsUsed := s₂.slotsUsed } : State).setVm s₂.vm).setTop { g with pc := g.pc + len₂, stack := v.toList ++ g.stack })
    rw [← hs₂]
    exact hsteps
  · obtain ⟨e2, q2, q3, q4, q5, q6⟩ := id hsm
    have e3 : s₂ = ({ (U.calling g mk a).setFrames s₂.frames with heap := s₂.heap, slotsUsed := s₂.slotsUsed } : State).setVm s₂.vm := by
      have : s₂ = ({ s₂ with vm := (U.calling g mk a).vm } : State).setVm s₂.vm := rfl
      rw [e2] at this
      exact this
    have hf₂ : s₂.frames = .throwing q :: .java g :: U.frames.tail := hend
    have hW' : U.WarmedH s₂.vm := hW₂
    have hs₂ : s₂ = ((({ U with heap := s₂.heap, slotsUsed := s₂.slotsUsed } : State).setVm s₂.vm).setTop g).pushFrame (.throwing q) := by
      refine e3.trans ?_
      rw [hf₂, State.calling_eq h.top, State.setFrames_setFrames, State.pushFrame, State.frames_setTop _ hr', State.setTop_of_frames _ hr', State.setFrames_setFrames, hr]
      rfl
    have hsame : U.sameButNew ({ U with heap := s₂.heap, slotsUsed := s₂.slotsUsed } : State) L mc ms := by
      refine ⟨?_, q2, q3, q4, q5, q6⟩
      obtain ⟨t, ht, -⟩ := State.frames_cons hr
      show ({ U with heap := s₂.heap, slotsUsed := s₂.slotsUsed } : State) = { U.setFrames U.frames with heap := s₂.heap, slotsUsed := s₂.slotsUsed }
      rw [State.setFrames_self ht]
    subst hg
    refine Or.inr ⟨q, ⟨(({ U with heap := s₂.heap, slotsUsed := s₂.slotsUsed } : State).setVm s₂.vm), Ls ++ L, c0 + mc, s0 + ms⟩,
      ⟨X.admits, X.cas, X.clock, X.frames, X.room, X.hears, X.method, X.code, (X.here.setHeapUsed s₂.heap s₂.slotsUsed).setVm hW'.alike, X.tail, State.WarmedH.trans X.warmed hW', X.limits, X.bytes, X.same.trans (hsame.setVm s.vm)⟩,
      ⟨g, mk, s₂, L, E, ce, rfl, rfl, hx, hce, hcv, hcl, rfl, hL, rfl, rfl⟩, ?_⟩
    show Steps p.tables e below _ (((({ U with heap := s₂.heap, slotsUsed := s₂.slotsUsed } : State).setVm s₂.vm).setTop g).pushFrame (.throwing q))
    rw [← hs₂]
    exact hsteps
end
variable {p : Program} {l : Launch} {e : Env} {R : Room} {s : State} {m : MethodId} {args : Array Value} {below : List Frame} {meth : Method} {c : Code} {T : State} {H : Heap} {locs : List Loc} {cells slots : Nat}
theorem vx_callVX (X : Stand p l e R s m args below meth c T locs cells slots) (hexec : p.tables.exec = Jvm.exec) {own C : String} {index : Nat} {y : MethodName} {bytes : ByteArray} {maxL : Nat} {ret : Option FieldType} {hh : List (Nat × Nat × Nat × Nat)}
    (hown : s.vm.findClass own = some m.cls) (hlink : (Cond.methodLink own index y).before args s = true) (hinst : (Cond.instanceMethod y).before args s = true) (hsel : (Cond.selects C y y).before args s = true)
    (hcode : (Cond.codeWith y bytes maxL ret hh).before args s = true) (hy : y.cls ≠ "java/lang/invoke/MethodHandle" ∧ y.cls ≠ "java/lang/invoke/VarHandle")
    {W9 : Nat} {Pre : Pt → Array Value → Prop} {Post : Pt → Array Value → Option Value → Pt → Prop} {PostX : Pt → Array Value → Addr → Pt → Prop} (hK : vx_Back l R p e below s args y 3 W9 Pre Post PostX)
    {b : Addr} {cellB : Cell} (hcell : T.heap[b]? = some cellB) (hobj : cellB.vm.isStatics = false) (hcls : s.vm.findClass C = some cellB.cls)
    {g : JFrame} (hg : g.method = m) (hsize : g.locals.size = c.maxLocals) {argsL rest : List Value} (hlen : ∀ sig, parseMethodDescriptor y.desc = some sig → argsL.length = sig.parameters.length)
    (hstack : g.stack = argsL.reverse ++ .ref b :: rest) (hW : 2 * g.monitorRoom + (rest.map fun v => v.category).sum ≤ W9) (hdg : decode c.code g.pc = .ok (.invokevirtual index, 3))
    (hpre : ∀ vm₁, s.WarmedH vm₁ → Pre ⟨T.setVm vm₁, locs, cells, slots⟩ (Value.ref b :: argsL).toArray) :
    (∃ (v : Option Value) (vm₁ : Vm) (B : Pt), s.WarmedH vm₁ ∧ Stand p l e R s m args below meth c B.U B.locs B.cells B.slots ∧ Post ⟨T.setVm vm₁, locs, cells, slots⟩ (Value.ref b :: argsL).toArray v B ∧
      ∀ target, Steps p.tables e below (B.U.setTop { g with pc := g.pc + 3, stack := v.toList ++ rest }) target → Steps p.tables e below (T.setTop g) target) ∨
    (∃ (q : Addr) (vm₁ : Vm) (B : Pt), s.WarmedH vm₁ ∧ Stand p l e R s m args below meth c B.U B.locs B.cells B.slots ∧ PostX ⟨T.setVm vm₁, locs, cells, slots⟩ (Value.ref b :: argsL).toArray q B ∧
      Steps p.tables e below (T.setTop g) ((B.U.setTop { g with stack := rest }).pushFrame (.throwing q))) := by
  obtain ⟨mk, methM, hnamed, hmethM, hstM, habM⟩ := Cond.instanceMethod_spec hinst
  obtain ⟨m8, methM', cM, hn8, hmethM', -, -, -, -, -, -, hsigM⟩ := Cond.codeWith_spec hcode
  cases Option.some.inj (hn8.symm.trans hnamed)
  cases hmethM.symm.trans hmethM'
  obtain ⟨c2, r2, m2, q1, q2, q3, q4, kP, hkP, hkPi⟩ := Cond.selects_spec hsel
  cases hcls.symm.trans q1
  cases (State.methodFound?_of_named hnamed hy).symm.trans q2
  cases hnamed.symm.trans q3
  have hselP : selectMethod e.platform s.vm cellB.cls mk = .method mk := by rw [Launch.admits_selectMethod X.admits]; exact q4
  obtain ⟨vm₁, X₁, hstep₁⟩ := X.invokevirtual hexec hown hlink hnamed hmethM hstM hkP hkPi hy (a := b) (cell := cellB) hcell
    (fun z h => by rw [h] at hobj; cases hobj) hselP hmethM habM hkP hkPi (g := g) hg (argsL := argsL) (rest := rest) (hlen _ hsigM) hstack hdg
  rcases hK m meth c ⟨T.setVm vm₁, locs, cells, slots⟩ { g with stack := rest } (.invokevirtual index) mk (Value.ref b :: argsL).toArray X₁ hg hsize hdg hW (X₁.named hnamed) (hpre vm₁ X₁.warmed) with ⟨v, B, X', hpost, hsteps⟩ | ⟨q, B, X', hpost, hsteps⟩
  · exact Or.inl ⟨v, vm₁, B, X₁.warmed, X', hpost, fun target h => hstep₁ _ fun acts => by rw [doInvoke_state]; exact hsteps.trans h⟩
  · exact Or.inr ⟨q, vm₁, B, X₁.warmed, X', hpost, hstep₁ _ fun acts => by rw [doInvoke_state]; exact hsteps⟩
theorem vx_callSX (X : Stand p l e R s m args below meth c T locs cells slots) (hexec : p.tables.exec = Jvm.exec) {own : String} {index : Nat} {y : MethodName} {bytes : ByteArray} {maxL : Nat} {ret : Option FieldType} {hh : List (Nat × Nat × Nat × Nat)}
    (hown : s.vm.findClass own = some m.cls) (hlink : (Cond.methodLink own index y).before args s = true) (hstat : (Cond.static y).before args s = true) (hinit : (Cond.initialized y.cls).before args s = true)
    (hcode : (Cond.codeWith y bytes maxL ret hh).before args s = true) (hy : y.cls ≠ "java/lang/invoke/MethodHandle" ∧ y.cls ≠ "java/lang/invoke/VarHandle")
    {W9 : Nat} {Pre : Pt → Array Value → Prop} {Post : Pt → Array Value → Option Value → Pt → Prop} {PostX : Pt → Array Value → Addr → Pt → Prop} (hK : vx_Back l R p e below s args y 3 W9 Pre Post PostX)
    {g : JFrame} (hg : g.method = m) (hsize : g.locals.size = c.maxLocals) {argsL rest : List Value} (hlen : ∀ sig, parseMethodDescriptor y.desc = some sig → argsL.length = sig.parameters.length)
    (hstack : g.stack = argsL.reverse ++ rest) (hW : 2 * g.monitorRoom + (rest.map fun v => v.category).sum ≤ W9) (hdg : decode c.code g.pc = .ok (.invokestatic index, 3))
    (hpre : ∀ vm₁, s.WarmedH vm₁ → Pre ⟨T.setVm vm₁, locs, cells, slots⟩ argsL.toArray) :
    (∃ (v : Option Value) (vm₁ : Vm) (B : Pt), s.WarmedH vm₁ ∧ Stand p l e R s m args below meth c B.U B.locs B.cells B.slots ∧ Post ⟨T.setVm vm₁, locs, cells, slots⟩ argsL.toArray v B ∧
      ∀ target, Steps p.tables e below (B.U.setTop { g with pc := g.pc + 3, stack := v.toList ++ rest }) target → Steps p.tables e below (T.setTop g) target) ∨
    (∃ (q : Addr) (vm₁ : Vm) (B : Pt), s.WarmedH vm₁ ∧ Stand p l e R s m args below meth c B.U B.locs B.cells B.slots ∧ PostX ⟨T.setVm vm₁, locs, cells, slots⟩ argsL.toArray q B ∧
      Steps p.tables e below (T.setTop g) ((B.U.setTop { g with stack := rest }).pushFrame (.throwing q))) := by
  obtain ⟨mk, methM, cM, hnamed, hmethM, -, -, -, -, -, -, hsigM⟩ := Cond.codeWith_spec hcode
  have hstatic : methM.isStatic = true := Cond.static_spec hnamed hmethM hstat
  obtain ⟨kP, hkP, -⟩ := className_of_methodNamed hnamed
  have hinitP : kP.init = .initialized := Cond.initialized_spec (findClass_of_methodNamed hnamed) hkP hinit
  obtain ⟨vm₁, X₁, hstep₁⟩ := X.invokestatic hexec hown hlink hnamed hmethM hstatic hkP hinitP hy (g := g) hg (argsL := argsL) (rest := rest) (hlen _ hsigM) hstack hdg
  rcases hK m meth c ⟨T.setVm vm₁, locs, cells, slots⟩ { g with stack := rest } (.invokestatic index) mk argsL.toArray X₁ hg hsize hdg hW (X₁.named hnamed) (hpre vm₁ X₁.warmed) with ⟨v, B, X', hpost, hsteps⟩ | ⟨q, B, X', hpost, hsteps⟩
  · exact Or.inl ⟨v, vm₁, B, X₁.warmed, X', hpost, fun target h => hstep₁ _ fun acts => by rw [doInvoke_state]; exact hsteps.trans h⟩
  · exact Or.inr ⟨q, vm₁, B, X₁.warmed, X', hpost, hstep₁ _ fun acts => by rw [doInvoke_state]; exact hsteps⟩
theorem vx_callVW (X : Stand p l e R s m args below meth c T locs cells slots) (hexec : p.tables.exec = Jvm.exec) {own C : String} {index : Nat} {y : MethodName} {bytes : ByteArray} {maxL : Nat} {ret : Option FieldType} {hh : List (Nat × Nat × Nat × Nat)}
    (hown : s.vm.findClass own = some m.cls) (hlink : (Cond.methodLink own index y).before args s = true) (hinst : (Cond.instanceMethod y).before args s = true) (hsel : (Cond.selects C y y).before args s = true)
    (hcode : (Cond.codeWith y bytes maxL ret hh).before args s = true) (hy : y.cls ≠ "java/lang/invoke/MethodHandle" ∧ y.cls ≠ "java/lang/invoke/VarHandle")
    {W9 : Nat} {Pre : Pt → Array Value → Prop} {Post : Pt → Array Value → Option Value → Pt → Prop} (hK : Back l R p e below s args y 3 W9 Pre Post)
    {b : Addr} {cellB : Cell} (hcell : T.heap[b]? = some cellB) (hobj : cellB.vm.isStatics = false) (hcls : s.vm.findClass C = some cellB.cls)
    {g : JFrame} (hg : g.method = m) (hsize : g.locals.size = c.maxLocals) {argsL rest : List Value} (hlen : ∀ sig, parseMethodDescriptor y.desc = some sig → argsL.length = sig.parameters.length)
    (hstack : g.stack = argsL.reverse ++ .ref b :: rest) (hW : 2 * g.monitorRoom + (rest.map fun v => v.category).sum ≤ W9) (hdg : decode c.code g.pc = .ok (.invokevirtual index, 3))
    (hpre : ∀ vm₁, s.WarmedH vm₁ → Pre ⟨T.setVm vm₁, locs, cells, slots⟩ (Value.ref b :: argsL).toArray) :
    ∃ (v : Option Value) (vm₁ : Vm) (B : Pt), s.WarmedH vm₁ ∧ Stand p l e R s m args below meth c B.U B.locs B.cells B.slots ∧ Post ⟨T.setVm vm₁, locs, cells, slots⟩ (Value.ref b :: argsL).toArray v B ∧
      ∀ target, Steps p.tables e below (B.U.setTop { g with pc := g.pc + 3, stack := v.toList ++ rest }) target → Steps p.tables e below (T.setTop g) target := by
  obtain ⟨mk, methM, hnamed, hmethM, hstM, habM⟩ := Cond.instanceMethod_spec hinst
  obtain ⟨m8, methM', cM, hn8, hmethM', -, -, -, -, -, -, hsigM⟩ := Cond.codeWith_spec hcode
  cases Option.some.inj (hn8.symm.trans hnamed)
  cases hmethM.symm.trans hmethM'
  obtain ⟨c2, r2, m2, q1, q2, q3, q4, kP, hkP, hkPi⟩ := Cond.selects_spec hsel
  cases hcls.symm.trans q1
  cases (State.methodFound?_of_named hnamed hy).symm.trans q2
  cases hnamed.symm.trans q3
  have hselP : selectMethod e.platform s.vm cellB.cls mk = .method mk := by rw [Launch.admits_selectMethod X.admits]; exact q4
  obtain ⟨vm₁, X₁, hstep₁⟩ := X.invokevirtual hexec hown hlink hnamed hmethM hstM hkP hkPi hy (a := b) (cell := cellB) hcell
    (fun z h => by rw [h] at hobj; cases hobj) hselP hmethM habM hkP hkPi (g := g) hg (argsL := argsL) (rest := rest) (hlen _ hsigM) hstack hdg
  obtain ⟨v, B, X', hpost, hsteps⟩ := hK m meth c ⟨T.setVm vm₁, locs, cells, slots⟩ { g with stack := rest } (.invokevirtual index) mk (Value.ref b :: argsL).toArray X₁ hg hsize hdg hW (X₁.named hnamed) (hpre vm₁ X₁.warmed)
  exact ⟨v, vm₁, B, X₁.warmed, X', hpost, fun target h => hstep₁ _ fun acts => by rw [doInvoke_state]; exact hsteps.trans h⟩
abbrev vx_CVW (R : Room) (s : State) (args : Array Value) (own C : String) (index : Nat) (y : MethodName) (bytes : ByteArray) (maxL : Nat) (ret : Option FieldType) (hh : List (Nat × Nat × Nat × Nat)) (ws : List Cond) (rm : Room) (mc ms n : Nat) : Prop :=
  (rm.cells = mc ∧ rm.slots = ms ∧ rm.frames + 1 ≤ R.frames ∧ 8 + (maxL + 11) + rm.locals ≤ R.locals ∧ (∀ w ∈ ws, ∀ (a' : Array Value) (U : State), s.WarmedH U.vm → w.before a' U = true) ∧ Cond.codeWith y bytes maxL ret hh ∈ ws) ∧
  (Cond.codeWith y bytes maxL ret hh).before args s = true ∧ (Cond.initialized y.cls).before args s = true ∧ (y.cls ≠ "java/lang/invoke/MethodHandle" ∧ y.cls ≠ "java/lang/invoke/VarHandle") ∧
  (∀ sig, parseMethodDescriptor y.desc = some sig → n = sig.parameters.length) ∧ (Cond.methodLink own index y).before args s = true ∧ (Cond.instanceMethod y).before args s = true ∧ (Cond.selects C y y).before args s = true
theorem vx_cwVW {own C : String} {index maxL mc ms : Nat} {y : MethodName} {bytes : ByteArray} {ret : Option FieldType} {hh : List (Nat × Nat × Nat × Nat)} {Ts ws ws' : List Cond} {rm : Room} (n : Nat) (ht : ∀ w ∈ Ts, w.before args s = true) (hT : GoodIn Ts (wsV own index C y ws)) (hw : ws = Cond.codeWith y bytes maxL ret hh :: ws') (hrc : rm.cells = mc) (hrs : rm.slots = ms)
    (hd : y.cls = C ∧ y.cls ≠ "java/lang/invoke/MethodHandle" ∧ y.cls ≠ "java/lang/invoke/VarHandle" ∧ (parseMethodDescriptor y.desc).map (fun d => d.parameters.length) = some n) (hR : rm.frames + 1 ≤ R.frames ∧ 8 + (maxL + 11) + rm.locals ≤ R.locals) :
    vx_CVW R s args own C index y bytes maxL ret hh ws rm mc ms n := by
  obtain ⟨hC, hd⟩ := hd
  subst hC
  have ok : ∀ w ∈ wsV own index y.cls y ws, w.before args s = true := fun w h => ht w (hT w h).1
  have hG : GoodIn Ts ws := fun w h => hT w (by unfold wsV; exact List.mem_append_right _ h)
  have hc : Cond.codeWith y bytes maxL ret hh ∈ ws := by rw [hw]; exact List.mem_cons_self
  refine ⟨⟨hrc, hrs, hR.1, hR.2, pay_in ht hG, hc⟩, ht _ (hG _ hc).1, ok _ (by simp [wsV]), ⟨hd.1, hd.2.1⟩, fun sig h => ?_, ok _ (by simp [wsV]), ok _ (by simp [wsV]), ok _ (by simp [wsV])⟩
  have h2 := hd.2.2
  rw [h] at h2
  exact (Option.some.inj h2).symm
theorem vx_runVW {y : MethodName} {bytes cc : ByteArray} {maxL nL mc ms n index : Nat} {ret : Option FieldType} {hh : List (Nat × Nat × Nat × Nat)} {ws : List Cond} {rm : Room} {Pc : Array Value → State → Prop} {Qc : Array Value → State → Outcome → State → Prop} {free : Addr → Prop} {Ts : List Cond} {own C : String} {b : Addr} {As rest : List Value} {g : JFrame}
    (S : CallFix p m c cc nL s args Ts own) (hM : Met l y ws rm Pc Qc mc ms free) (cw : vx_CVW R s args own C index y bytes maxL ret hh ws rm mc ms n) (hp : PreV s H C b Pc As)
    (hg : g.method = m) (hn : As.length = n) (hsize : g.locals.size = nL) (hstack : g.stack = As.reverse ++ .ref b :: rest) (hW : 2 * g.monitorRoom + (rest.map fun v => v.category).sum ≤ 8) (hdg : decode cc g.pc = .ok (.invokevirtual index, 3)) (hf : cells + mc ≤ R.cells ∧ slots + ms ≤ R.slots) :
    va_Run p l e R s m args below meth c H locs cells slots mc ms g rest (Qc (Value.ref b :: As).toArray) free := by
  obtain ⟨⟨hrc, hrs, hfr, hlo, hws, hcw⟩, hcode, hini, hy, hlen, hl, hin, hse⟩ := cw
  have hK : Back l R p e below s args y 3 8 (PreOf R mc ms Pc) (PostOf Qc mc ms free) := va_backW (hh := hh) (bytes := bytes) (maxL := maxL) (ret := ret) hM hp.1 hrc hrs hfr hlo hws hcw (fun a' U hW => word_at hW (Or.inl (by first | rfl | simp [Cond.onTables, Cond.keeps, Cond.steady])) hini)
  obtain ⟨hx, hb, hml, ho, -⟩ := S
  obtain ⟨-, ⟨cellB, hcB, hoB, hclB⟩, hPc⟩ := hp
  intro T hT X
  obtain ⟨v, vm₁, ⟨U', l2, c2, s2⟩, hW₁, X', ⟨g', mk, t, L, e1, e2, hq, h1, hL, h2, h3⟩, st⟩ := vx_callVW X hx (C := C) (hh := hh) (bytes := bytes) (maxL := maxL) (ret := ret) ho hl hin hse hcode hy hK (by rw [hT]; exact hcB) hoB hclB hg (hsize.trans hml.symm) (argsL := As) (rest := rest) (fun sig h => hn.trans (hlen sig h)) hstack hW (by rw [hb]; exact hdg)
    (fun vm₁ hW₁ => ⟨hf.1, hf.2, hPc (T.setVm vm₁) hT hW₁⟩)
  dsimp only [Pt.U, Pt.locs, Pt.cells, Pt.slots] at X' e1 e2 h1 h2 h3 st
  subst h1; subst h2; subst h3
  exact ⟨v, (T.setVm vm₁).calling g' mk (Value.ref b :: As).toArray, t, U', L, hT, X', hL, e1, e2, hq, st⟩
section
variable {y : MethodName} {bytes cc : ByteArray} {maxL nL mc ms n index : Nat} {ret : Option FieldType} {ws : List Cond} {rm : Room} {Pc : Array Value → State → Prop} {Qc : Array Value → State → Outcome → State → Prop} {XC : String → State → State → Prop} {free : Addr → Prop} {Ts : List Cond} {own C : String} {b : Addr} {As rest : List Value} {g : JFrame}
theorem vx_runVX {hh : List (Nat × Nat × Nat × Nat)} (S : CallFix p m c cc nL s args Ts own) (hM : vx_Met l y ws rm Pc Qc XC mc ms free) (cw : vx_CVW R s args own C index y bytes maxL ret hh ws rm mc ms n) (hp : PreV s H C b Pc As)
    (hg : g.method = m) (hn : As.length = n) (hsize : g.locals.size = nL) (hstack : g.stack = As.reverse ++ .ref b :: rest) (hW : 2 * g.monitorRoom + (rest.map fun v => v.category).sum ≤ 8) (hdg : decode cc g.pc = .ok (.invokevirtual index, 3)) (hf : cells + mc ≤ R.cells ∧ slots + ms ≤ R.slots) :
    vx_Run p l e R s m args below meth c H locs cells slots mc ms g rest (Qc (Value.ref b :: As).toArray) XC free := by
  obtain ⟨⟨hrc, hrs, hfr, hlo, hws, hcw⟩, hcode, hini, hy, hlen, hl, hin, hse⟩ := cw
  have hK : vx_Back l R p e below s args y 3 8 (PreOf R mc ms Pc) (PostOf Qc mc ms free) (vx_Post XC mc ms free) := vx_backW (hh := hh) (bytes := bytes) (maxL := maxL) (ret := ret) hM hp.1 hrc hrs hfr hlo hws hcw (fun a' U hW => word_at hW (Or.inl (by first | rfl | simp [Cond.onTables, Cond.keeps, Cond.steady])) hini)
  obtain ⟨hx, hb, hml, ho, -⟩ := S
  obtain ⟨-, ⟨cellB, hcB, hoB, hclB⟩, hPc⟩ := hp
  intro T hT X
  rcases vx_callVX X hx (C := C) (hh := hh) (bytes := bytes) (maxL := maxL) (ret := ret) ho hl hin hse hcode hy hK (by rw [hT]; exact hcB) hoB hclB hg (hsize.trans hml.symm) (argsL := As) (rest := rest) (fun sig h => hn.trans (hlen sig h)) hstack hW (by rw [hb]; exact hdg)
    (fun vm₁ hW₁ => ⟨hf.1, hf.2, hPc (T.setVm vm₁) hT hW₁⟩) with ⟨v, vm₁, ⟨U', l2, c2, s2⟩, hW₁, X', ⟨g', mk, t, L, e1, e2, hq, h1, hL, h2, h3⟩, st⟩ | ⟨q, vm₁, ⟨U', l2, c2, s2⟩, hW₁, X', ⟨g', mk, t, L, E, ce, e1, e2, hq, hce, hcv, hcl, h1, hL, h2, h3⟩, st⟩
  · dsimp only [Pt.U, Pt.locs, Pt.cells, Pt.slots] at X' e1 e2 h1 h2 h3 st
    subst h1; subst h2; subst h3
    exact Or.inl ⟨v, (T.setVm vm₁).calling g' mk (Value.ref b :: As).toArray, t, U', L, hT, X', hL, e1, e2, hq, st⟩
  · dsimp only [Pt.U, Pt.locs, Pt.cells, Pt.slots] at X' e1 e2 h1 h2 h3 st hcl
    subst h1; subst h2; subst h3
    exact Or.inr ⟨q, (T.setVm vm₁).calling g' mk (Value.ref b :: As).toArray, t, U', L, E, ce, hT, X', hL, e1, e2, hq, hce, hcv, vx_cls hW₁ hcl, st⟩
theorem vx_runSX {hh : List (Nat × Nat × Nat × Nat)} (S : CallFix p m c cc nL s args Ts own) (hM : vx_Met l y ws rm Pc Qc XC mc ms free) (cw : vx_CSW R s args own index y bytes maxL ret hh ws rm mc ms n) (hp : PreS s H Pc As)
    (hg : g.method = m) (hn : As.length = n) (hsize : g.locals.size = nL) (hstack : g.stack = As.reverse ++ rest) (hW : 2 * g.monitorRoom + (rest.map fun v => v.category).sum ≤ 8) (hdg : decode cc g.pc = .ok (.invokestatic index, 3)) (hf : cells + mc ≤ R.cells ∧ slots + ms ≤ R.slots) :
    vx_Run p l e R s m args below meth c H locs cells slots mc ms g rest (Qc As.toArray) XC free := by
  obtain ⟨⟨hrc, hrs, hfr, hlo, hws, hcw⟩, hcode, hini, hy, hlen, hl, hstt⟩ := cw
  have hK : vx_Back l R p e below s args y 3 8 (PreOf R mc ms Pc) (PostOf Qc mc ms free) (vx_Post XC mc ms free) := vx_backW (hh := hh) (bytes := bytes) (maxL := maxL) (ret := ret) hM hp.1 hrc hrs hfr hlo hws hcw (fun a' U hW => word_at hW (Or.inl (by first | rfl | simp [Cond.onTables, Cond.keeps, Cond.steady])) hini)
  obtain ⟨hx, hb, hml, ho, -⟩ := S
  intro T hT X
  rcases vx_callSX X hx (hh := hh) (bytes := bytes) (maxL := maxL) (ret := ret) ho hl hstt hini hcode hy hK hg (hsize.trans hml.symm) (argsL := As) (rest := rest) (fun sig h => hn.trans (hlen sig h)) hstack hW (by rw [hb]; exact hdg)
    (fun vm₁ hW₁ => ⟨hf.1, hf.2, hp.2 (T.setVm vm₁) hT hW₁⟩) with ⟨v, vm₁, ⟨U', l2, c2, s2⟩, hW₁, X', ⟨g', mk, t, L, e1, e2, hq, h1, hL, h2, h3⟩, st⟩ | ⟨q, vm₁, ⟨U', l2, c2, s2⟩, hW₁, X', ⟨g', mk, t, L, E, ce, e1, e2, hq, hce, hcv, hcl, h1, hL, h2, h3⟩, st⟩
  · dsimp only [Pt.U, Pt.locs, Pt.cells, Pt.slots] at X' e1 e2 h1 h2 h3 st
    subst h1; subst h2; subst h3
    exact Or.inl ⟨v, (T.setVm vm₁).calling g' mk As.toArray, t, U', L, hT, X', hL, e1, e2, hq, st⟩
  · dsimp only [Pt.U, Pt.locs, Pt.cells, Pt.slots] at X' e1 e2 h1 h2 h3 st hcl
    subst h1; subst h2; subst h3
    exact Or.inr ⟨q, (T.setVm vm₁).calling g' mk As.toArray, t, U', L, E, ce, hT, X', hL, e1, e2, hq, hce, hcv, vx_cls hW₁ hcl, st⟩
end
end VXH
theorem vx_ofWH {l : Launch} {y : MethodName} {ws ws' : List Cond} {rm : Room} {Pc : Array Value → State → Prop} {Qc : Array Value → State → Outcome → State → Prop} {XC : String → State → State → Prop} {mc ms : Nat} {free : Addr → Prop} {cc : ByteArray} {maxL : Nat} {ret : Option FieldType} {hh : List (Nat × Nat × Nat × Nat)}
    (hy : plainName y.cls = true) (hw : ws = Cond.codeWith y cc maxL ret hh :: ws')
    (body : ∀ p e s m args below meth c s₁, BodyLoose p l y (headSpec ws rm) cc maxL ret e s m args below meth c s₁ → c.maxLocals = maxL → Pc args s →
      W p l e (headSpec ws rm).room s m args below meth c s.heap [] 0 0 (vx_MQ below Qc XC args s mc ms free) (entryFrame m args maxL)) : vx_Met l y ws rm Pc Qc XC mc ms free := by
  refine MetFree.of_bodyS (code := cc) (maxLocals := maxL) (ret := ret) hy ?_ ?_
  · intro args s m h hn
    obtain ⟨m9, meth, c, hn9, h1, h2, h3, h4, -, h5, h6, -⟩ := Cond.codeWith_spec (atoms_spec (ws := ws) h _ (by rw [hw]; exact List.mem_cons_self))
    cases hn.symm.trans hn9
    exact ⟨meth, c, h1, h2, h3, h4, h5, h6⟩
  · intro p e s m args below meth c s₁ B hml hP _
    have hh0 : s₁.heap = s.heap := by rw [B.state]; rfl
    obtain ⟨t, a1, o, b1, b2, b3⟩ := body p e s m args below meth c s₁ B hml hP s₁ hh0 (Stand.of_body B)
    exact ⟨t, o, a1, b1, b2, b3⟩
/-! ===== END ===== -/
end
section
/-! ===== BEGIN printed: names, fields, word lists, decode rows ===== -/
def RX0 : String := "RentRiver$Cheapest"
def TX0 : u_T := fun k => match k with
  | 0 => ("RentRiver$Cheapest", "plan", "[I", true)
  | 1 => ("RentRiver$Cheapest", "done", "Z", false)
  | 2 => ("RentRiver$Cheapest", "planned", "I", false)
  | 3 => ("RentRiver$Cheapest", "solved", "I", false)
  | 4 => ("RentRiver$Cheapest", "answer", "I", false)
  | 5 => ("RentRiver$Cheapest", "towns", "I", false)
  | 6 => ("RentRiver$Cheapest", "move", "I", false)
  | 7 => ("RentRiver$Cheapest", "bridges", "[I", true)
  | 8 => ("RentRiver$Cheapest", "lacks", "[I", true)
  | 9 => ("RentRiver$Cheapest", "gains", "[[I", true)
  | 10 => ("RentRiver$Cheapest", "rest", "[[I", true)
  | 11 => ("RentRiver$Cheapest", "restBest", "[I", true)
  | 12 => ("RentRiver$Cheapest", "tailGains", "[[I", true)
  | 13 => ("RentRiver$Cheapest", "tailCosts", "[I", true)
  | 14 => ("RentRiver$Cheapest", "tailTowns", "[I", true)
  | 15 => ("RentRiver$Cheapest", "tails", "I", false)
  | 16 => ("RentRiver$Cheapest", "path", "[I", true)
  | 17 => ("RentRiver$Cheapest", "best", "[I", true)
  | _ => ("RentRiver$Cheapest", "bestPaid", "I", false)
def tyX0 : Nat → FieldType := fun k => match k with
  | 0 => .array .int
  | 1 => .boolean
  | 2 => .int
  | 3 => .int
  | 4 => .int
  | 5 => .int
  | 6 => .int
  | 7 => .array .int
  | 8 => .array .int
  | 9 => .array (.array .int)
  | 10 => .array (.array .int)
  | 11 => .array .int
  | 12 => .array (.array .int)
  | 13 => .array .int
  | 14 => .array .int
  | 15 => .int
  | 16 => .array .int
  | 17 => .array .int
  | _ => .int
abbrev wsX00 : List Cond := u_ws RX0 TX0 19
theorem nmX0 : ∀ a, a < 19 → ∀ b, b < 19 → a ≠ b → (TX0 a).2.1 ≠ (TX0 b).2.1 := by decide +kernel
theorem tyX0_ok : ∀ k, k < 19 → parseFieldDescriptor (TX0 k).2.2.1 = some (tyX0 k) := by decide +kernel
abbrev cX0_init : ByteArray := prog_2_method_1_code
def yX0_init : MethodName := ⟨RX0, "<init>", "()V"⟩
abbrev cX0_solve : ByteArray := prog_2_method_2_code
def yX0_solve : MethodName := ⟨RX0, "solve", "(LRentRiver$Plain;)I"⟩
abbrev cX0_searchPlan : ByteArray := prog_2_method_3_code
def yX0_searchPlan : MethodName := ⟨RX0, "searchPlan", "(LRentRiver$Plain;)I"⟩
abbrev cX0_prepare : ByteArray := prog_2_method_4_code
def yX0_prepare : MethodName := ⟨RX0, "prepare", "(LRentRiver$Plain;)V"⟩
abbrev cX0_listTails : ByteArray := prog_2_method_5_code
def yX0_listTails : MethodName := ⟨RX0, "listTails", "()V"⟩
abbrev cX0_putAhead : ByteArray := prog_2_method_6_code
def yX0_putAhead : MethodName := ⟨RX0, "putAhead", "(IIII)V"⟩
abbrev cX0_tryMonth : ByteArray := prog_2_method_7_code
def yX0_tryMonth : MethodName := ⟨RX0, "tryMonth", "(III)V"⟩
abbrev cX0_lacksAny : ByteArray := prog_2_method_8_code
def yX0_lacksAny : MethodName := ⟨RX0, "lacksAny", "()Z"⟩
abbrev cX0_canBe : ByteArray := prog_2_method_9_code
def yX0_canBe : MethodName := ⟨RX0, "canBe", "(I)Z"⟩
abbrev cX0_costOf : ByteArray := prog_2_method_10_code
def yX0_costOf : MethodName := ⟨RX0, "costOf", "(II)I"⟩
abbrev cX0_leastToCome : ByteArray := prog_2_method_11_code
def yX0_leastToCome : MethodName := ⟨RX0, "leastToCome", "(I)I"⟩
abbrev cX0_keepPath : ByteArray := prog_2_method_12_code
def yX0_keepPath : MethodName := ⟨RX0, "keepPath", "(II)V"⟩
abbrev cX0_stayFrom : ByteArray := prog_2_method_13_code
def yX0_stayFrom : MethodName := ⟨RX0, "stayFrom", "(II)V"⟩
abbrev cX0_firstForNothing : ByteArray := prog_2_method_14_code
def yX0_firstForNothing : MethodName := ⟨RX0, "firstForNothing", "(I)I"⟩
abbrev cX0_tryTails : ByteArray := prog_2_method_15_code
def yX0_tryTails : MethodName := ⟨RX0, "tryTails", "(II)V"⟩
abbrev cX0_meetsNeeds : ByteArray := prog_2_method_16_code
def yX0_meetsNeeds : MethodName := ⟨RX0, "meetsNeeds", "(I)Z"⟩
abbrev cX0_keepTail : ByteArray := prog_2_method_17_code
def yX0_keepTail : MethodName := ⟨RX0, "keepTail", "(I)V"⟩
def RX1 : String := "RentRiver$Contracts"
def TX1 : u_T := fun k => match k with
  | 0 => ("RentRiver$Contracts", "first", "[I", true)
  | 1 => ("RentRiver$Contracts", "second", "[I", true)
  | 2 => ("RentRiver$Contracts", "cost", "[I", true)
  | _ => ("RentRiver$Contracts", "rows", "I", false)
def tyX1 : Nat → FieldType := fun k => match k with
  | 0 => .array .int
  | 1 => .array .int
  | 2 => .array .int
  | _ => .int
abbrev wsX10 : List Cond := u_ws RX1 TX1 4
theorem nmX1 : ∀ a, a < 4 → ∀ b, b < 4 → a ≠ b → (TX1 a).2.1 ≠ (TX1 b).2.1 := by decide +kernel
theorem tyX1_ok : ∀ k, k < 4 → parseFieldDescriptor (TX1 k).2.2.1 = some (tyX1 k) := by decide +kernel
abbrev cX1_init : ByteArray := prog_3_method_1_code
def yX1_init : MethodName := ⟨RX1, "<init>", "()V"⟩
abbrev cX1_clear : ByteArray := prog_3_method_2_code
def yX1_clear : MethodName := ⟨RX1, "clear", "()V"⟩
abbrev cX1_copy : ByteArray := prog_3_method_3_code
def yX1_copy : MethodName := ⟨RX1, "copy", "(LRentRiver$Contracts;)V"⟩
abbrev cX1_tells : ByteArray := prog_3_method_4_code
def yX1_tells : MethodName := ⟨RX1, "tells", "(I)Z"⟩
abbrev cX1_tell : ByteArray := prog_3_method_5_code
def yX1_tell : MethodName := ⟨RX1, "tell", "(IIII)V"⟩
abbrev cX1_readRows : ByteArray := prog_3_method_6_code
def yX1_readRows : MethodName := ⟨RX1, "readRows", "(LRentRiver$Tape;LRentRiver$Plain;)V"⟩
abbrev cX1_readRow : ByteArray := prog_3_method_7_code
def yX1_readRow : MethodName := ⟨RX1, "readRow", "(LRentRiver$Tape;LRentRiver$Plain;)Z"⟩
abbrev cX1_readLet : ByteArray := prog_3_method_8_code
def yX1_readLet : MethodName := ⟨RX1, "readLet", "(LRentRiver$Tape;LRentRiver$Plain;I)Z"⟩
def RX2 : String := "RentRiver$Leaks"
def TX2 : u_T := fun k => match k with
  | 0 => ("RentRiver$Leaks", "found", "[[I", true)
  | 1 => ("RentRiver$Leaks", "kept", "I", false)
  | 2 => ("RentRiver$Leaks", "all", "I", false)
  | 3 => ("RentRiver$Leaks", "levelsTold", "[Z", true)
  | 4 => ("RentRiver$Leaks", "levels", "[[I", true)
  | 5 => ("RentRiver$Leaks", "last", "I", false)
  | 6 => ("RentRiver$Leaks", "tight", "LRentRiver$Year;", true)
  | _ => ("RentRiver$Leaks", "leaking", "LRentRiver$Year;", true)
def tyX2 : Nat → FieldType := fun k => match k with
  | 0 => .array (.array .int)
  | 1 => .int
  | 2 => .int
  | 3 => .array .boolean
  | 4 => .array (.array .int)
  | 5 => .int
  | 6 => .object "RentRiver$Year"
  | _ => .object "RentRiver$Year"
abbrev wsX20 : List Cond := u_ws RX2 TX2 8
theorem nmX2 : ∀ a, a < 8 → ∀ b, b < 8 → a ≠ b → (TX2 a).2.1 ≠ (TX2 b).2.1 := by decide +kernel
theorem tyX2_ok : ∀ k, k < 8 → parseFieldDescriptor (TX2 k).2.2.1 = some (tyX2 k) := by decide +kernel
abbrev cX2_init : ByteArray := prog_4_method_1_code
def yX2_init : MethodName := ⟨RX2, "<init>", "()V"⟩
abbrev cX2_readLevels : ByteArray := prog_4_method_2_code
def yX2_readLevels : MethodName := ⟨RX2, "readLevels", "(LRentRiver$Tape;I)Z"⟩
abbrev cX2_run : ByteArray := prog_4_method_3_code
def yX2_run : MethodName := ⟨RX2, "run", "(LRentRiver$Plain;LRentRiver$Contracts;)I"⟩
abbrev cX2_comesBy : ByteArray := prog_4_method_4_code
def yX2_comesBy : MethodName := ⟨RX2, "comesBy", "(LRentRiver$Plain;LRentRiver$Contracts;II)Z"⟩
abbrev cX2_asTold : ByteArray := prog_4_method_5_code
def yX2_asTold : MethodName := ⟨RX2, "asTold", "(LRentRiver$Year;I)Z"⟩
abbrev cX2_keep : ByteArray := prog_4_method_6_code
def yX2_keep : MethodName := ⟨RX2, "keep", "(III)V"⟩
def RX3 : String := "RentRiver$Plain"
def TX3 : u_T := fun k => match k with
  | 0 => ("RentRiver$Plain", "names", "[J", true)
  | 1 => ("RentRiver$Plain", "told", "[[I", true)
  | 2 => ("RentRiver$Plain", "bids", "[[I", true)
  | 3 => ("RentRiver$Plain", "water", "[I", true)
  | 4 => ("RentRiver$Plain", "towns", "I", false)
  | 5 => ("RentRiver$Plain", "bidCount", "I", false)
  | 6 => ("RentRiver$Plain", "move", "I", false)
  | 7 => ("RentRiver$Plain", "fish", "I", false)
  | 8 => ("RentRiver$Plain", "patience", "I", false)
  | 9 => ("RentRiver$Plain", "serial", "I", false)
  | 10 => ("RentRiver$Plain", "toldOf", "[I", true)
  | 11 => ("RentRiver$Plain", "toldWater", "I", false)
  | 12 => ("RentRiver$Plain", "toldMove", "Z", false)
  | 13 => ("RentRiver$Plain", "toldFish", "Z", false)
  | _ => ("RentRiver$Plain", "toldPatience", "Z", false)
def tyX3 : Nat → FieldType := fun k => match k with
  | 0 => .array .long
  | 1 => .array (.array .int)
  | 2 => .array (.array .int)
  | 3 => .array .int
  | 4 => .int
  | 5 => .int
  | 6 => .int
  | 7 => .int
  | 8 => .int
  | 9 => .int
  | 10 => .array .int
  | 11 => .int
  | 12 => .boolean
  | 13 => .boolean
  | _ => .boolean
abbrev wsX30 : List Cond := u_ws RX3 TX3 15
theorem nmX3 : ∀ a, a < 15 → ∀ b, b < 15 → a ≠ b → (TX3 a).2.1 ≠ (TX3 b).2.1 := by decide +kernel
theorem tyX3_ok : ∀ k, k < 15 → parseFieldDescriptor (TX3 k).2.2.1 = some (tyX3 k) := by decide +kernel
abbrev cX3_init : ByteArray := prog_5_method_1_code
def yX3_init : MethodName := ⟨RX3, "<init>", "()V"⟩
abbrev cX3_clear : ByteArray := prog_5_method_2_code
def yX3_clear : MethodName := ⟨RX3, "clear", "()V"⟩
abbrev cX3_copy : ByteArray := prog_5_method_3_code
def yX3_copy : MethodName := ⟨RX3, "copy", "(LRentRiver$Plain;)V"⟩
abbrev cX3_setBid : ByteArray := prog_5_method_4_code
def yX3_setBid : MethodName := ⟨RX3, "setBid", "(III)V"⟩
abbrev cX3_gain : ByteArray := prog_5_method_5_code
def yX3_gain : MethodName := ⟨RX3, "gain", "(II)I"⟩
abbrev cX3_placeOf : ByteArray := prog_5_method_6_code
def yX3_placeOf : MethodName := ⟨RX3, "placeOf", "(I)I"⟩
abbrev cX3_readRows : ByteArray := prog_5_method_7_code
def yX3_readRows : MethodName := ⟨RX3, "readRows", "(LRentRiver$Tape;)I"⟩
abbrev cX3_readRow : ByteArray := prog_5_method_8_code
def yX3_readRow : MethodName := ⟨RX3, "readRow", "(LRentRiver$Tape;)Z"⟩
abbrev cX3_readTown : ByteArray := prog_5_method_9_code
def yX3_readTown : MethodName := ⟨RX3, "readTown", "(LRentRiver$Tape;)Z"⟩
abbrev cX3_find : ByteArray := prog_5_method_10_code
def yX3_find : MethodName := ⟨RX3, "find", "(J)I"⟩
abbrev cX3_townHere : ByteArray := prog_5_method_11_code
def yX3_townHere : MethodName := ⟨RX3, "townHere", "(LRentRiver$Tape;)I"⟩
abbrev cX3_nextTown : ByteArray := prog_5_method_12_code
def yX3_nextTown : MethodName := ⟨RX3, "nextTown", "(LRentRiver$Tape;)I"⟩
abbrev cX3_readWater : ByteArray := prog_5_method_13_code
def yX3_readWater : MethodName := ⟨RX3, "readWater", "(LRentRiver$Tape;)Z"⟩
abbrev cX3_readBid : ByteArray := prog_5_method_14_code
def yX3_readBid : MethodName := ⟨RX3, "readBid", "(LRentRiver$Tape;)Z"⟩
abbrev cX3_readAboutTown : ByteArray := prog_5_method_15_code
def yX3_readAboutTown : MethodName := ⟨RX3, "readAboutTown", "(LRentRiver$Tape;LRentRiver$Word;)Z"⟩
abbrev cX3_readMove : ByteArray := prog_5_method_16_code
def yX3_readMove : MethodName := ⟨RX3, "readMove", "(LRentRiver$Tape;)Z"⟩
abbrev cX3_readFish : ByteArray := prog_5_method_17_code
def yX3_readFish : MethodName := ⟨RX3, "readFish", "(LRentRiver$Tape;)Z"⟩
abbrev cX3_readPatience : ByteArray := prog_5_method_18_code
def yX3_readPatience : MethodName := ⟨RX3, "readPatience", "(LRentRiver$Tape;)Z"⟩
def RX4 : String := "RentRiver$Rounds"
def TX4 : u_T := fun k => match k with
  | 0 => ("RentRiver$Rounds", "done", "Z", false)
  | 1 => ("RentRiver$Rounds", "monthOf", "[I", true)
  | 2 => ("RentRiver$Rounds", "prices", "[I", true)
  | _ => ("RentRiver$Rounds", "owner", "[I", true)
def tyX4 : Nat → FieldType := fun k => match k with
  | 0 => .boolean
  | 1 => .array .int
  | 2 => .array .int
  | _ => .array .int
abbrev wsX40 : List Cond := u_ws RX4 TX4 4
theorem nmX4 : ∀ a, a < 4 → ∀ b, b < 4 → a ≠ b → (TX4 a).2.1 ≠ (TX4 b).2.1 := by decide +kernel
theorem tyX4_ok : ∀ k, k < 4 → parseFieldDescriptor (TX4 k).2.2.1 = some (tyX4 k) := by decide +kernel
abbrev cX4_init : ByteArray := prog_6_method_1_code
def yX4_init : MethodName := ⟨RX4, "<init>", "()V"⟩
abbrev cX4_run : ByteArray := prog_6_method_2_code
def yX4_run : MethodName := ⟨RX4, "run", "(LRentRiver$Plain;I)I"⟩
abbrev cX4_clear : ByteArray := prog_6_method_3_code
def yX4_clear : MethodName := ⟨RX4, "clear", "()V"⟩
abbrev cX4_priceNow : ByteArray := prog_6_method_4_code
def yX4_priceNow : MethodName := ⟨RX4, "priceNow", "(II)I"⟩
abbrev cX4_takeBest : ByteArray := prog_6_method_5_code
def yX4_takeBest : MethodName := ⟨RX4, "takeBest", "(LRentRiver$Plain;II)Z"⟩
def RX5 : String := "RentRiver$Sentence"
def TX5 : u_T := fun k => match k with
  | 0 => ("RentRiver$Sentence", "steps", "[LRentRiver$Word;", true)
  | 1 => ("RentRiver$Sentence", "signs", "[I", true)
  | 2 => ("RentRiver$Sentence", "numbers", "[I", true)
  | 3 => ("RentRiver$Sentence", "stack", "[Z", true)
  | 4 => ("RentRiver$Sentence", "size", "I", false)
  | _ => ("RentRiver$Sentence", "ones", "I", false)
def tyX5 : Nat → FieldType := fun k => match k with
  | 0 => .array (.object "RentRiver$Word")
  | 1 => .array .int
  | 2 => .array .int
  | 3 => .array .boolean
  | 4 => .int
  | _ => .int
abbrev wsX50 : List Cond := u_ws RX5 TX5 6
theorem nmX5 : ∀ a, a < 6 → ∀ b, b < 6 → a ≠ b → (TX5 a).2.1 ≠ (TX5 b).2.1 := by decide +kernel
theorem tyX5_ok : ∀ k, k < 6 → parseFieldDescriptor (TX5 k).2.2.1 = some (tyX5 k) := by decide +kernel
abbrev cX5_init : ByteArray := prog_7_method_1_code
def yX5_init : MethodName := ⟨RX5, "<init>", "()V"⟩
abbrev cX5_clear : ByteArray := prog_7_method_2_code
def yX5_clear : MethodName := ⟨RX5, "clear", "()V"⟩
abbrev cX5_copy : ByteArray := prog_7_method_3_code
def yX5_copy : MethodName := ⟨RX5, "copy", "(LRentRiver$Sentence;)V"⟩
abbrev cX5_add : ByteArray := prog_7_method_4_code
def yX5_add : MethodName := ⟨RX5, "add", "(LRentRiver$Word;II)Z"⟩
abbrev cX5_readText : ByteArray := prog_7_method_5_code
def yX5_readText : MethodName := ⟨RX5, "readText", "(LRentRiver$Tape;)V"⟩
abbrev cX5_readCond : ByteArray := prog_7_method_6_code
def yX5_readCond : MethodName := ⟨RX5, "readCond", "(LRentRiver$Tape;I)Z"⟩
abbrev cX5_readAll : ByteArray := prog_7_method_7_code
def yX5_readAll : MethodName := ⟨RX5, "readAll", "(LRentRiver$Tape;I)Z"⟩
abbrev cX5_readOne : ByteArray := prog_7_method_8_code
def yX5_readOne : MethodName := ⟨RX5, "readOne", "(LRentRiver$Tape;I)Z"⟩
abbrev cX5_begins : ByteArray := prog_7_method_9_code
def yX5_begins : MethodName := ⟨RX5, "begins", "(LRentRiver$Word;)Z"⟩
abbrev cX5_readClosing : ByteArray := prog_7_method_10_code
def yX5_readClosing : MethodName := ⟨RX5, "readClosing", "(LRentRiver$Tape;)Z"⟩
abbrev cX5_readMeasure : ByteArray := prog_7_method_11_code
def yX5_readMeasure : MethodName := ⟨RX5, "readMeasure", "(LRentRiver$Tape;LRentRiver$Word;)Z"⟩
abbrev cX5_holds : ByteArray := prog_7_method_12_code
def yX5_holds : MethodName := ⟨RX5, "holds", "(LRentRiver$Plain;LRentRiver$Year;I)Z"⟩
abbrev cX5_holdsOne : ByteArray := prog_7_method_13_code
def yX5_holdsOne : MethodName := ⟨RX5, "holdsOne", "(LRentRiver$Plain;LRentRiver$Year;II)Z"⟩
def RX6 : String := "RentRiver$State"
def TX6 : u_T := fun k => match k with
  | 0 => ("RentRiver$State", "plain", "LRentRiver$Plain;", false)
  | 1 => ("RentRiver$State", "deals", "LRentRiver$Contracts;", false)
  | 2 => ("RentRiver$State", "sentence", "LRentRiver$Sentence;", false)
  | _ => ("RentRiver$State", "year", "LRentRiver$Year;", true)
def tyX6 : Nat → FieldType := fun k => match k with
  | 0 => .object "RentRiver$Plain"
  | 1 => .object "RentRiver$Contracts"
  | 2 => .object "RentRiver$Sentence"
  | _ => .object "RentRiver$Year"
abbrev wsX60 : List Cond := u_ws RX6 TX6 4
theorem nmX6 : ∀ a, a < 4 → ∀ b, b < 4 → a ≠ b → (TX6 a).2.1 ≠ (TX6 b).2.1 := by decide +kernel
theorem tyX6_ok : ∀ k, k < 4 → parseFieldDescriptor (TX6 k).2.2.1 = some (tyX6 k) := by decide +kernel
abbrev cX6_init : ByteArray := prog_8_method_1_code
def yX6_init : MethodName := ⟨RX6, "<init>", "()V"⟩
abbrev cX6_copy : ByteArray := prog_8_method_2_code
def yX6_copy : MethodName := ⟨RX6, "copy", "(LRentRiver$State;)V"⟩
def RX7 : String := "RentRiver$Tape"
def TX7 : u_T := fun k => match k with
  | 0 => ("RentRiver$Tape", "bytes", "[B", true)
  | 1 => ("RentRiver$Tape", "size", "I", false)
  | 2 => ("RentRiver$Tape", "fault", "I", false)
  | 3 => ("RentRiver$Tape", "faultAt", "I", false)
  | 4 => ("RentRiver$Tape", "kind", "I", false)
  | 5 => ("RentRiver$Tape", "start", "I", false)
  | 6 => ("RentRiver$Tape", "number", "I", false)
  | 7 => ("RentRiver$Tape", "sign", "I", false)
  | 8 => ("RentRiver$Tape", "code", "J", false)
  | 9 => ("RentRiver$Tape", "word", "LRentRiver$Word;", false)
  | 10 => ("RentRiver$Tape", "most", "I", false)
  | _ => ("RentRiver$Tape", "here", "I", false)
def tyX7 : Nat → FieldType := fun k => match k with
  | 0 => .array .byte
  | 1 => .int
  | 2 => .int
  | 3 => .int
  | 4 => .int
  | 5 => .int
  | 6 => .int
  | 7 => .int
  | 8 => .long
  | 9 => .object "RentRiver$Word"
  | 10 => .int
  | _ => .int
abbrev wsX70 : List Cond := u_ws RX7 TX7 12
theorem nmX7 : ∀ a, a < 12 → ∀ b, b < 12 → a ≠ b → (TX7 a).2.1 ≠ (TX7 b).2.1 := by decide +kernel
theorem tyX7_ok : ∀ k, k < 12 → parseFieldDescriptor (TX7 k).2.2.1 = some (tyX7 k) := by decide +kernel
abbrev cX7_init : ByteArray := prog_9_method_1_code
def yX7_init : MethodName := ⟨RX7, "<init>", "()V"⟩
abbrev cX7_hasRoom : ByteArray := prog_9_method_2_code
def yX7_hasRoom : MethodName := ⟨RX7, "hasRoom", "()Z"⟩
abbrev cX7_put : ByteArray := prog_9_method_3_code
def yX7_put : MethodName := ⟨RX7, "put", "(I)V"⟩
abbrev cX7_valueAt : ByteArray := prog_9_method_4_code
def yX7_valueAt : MethodName := ⟨RX7, "valueAt", "(I)I"⟩
abbrev cX7_open : ByteArray := prog_9_method_5_code
def yX7_open : MethodName := ⟨RX7, "open", "(I)V"⟩
abbrev cX7_advance : ByteArray := prog_9_method_6_code
def yX7_advance : MethodName := ⟨RX7, "advance", "()V"⟩
abbrev cX7_isLetter : ByteArray := prog_9_method_7_code
def yX7_isLetter : MethodName := ⟨RX7, "isLetter", "(I)Z"⟩
abbrev cX7_isDigit : ByteArray := prog_9_method_8_code
def yX7_isDigit : MethodName := ⟨RX7, "isDigit", "(I)Z"⟩
abbrev cX7_readRun : ByteArray := prog_9_method_9_code
def yX7_readRun : MethodName := ⟨RX7, "readRun", "()V"⟩
abbrev cX7_refuse : ByteArray := prog_9_method_10_code
def yX7_refuse : MethodName := ⟨RX7, "refuse", "(I)Z"⟩
abbrev cX7_finish : ByteArray := prog_9_method_11_code
def yX7_finish : MethodName := ⟨RX7, "finish", "()Z"⟩
abbrev cX7_numberHere : ByteArray := prog_9_method_12_code
def yX7_numberHere : MethodName := ⟨RX7, "numberHere", "(II)I"⟩
abbrev cX7_nextNumber : ByteArray := prog_9_method_13_code
def yX7_nextNumber : MethodName := ⟨RX7, "nextNumber", "(II)I"⟩
abbrev cX7_isSign : ByteArray := prog_9_method_14_code
def yX7_isSign : MethodName := ⟨RX7, "isSign", "(I)Z"⟩
abbrev cX7_nextSign : ByteArray := prog_9_method_15_code
def yX7_nextSign : MethodName := ⟨RX7, "nextSign", "(I)Z"⟩
abbrev cX7_nameHere : ByteArray := prog_9_method_16_code
def yX7_nameHere : MethodName := ⟨RX7, "nameHere", "()Z"⟩
def RX8 : String := "RentRiver$Undo"
def TX8 : u_T := fun k => match k with
  | 0 => ("RentRiver$Undo", "towns", "[I", true)
  | 1 => ("RentRiver$Undo", "months", "[I", true)
  | 2 => ("RentRiver$Undo", "before", "[I", true)
  | _ => ("RentRiver$Undo", "size", "I", false)
def tyX8 : Nat → FieldType := fun k => match k with
  | 0 => .array .int
  | 1 => .array .int
  | 2 => .array .int
  | _ => .int
abbrev wsX80 : List Cond := u_ws RX8 TX8 4
theorem nmX8 : ∀ a, a < 4 → ∀ b, b < 4 → a ≠ b → (TX8 a).2.1 ≠ (TX8 b).2.1 := by decide +kernel
theorem tyX8_ok : ∀ k, k < 4 → parseFieldDescriptor (TX8 k).2.2.1 = some (tyX8 k) := by decide +kernel
abbrev cX8_init : ByteArray := prog_10_method_1_code
def yX8_init : MethodName := ⟨RX8, "<init>", "()V"⟩
abbrev cX8_keep : ByteArray := prog_10_method_2_code
def yX8_keep : MethodName := ⟨RX8, "keep", "(III)V"⟩
abbrev cX8_back : ByteArray := prog_10_method_3_code
def yX8_back : MethodName := ⟨RX8, "back", "(LRentRiver$Plain;)I"⟩
def RX9 : String := "RentRiver$Word"
def TX9 : u_T := fun k => match k with
  | _ => ("", "", "", false)
def tyX9 : Nat → FieldType := fun k => match k with
  | _ => .int
abbrev wsX90 : List Cond := u_ws RX9 TX9 0
theorem nmX9 : ∀ a, a < 0 → ∀ b, b < 0 → a ≠ b → (TX9 a).2.1 ≠ (TX9 b).2.1 := by decide +kernel
theorem tyX9_ok : ∀ k, k < 0 → parseFieldDescriptor (TX9 k).2.2.1 = some (tyX9 k) := by decide +kernel
abbrev cX9_find : ByteArray := prog_11_method_4_code
def yX9_find : MethodName := ⟨RX9, "find", "(J)LRentRiver$Word;"⟩
abbrev cX9_isMeasure : ByteArray := prog_11_method_5_code
def yX9_isMeasure : MethodName := ⟨RX9, "isMeasure", "()Z"⟩
abbrev cX9_isAboutTown : ByteArray := prog_11_method_6_code
def yX9_isAboutTown : MethodName := ⟨RX9, "isAboutTown", "()Z"⟩
def RX10 : String := "RentRiver$Year"
def TX10 : u_T := fun k => match k with
  | 0 => ("RentRiver$Year", "running", "Z", false)
  | 1 => ("RentRiver$Year", "months", "I", false)
  | 2 => ("RentRiver$Year", "treasury", "I", false)
  | 3 => ("RentRiver$Year", "letTo", "[I", true)
  | 4 => ("RentRiver$Year", "letAlso", "[I", true)
  | 5 => ("RentRiver$Year", "letFor", "[I", true)
  | 6 => ("RentRiver$Year", "of", "[[I", true)
  | 7 => ("RentRiver$Year", "lies", "I", false)
  | 8 => ("RentRiver$Year", "fish", "I", false)
  | 9 => ("RentRiver$Year", "rained", "I", false)
  | 10 => ("RentRiver$Year", "used", "I", false)
  | 11 => ("RentRiver$Year", "seeped", "I", false)
  | 12 => ("RentRiver$Year", "atSea", "I", false)
  | 13 => ("RentRiver$Year", "lettings", "I", false)
  | _ => ("RentRiver$Year", "moves", "I", false)
def tyX10 : Nat → FieldType := fun k => match k with
  | 0 => .boolean
  | 1 => .int
  | 2 => .int
  | 3 => .array .int
  | 4 => .array .int
  | 5 => .array .int
  | 6 => .array (.array .int)
  | 7 => .int
  | 8 => .int
  | 9 => .int
  | 10 => .int
  | 11 => .int
  | 12 => .int
  | 13 => .int
  | _ => .int
abbrev wsX100 : List Cond := u_ws RX10 TX10 15
theorem nmX10 : ∀ a, a < 15 → ∀ b, b < 15 → a ≠ b → (TX10 a).2.1 ≠ (TX10 b).2.1 := by decide +kernel
theorem tyX10_ok : ∀ k, k < 15 → parseFieldDescriptor (TX10 k).2.2.1 = some (tyX10 k) := by decide +kernel
abbrev cX10_init : ByteArray := prog_12_method_1_code
def yX10_init : MethodName := ⟨RX10, "<init>", "()V"⟩
abbrev cX10_start : ByteArray := prog_12_method_2_code
def yX10_start : MethodName := ⟨RX10, "start", "(LRentRiver$Plain;)V"⟩
abbrev cX10_copy : ByteArray := prog_12_method_3_code
def yX10_copy : MethodName := ⟨RX10, "copy", "(LRentRiver$Year;)V"⟩
abbrev cX10_number : ByteArray := prog_12_method_4_code
def yX10_number : MethodName := ⟨RX10, "number", "(I)I"⟩
abbrev cX10_inPonds : ByteArray := prog_12_method_5_code
def yX10_inPonds : MethodName := ⟨RX10, "inPonds", "()I"⟩
abbrev cX10_lacks : ByteArray := prog_12_method_6_code
def yX10_lacks : MethodName := ⟨RX10, "lacks", "(LRentRiver$Plain;I)Z"⟩
abbrev cX10_goOn : ByteArray := prog_12_method_7_code
def yX10_goOn : MethodName := ⟨RX10, "goOn", "(LRentRiver$Plain;LRentRiver$Contracts;I)V"⟩
abbrev cX10_draw : ByteArray := prog_12_method_8_code
def yX10_draw : MethodName := ⟨RX10, "draw", "(LRentRiver$Plain;LRentRiver$Contracts;I)V"⟩
abbrev cX10_nextMonth : ByteArray := prog_12_method_9_code
def yX10_nextMonth : MethodName := ⟨RX10, "nextMonth", "(LRentRiver$Plain;LRentRiver$Contracts;I)V"⟩
abbrev cX10_canPay : ByteArray := prog_12_method_10_code
def yX10_canPay : MethodName := ⟨RX10, "canPay", "(II)Z"⟩
abbrev cX10_letByContract : ByteArray := prog_12_method_11_code
def yX10_letByContract : MethodName := ⟨RX10, "letByContract", "(LRentRiver$Contracts;)V"⟩
abbrev cX10_letByBids : ByteArray := prog_12_method_12_code
def yX10_letByBids : MethodName := ⟨RX10, "letByBids", "(LRentRiver$Plain;)V"⟩
abbrev cX10_leastBid : ByteArray := prog_12_method_13_code
def yX10_leastBid : MethodName := ⟨RX10, "leastBid", "(LRentRiver$Plain;II)I"⟩
abbrev cX10_pay : ByteArray := prog_12_method_14_code
def yX10_pay : MethodName := ⟨RX10, "pay", "(II)V"⟩
abbrev cX10_moveRiver : ByteArray := prog_12_method_15_code
def yX10_moveRiver : MethodName := ⟨RX10, "moveRiver", "(LRentRiver$Plain;)V"⟩
abbrev cX10_bridgeTo : ByteArray := prog_12_method_16_code
def yX10_bridgeTo : MethodName := ⟨RX10, "bridgeTo", "(LRentRiver$Plain;I)I"⟩
abbrev cX10_pour : ByteArray := prog_12_method_17_code
def yX10_pour : MethodName := ⟨RX10, "pour", "(LRentRiver$Plain;I)V"⟩
abbrev cX10_pourTo : ByteArray := prog_12_method_18_code
def yX10_pourTo : MethodName := ⟨RX10, "pourTo", "(LRentRiver$Plain;II)V"⟩
abbrev cX10_drink : ByteArray := prog_12_method_19_code
def yX10_drink : MethodName := ⟨RX10, "drink", "(LRentRiver$Plain;I)V"⟩
abbrev cX10_waterField : ByteArray := prog_12_method_20_code
def yX10_waterField : MethodName := ⟨RX10, "waterField", "(LRentRiver$Plain;I)V"⟩
abbrev cX10_harvest : ByteArray := prog_12_method_21_code
def yX10_harvest : MethodName := ⟨RX10, "harvest", "(LRentRiver$Plain;)V"⟩
abbrev cX10_leakFrom : ByteArray := prog_12_method_22_code
def yX10_leakFrom : MethodName := ⟨RX10, "leakFrom", "(II)V"⟩
def RX11 : String := "RentRiver"
def TX11 : u_T := fun k => match k with
  | 0 => ("RentRiver", "tape", "LRentRiver$Tape;", true)
  | 1 => ("RentRiver", "now", "LRentRiver$State;", true)
  | 2 => ("RentRiver", "spare", "LRentRiver$State;", true)
  | 3 => ("RentRiver", "images", "[LRentRiver$State;", true)
  | 4 => ("RentRiver", "kept", "[Z", true)
  | 5 => ("RentRiver", "undone", "LRentRiver$Undo;", true)
  | 6 => ("RentRiver", "planner", "LRentRiver$Cheapest;", true)
  | 7 => ("RentRiver", "auction", "LRentRiver$Rounds;", true)
  | 8 => ("RentRiver", "search", "LRentRiver$Leaks;", true)
  | 9 => ("RentRiver", "trial", "LRentRiver$Year;", true)
  | 10 => ("RentRiver", "text", "[B", true)
  | 11 => ("RentRiver", "textSize", "I", false)
  | 12 => ("RentRiver", "latestFault", "I", false)
  | _ => ("RentRiver", "plains", "I", false)
def tyX11 : Nat → FieldType := fun k => match k with
  | 0 => .object "RentRiver$Tape"
  | 1 => .object "RentRiver$State"
  | 2 => .object "RentRiver$State"
  | 3 => .array (.object "RentRiver$State")
  | 4 => .array .boolean
  | 5 => .object "RentRiver$Undo"
  | 6 => .object "RentRiver$Cheapest"
  | 7 => .object "RentRiver$Rounds"
  | 8 => .object "RentRiver$Leaks"
  | 9 => .object "RentRiver$Year"
  | 10 => .array .byte
  | 11 => .int
  | 12 => .int
  | _ => .int
abbrev wsX110 : List Cond := u_ws RX11 TX11 14
theorem nmX11 : ∀ a, a < 14 → ∀ b, b < 14 → a ≠ b → (TX11 a).2.1 ≠ (TX11 b).2.1 := by decide +kernel
theorem tyX11_ok : ∀ k, k < 14 → parseFieldDescriptor (TX11 k).2.2.1 = some (tyX11 k) := by decide +kernel
abbrev cX11_init : ByteArray := prog_1_method_1_code
def yX11_init : MethodName := ⟨RX11, "<init>", "()V"⟩
abbrev cX11_feed : ByteArray := prog_1_method_2_code
def yX11_feed : MethodName := ⟨RX11, "feed", "(IIIII)I"⟩
abbrev cX11_end : ByteArray := prog_1_method_3_code
def yX11_end : MethodName := ⟨RX11, "end", "(I)Z"⟩
abbrev cX11_plain : ByteArray := prog_1_method_4_code
def yX11_plain : MethodName := ⟨RX11, "plain", "()I"⟩
abbrev cX11_closeTape : ByteArray := prog_1_method_5_code
def yX11_closeTape : MethodName := ⟨RX11, "closeTape", "(I)I"⟩
abbrev cX11_fault : ByteArray := prog_1_method_6_code
def yX11_fault : MethodName := ⟨RX11, "fault", "()I"⟩
abbrev cX11_told : ByteArray := prog_1_method_7_code
def yX11_told : MethodName := ⟨RX11, "told", "(II)I"⟩
abbrev cX11_isTown : ByteArray := prog_1_method_8_code
def yX11_isTown : MethodName := ⟨RX11, "isTown", "(I)Z"⟩
abbrev cX11_isMonth : ByteArray := prog_1_method_9_code
def yX11_isMonth : MethodName := ⟨RX11, "isMonth", "(I)Z"⟩
abbrev cX11_bid : ByteArray := prog_1_method_10_code
def yX11_bid : MethodName := ⟨RX11, "bid", "(II)I"⟩
abbrev cX11_offer : ByteArray := prog_1_method_11_code
def yX11_offer : MethodName := ⟨RX11, "offer", "(III)Z"⟩
abbrev cX11_undo : ByteArray := prog_1_method_12_code
def yX11_undo : MethodName := ⟨RX11, "undo", "()I"⟩
abbrev cX11_water : ByteArray := prog_1_method_13_code
def yX11_water : MethodName := ⟨RX11, "water", "(I)I"⟩
abbrev cX11_contracts : ByteArray := prog_1_method_14_code
def yX11_contracts : MethodName := ⟨RX11, "contracts", "()I"⟩
abbrev cX11_contract : ByteArray := prog_1_method_15_code
def yX11_contract : MethodName := ⟨RX11, "contract", "(II)I"⟩
abbrev cX11_begin : ByteArray := prog_1_method_16_code
def yX11_begin : MethodName := ⟨RX11, "begin", "()Z"⟩
abbrev cX11_on : ByteArray := prog_1_method_17_code
def yX11_on : MethodName := ⟨RX11, "on", "(I)I"⟩
abbrev cX11_year : ByteArray := prog_1_method_18_code
def yX11_year : MethodName := ⟨RX11, "year", "(I)I"⟩
abbrev cX11_town : ByteArray := prog_1_method_19_code
def yX11_town : MethodName := ⟨RX11, "town", "(II)I"⟩
abbrev cX11_let : ByteArray := prog_1_method_20_code
def yX11_let : MethodName := ⟨RX11, "let", "(II)I"⟩
abbrev cX11_droughts : ByteArray := prog_1_method_21_code
def yX11_droughts : MethodName := ⟨RX11, "droughts", "()I"⟩
abbrev cX11_cheapest : ByteArray := prog_1_method_22_code
def yX11_cheapest : MethodName := ⟨RX11, "cheapest", "()I"⟩
abbrev cX11_plan : ByteArray := prog_1_method_23_code
def yX11_plan : MethodName := ⟨RX11, "plan", "(I)I"⟩
abbrev cX11_take : ByteArray := prog_1_method_24_code
def yX11_take : MethodName := ⟨RX11, "take", "()Z"⟩
abbrev cX11_rounds : ByteArray := prog_1_method_25_code
def yX11_rounds : MethodName := ⟨RX11, "rounds", "(I)I"⟩
abbrev cX11_has : ByteArray := prog_1_method_26_code
def yX11_has : MethodName := ⟨RX11, "has", "(I)I"⟩
abbrev cX11_price : ByteArray := prog_1_method_27_code
def yX11_price : MethodName := ⟨RX11, "price", "(I)I"⟩
abbrev cX11_leaks : ByteArray := prog_1_method_28_code
def yX11_leaks : MethodName := ⟨RX11, "leaks", "()I"⟩
abbrev cX11_leak : ByteArray := prog_1_method_29_code
def yX11_leak : MethodName := ⟨RX11, "leak", "(II)I"⟩
abbrev cX11_wettest : ByteArray := prog_1_method_30_code
def yX11_wettest : MethodName := ⟨RX11, "wettest", "(I)I"⟩
abbrev cX11_enough : ByteArray := prog_1_method_31_code
def yX11_enough : MethodName := ⟨RX11, "enough", "(I)I"⟩
abbrev cX11_mostGain : ByteArray := prog_1_method_32_code
def yX11_mostGain : MethodName := ⟨RX11, "mostGain", "(II)I"⟩
abbrev cX11_shoresOf : ByteArray := prog_1_method_33_code
def yX11_shoresOf : MethodName := ⟨RX11, "shoresOf", "()I"⟩
abbrev cX11_tryYear : ByteArray := prog_1_method_34_code
def yX11_tryYear : MethodName := ⟨RX11, "tryYear", "(LRentRiver$Plain;)V"⟩
abbrev cX11_thirsty : ByteArray := prog_1_method_35_code
def yX11_thirsty : MethodName := ⟨RX11, "thirsty", "()I"⟩
abbrev cX11_bidsOf : ByteArray := prog_1_method_36_code
def yX11_bidsOf : MethodName := ⟨RX11, "bidsOf", "(I)I"⟩
abbrev cX11_greatest : ByteArray := prog_1_method_37_code
def yX11_greatest : MethodName := ⟨RX11, "greatest", "(I)I"⟩
abbrev cX11_write : ByteArray := prog_1_method_38_code
def yX11_write : MethodName := ⟨RX11, "write", "()I"⟩
abbrev cX11_putByte : ByteArray := prog_1_method_39_code
def yX11_putByte : MethodName := ⟨RX11, "putByte", "(I)V"⟩
abbrev cX11_putNumber : ByteArray := prog_1_method_40_code
def yX11_putNumber : MethodName := ⟨RX11, "putNumber", "(I)V"⟩
abbrev cX11_putTenant : ByteArray := prog_1_method_41_code
def yX11_putTenant : MethodName := ⟨RX11, "putTenant", "(I)V"⟩
abbrev cX11_byteAt : ByteArray := prog_1_method_42_code
def yX11_byteAt : MethodName := ⟨RX11, "byteAt", "(I)I"⟩
abbrev cX11_worth : ByteArray := prog_1_method_43_code
def yX11_worth : MethodName := ⟨RX11, "worth", "(I)I"⟩
abbrev cX11_drawn : ByteArray := prog_1_method_44_code
def yX11_drawn : MethodName := ⟨RX11, "drawn", "(I)I"⟩
abbrev cX11_shores : ByteArray := prog_1_method_45_code
def yX11_shores : MethodName := ⟨RX11, "shores", "(III)I"⟩
abbrev cX11_must : ByteArray := prog_1_method_46_code
def yX11_must : MethodName := ⟨RX11, "must", "(II)I"⟩
abbrev cX11_sentence : ByteArray := prog_1_method_47_code
def yX11_sentence : MethodName := ⟨RX11, "sentence", "()I"⟩
abbrev cX11_said : ByteArray := prog_1_method_48_code
def yX11_said : MethodName := ⟨RX11, "said", "(I)I"⟩
abbrev cX11_image : ByteArray := prog_1_method_49_code
def yX11_image : MethodName := ⟨RX11, "image", "(I)Z"⟩
abbrev cX11_restore : ByteArray := prog_1_method_50_code
def yX11_restore : MethodName := ⟨RX11, "restore", "(I)Z"⟩
abbrev cX11_count : ByteArray := prog_1_method_51_code
def yX11_count : MethodName := ⟨RX11, "count", "(I)I"⟩
def RX12 : String := "RentRiverModel"
def TX12 : u_T := fun k => match k with
  | 0 => ("RentRiverModel", "thrown", "I", false)
  | 1 => ("RentRiverModel", "tape", "[B", true)
  | 2 => ("RentRiverModel", "length", "I", false)
  | 3 => ("RentRiverModel", "size", "I", false)
  | 4 => ("RentRiverModel", "p", "I", false)
  | 5 => ("RentRiverModel", "limit", "I", false)
  | 6 => ("RentRiverModel", "s", "[I", true)
  | 7 => ("RentRiverModel", "h", "[I", true)
  | 8 => ("RentRiverModel", "read", "[I", true)
  | 9 => ("RentRiverModel", "names", "[J", true)
  | 10 => ("RentRiverModel", "reserved", "[J", true)
  | 11 => ("RentRiverModel", "token", "I", false)
  | 12 => ("RentRiverModel", "at", "I", false)
  | 13 => ("RentRiverModel", "span", "I", false)
  | 14 => ("RentRiverModel", "number", "I", false)
  | 15 => ("RentRiverModel", "fault", "I", false)
  | 16 => ("RentRiverModel", "faultAt", "I", false)
  | 17 => ("RentRiverModel", "word", "J", false)
  | 18 => ("RentRiverModel", "got", "I", false)
  | 19 => ("RentRiverModel", "rows", "I", false)
  | 20 => ("RentRiverModel", "onces", "I", false)
  | 21 => ("RentRiverModel", "bids", "I", false)
  | 22 => ("RentRiverModel", "rain", "I", false)
  | 23 => ("RentRiverModel", "had", "[I", true)
  | 24 => ("RentRiverModel", "of0", "I", false)
  | 25 => ("RentRiverModel", "plainNumber", "I", false)
  | 26 => ("RentRiverModel", "plainsRead", "I", false)
  | 27 => ("RentRiverModel", "undone", "[I", true)
  | 28 => ("RentRiverModel", "undoMany", "I", false)
  | 29 => ("RentRiverModel", "lies", "I", false)
  | 30 => ("RentRiverModel", "other", "I", false)
  | 31 => ("RentRiverModel", "paid", "I", false)
  | 32 => ("RentRiverModel", "leakTown", "I", false)
  | 33 => ("RentRiverModel", "leakMonth", "I", false)
  | 34 => ("RentRiverModel", "leakMuch", "I", false)
  | 35 => ("RentRiverModel", "tried", "[I", true)
  | 36 => ("RentRiverModel", "costs", "[I", true)
  | 37 => ("RentRiverModel", "havings", "[I", true)
  | 38 => ("RentRiverModel", "plan", "[I", true)
  | 39 => ("RentRiverModel", "hasPlan", "Z", false)
  | 40 => ("RentRiverModel", "planNumber", "I", false)
  | 41 => ("RentRiverModel", "hasMonth", "[I", true)
  | 42 => ("RentRiverModel", "prices", "[I", true)
  | 43 => ("RentRiverModel", "roundTowns", "I", false)
  | 44 => ("RentRiverModel", "hasRounds", "Z", false)
  | 45 => ("RentRiverModel", "before", "[I", true)
  | 46 => ("RentRiverModel", "bidsKept", "[I", true)
  | 47 => ("RentRiverModel", "seed", "I", false)
  | 48 => ("RentRiverModel", "leaksFound", "[I", true)
  | 49 => ("RentRiverModel", "leakMany", "I", false)
  | 50 => ("RentRiverModel", "text", "[B", true)
  | 51 => ("RentRiverModel", "textMany", "I", false)
  | 52 => ("RentRiverModel", "stack", "[I", true)
  | 53 => ("RentRiverModel", "codes", "I", false)
  | 54 => ("RentRiverModel", "ones", "I", false)
  | 55 => ("RentRiverModel", "top", "I", false)
  | 56 => ("RentRiverModel", "deep", "I", false)
  | 57 => ("RentRiverModel", "isWhole", "Z", false)
  | 58 => ("RentRiverModel", "values", "[Z", true)
  | 59 => ("RentRiverModel", "kept", "[I", true)
  | 60 => ("RentRiverModel", "namesKept", "[J", true)
  | _ => ("RentRiverModel", "isKept", "[Z", true)
def tyX12 : Nat → FieldType := fun k => match k with
  | 0 => .int
  | 1 => .array .byte
  | 2 => .int
  | 3 => .int
  | 4 => .int
  | 5 => .int
  | 6 => .array .int
  | 7 => .array .int
  | 8 => .array .int
  | 9 => .array .long
  | 10 => .array .long
  | 11 => .int
  | 12 => .int
  | 13 => .int
  | 14 => .int
  | 15 => .int
  | 16 => .int
  | 17 => .long
  | 18 => .int
  | 19 => .int
  | 20 => .int
  | 21 => .int
  | 22 => .int
  | 23 => .array .int
  | 24 => .int
  | 25 => .int
  | 26 => .int
  | 27 => .array .int
  | 28 => .int
  | 29 => .int
  | 30 => .int
  | 31 => .int
  | 32 => .int
  | 33 => .int
  | 34 => .int
  | 35 => .array .int
  | 36 => .array .int
  | 37 => .array .int
  | 38 => .array .int
  | 39 => .boolean
  | 40 => .int
  | 41 => .array .int
  | 42 => .array .int
  | 43 => .int
  | 44 => .boolean
  | 45 => .array .int
  | 46 => .array .int
  | 47 => .int
  | 48 => .array .int
  | 49 => .int
  | 50 => .array .byte
  | 51 => .int
  | 52 => .array .int
  | 53 => .int
  | 54 => .int
  | 55 => .int
  | 56 => .int
  | 57 => .boolean
  | 58 => .array .boolean
  | 59 => .array .int
  | 60 => .array .long
  | _ => .array .boolean
abbrev wsX120 : List Cond := u_ws RX12 TX12 62
theorem nmX12 : ∀ a, a < 62 → ∀ b, b < 62 → a ≠ b → (TX12 a).2.1 ≠ (TX12 b).2.1 := by decide +kernel
theorem tyX12_ok : ∀ k, k < 62 → parseFieldDescriptor (TX12 k).2.2.1 = some (tyX12 k) := by decide +kernel
abbrev cX12_thrown : ByteArray := prog_14_method_1_code
def yX12_thrown : MethodName := ⟨RX12, "thrown", "()I"⟩
abbrev cX12_throwsIf : ByteArray := prog_14_method_2_code
def yX12_throwsIf : MethodName := ⟨RX12, "throwsIf", "(Z)Z"⟩
abbrev cX12_feed : ByteArray := prog_14_method_3_code
def yX12_feed : MethodName := ⟨RX12, "feed", "(IIIII)I"⟩
abbrev cX12_four : ByteArray := prog_14_method_4_code
def yX12_four : MethodName := ⟨RX12, "four", "(I)V"⟩
abbrev cX12_end : ByteArray := prog_14_method_5_code
def yX12_end : MethodName := ⟨RX12, "end", "(I)Z"⟩
abbrev cX12_taken : ByteArray := prog_14_method_6_code
def yX12_taken : MethodName := ⟨RX12, "taken", "(I)V"⟩
abbrev cX12_isIn : ByteArray := prog_14_method_7_code
def yX12_isIn : MethodName := ⟨RX12, "isIn", "(III)Z"⟩
abbrev cX12_bitOf : ByteArray := prog_14_method_8_code
def yX12_bitOf : MethodName := ⟨RX12, "bitOf", "(II)Z"⟩
abbrev cX12_octet : ByteArray := prog_14_method_9_code
def yX12_octet : MethodName := ⟨RX12, "octet", "(I)I"⟩
abbrev cX12_init : ByteArray := prog_14_method_10_code
def yX12_init : MethodName := ⟨RX12, "<init>", "()V"⟩
abbrev cX12_peek : ByteArray := prog_14_method_11_code
def yX12_peek : MethodName := ⟨RX12, "peek", "()I"⟩
abbrev cX12_isSmall : ByteArray := prog_14_method_12_code
def yX12_isSmall : MethodName := ⟨RX12, "isSmall", "(I)Z"⟩
abbrev cX12_isDigit : ByteArray := prog_14_method_13_code
def yX12_isDigit : MethodName := ⟨RX12, "isDigit", "(I)Z"⟩
abbrev cX12_next : ByteArray := prog_14_method_14_code
def yX12_next : MethodName := ⟨RX12, "next", "()V"⟩
abbrev cX12_bad : ByteArray := prog_14_method_15_code
def yX12_bad : MethodName := ⟨RX12, "bad", "(I)Z"⟩
abbrev cX12_isWord : ByteArray := prog_14_method_16_code
def yX12_isWord : MethodName := ⟨RX12, "isWord", "(J)Z"⟩
abbrev cX12_isSign : ByteArray := prog_14_method_17_code
def yX12_isSign : MethodName := ⟨RX12, "isSign", "(I)Z"⟩
abbrev cX12_sign : ByteArray := prog_14_method_18_code
def yX12_sign : MethodName := ⟨RX12, "sign", "(I)Z"⟩
abbrev cX12_isName : ByteArray := prog_14_method_19_code
def yX12_isName : MethodName := ⟨RX12, "isName", "()Z"⟩
abbrev cX12_takes : ByteArray := prog_14_method_20_code
def yX12_takes : MethodName := ⟨RX12, "takes", "(II)Z"⟩
abbrev cX12_find : ByteArray := prog_14_method_21_code
def yX12_find : MethodName := ⟨RX12, "find", "(II)I"⟩
abbrev cX12_row : ByteArray := prog_14_method_22_code
def yX12_row : MethodName := ⟨RX12, "row", "()Z"⟩
abbrev cX12_readTown : ByteArray := prog_14_method_23_code
def yX12_readTown : MethodName := ⟨RX12, "readTown", "()Z"⟩
abbrev cX12_readBid : ByteArray := prog_14_method_24_code
def yX12_readBid : MethodName := ⟨RX12, "readBid", "()Z"⟩
abbrev cX12_readOf : ByteArray := prog_14_method_25_code
def yX12_readOf : MethodName := ⟨RX12, "readOf", "(III)Z"⟩
abbrev cX12_plain : ByteArray := prog_14_method_26_code
def yX12_plain : MethodName := ⟨RX12, "plain", "()I"⟩
abbrev cX12_fault : ByteArray := prog_14_method_27_code
def yX12_fault : MethodName := ⟨RX12, "fault", "()I"⟩
abbrev cX12_isTown : ByteArray := prog_14_method_28_code
def yX12_isTown : MethodName := ⟨RX12, "isTown", "(I)Z"⟩
abbrev cX12_isMonth : ByteArray := prog_14_method_29_code
def yX12_isMonth : MethodName := ⟨RX12, "isMonth", "(I)Z"⟩
abbrev cX12_toldOf : ByteArray := prog_14_method_30_code
def yX12_toldOf : MethodName := ⟨RX12, "toldOf", "(II)I"⟩
abbrev cX12_bidOf : ByteArray := prog_14_method_31_code
def yX12_bidOf : MethodName := ⟨RX12, "bidOf", "(II)I"⟩
abbrev cX12_told : ByteArray := prog_14_method_32_code
def yX12_told : MethodName := ⟨RX12, "told", "(II)I"⟩
abbrev cX12_bid : ByteArray := prog_14_method_33_code
def yX12_bid : MethodName := ⟨RX12, "bid", "(II)I"⟩
abbrev cX12_water : ByteArray := prog_14_method_34_code
def yX12_water : MethodName := ⟨RX12, "water", "(I)I"⟩
abbrev cX12_bidMany : ByteArray := prog_14_method_35_code
def yX12_bidMany : MethodName := ⟨RX12, "bidMany", "()I"⟩
abbrev cX12_offer : ByteArray := prog_14_method_36_code
def yX12_offer : MethodName := ⟨RX12, "offer", "(III)Z"⟩
abbrev cX12_undo : ByteArray := prog_14_method_37_code
def yX12_undo : MethodName := ⟨RX12, "undo", "()I"⟩
abbrev cX12_dealRow : ByteArray := prog_14_method_38_code
def yX12_dealRow : MethodName := ⟨RX12, "dealRow", "()Z"⟩
abbrev cX12_contracts : ByteArray := prog_14_method_39_code
def yX12_contracts : MethodName := ⟨RX12, "contracts", "()I"⟩
abbrev cX12_contract : ByteArray := prog_14_method_40_code
def yX12_contract : MethodName := ⟨RX12, "contract", "(II)I"⟩
abbrev cX12_begins : ByteArray := prog_14_method_41_code
def yX12_begins : MethodName := ⟨RX12, "begins", "()V"⟩
abbrev cX12_of : ByteArray := prog_14_method_42_code
def yX12_of : MethodName := ⟨RX12, "of", "(II)I"⟩
abbrev cX12_more : ByteArray := prog_14_method_43_code
def yX12_more : MethodName := ⟨RX12, "more", "(III)V"⟩
abbrev cX12_canPay : ByteArray := prog_14_method_44_code
def yX12_canPay : MethodName := ⟨RX12, "canPay", "(II)Z"⟩
abbrev cX12_pays : ByteArray := prog_14_method_45_code
def yX12_pays : MethodName := ⟨RX12, "pays", "(II)V"⟩
abbrev cX12_lets : ByteArray := prog_14_method_46_code
def yX12_lets : MethodName := ⟨RX12, "lets", "(I)V"⟩
abbrev cX12_placeOf : ByteArray := prog_14_method_47_code
def yX12_placeOf : MethodName := ⟨RX12, "placeOf", "(I)I"⟩
abbrev cX12_sizeOf : ByteArray := prog_14_method_48_code
def yX12_sizeOf : MethodName := ⟨RX12, "sizeOf", "(I)I"⟩
abbrev cX12_comes : ByteArray := prog_14_method_49_code
def yX12_comes : MethodName := ⟨RX12, "comes", "(II)V"⟩
abbrev cX12_wasLet : ByteArray := prog_14_method_50_code
def yX12_wasLet : MethodName := ⟨RX12, "wasLet", "(II)Z"⟩
abbrev cX12_month : ByteArray := prog_14_method_51_code
def yX12_month : MethodName := ⟨RX12, "month", "(I)V"⟩
abbrev cX12_uses : ByteArray := prog_14_method_52_code
def yX12_uses : MethodName := ⟨RX12, "uses", "(I)V"⟩
abbrev cX12_begin : ByteArray := prog_14_method_53_code
def yX12_begin : MethodName := ⟨RX12, "begin", "()Z"⟩
abbrev cX12_on : ByteArray := prog_14_method_54_code
def yX12_on : MethodName := ⟨RX12, "on", "(I)I"⟩
abbrev cX12_year : ByteArray := prog_14_method_55_code
def yX12_year : MethodName := ⟨RX12, "year", "(I)I"⟩
abbrev cX12_town : ByteArray := prog_14_method_56_code
def yX12_town : MethodName := ⟨RX12, "town", "(II)I"⟩
abbrev cX12_let : ByteArray := prog_14_method_57_code
def yX12_let : MethodName := ⟨RX12, "let", "(II)I"⟩
abbrev cX12_droughts : ByteArray := prog_14_method_58_code
def yX12_droughts : MethodName := ⟨RX12, "droughts", "()I"⟩
abbrev cX12_costOf : ByteArray := prog_14_method_59_code
def yX12_costOf : MethodName := ⟨RX12, "costOf", "(II)I"⟩
abbrev cX12_gains : ByteArray := prog_14_method_60_code
def yX12_gains : MethodName := ⟨RX12, "gains", "(II)I"⟩
abbrev cX12_canBe : ByteArray := prog_14_method_61_code
def yX12_canBe : MethodName := ⟨RX12, "canBe", "(I)Z"⟩
abbrev cX12_cheapest : ByteArray := prog_14_method_62_code
def yX12_cheapest : MethodName := ⟨RX12, "cheapest", "()I"⟩
abbrev cX12_plan : ByteArray := prog_14_method_63_code
def yX12_plan : MethodName := ⟨RX12, "plan", "(I)I"⟩
abbrev cX12_take : ByteArray := prog_14_method_64_code
def yX12_take : MethodName := ⟨RX12, "take", "()Z"⟩
abbrev cX12_holderOf : ByteArray := prog_14_method_65_code
def yX12_holderOf : MethodName := ⟨RX12, "holderOf", "(I)I"⟩
abbrev cX12_rounds : ByteArray := prog_14_method_66_code
def yX12_rounds : MethodName := ⟨RX12, "rounds", "(I)I"⟩
abbrev cX12_has : ByteArray := prog_14_method_67_code
def yX12_has : MethodName := ⟨RX12, "has", "(I)I"⟩
abbrev cX12_price : ByteArray := prog_14_method_68_code
def yX12_price : MethodName := ⟨RX12, "price", "(I)I"⟩
abbrev cX12_thinks : ByteArray := prog_14_method_69_code
def yX12_thinks : MethodName := ⟨RX12, "thinks", "()V"⟩
abbrev cX12_forgets : ByteArray := prog_14_method_70_code
def yX12_forgets : MethodName := ⟨RX12, "forgets", "()V"⟩
abbrev cX12_wholeYear : ByteArray := prog_14_method_71_code
def yX12_wholeYear : MethodName := ⟨RX12, "wholeYear", "(Z)V"⟩
abbrev cX12_draw : ByteArray := prog_14_method_72_code
def yX12_draw : MethodName := ⟨RX12, "draw", "(I)I"⟩
abbrev cX12_areLevels : ByteArray := prog_14_method_73_code
def yX12_areLevels : MethodName := ⟨RX12, "areLevels", "(I)Z"⟩
abbrev cX12_leaks : ByteArray := prog_14_method_74_code
def yX12_leaks : MethodName := ⟨RX12, "leaks", "()I"⟩
abbrev cX12_leak : ByteArray := prog_14_method_75_code
def yX12_leak : MethodName := ⟨RX12, "leak", "(II)I"⟩
abbrev cX12_wettest : ByteArray := prog_14_method_76_code
def yX12_wettest : MethodName := ⟨RX12, "wettest", "(I)I"⟩
abbrev cX12_enough : ByteArray := prog_14_method_77_code
def yX12_enough : MethodName := ⟨RX12, "enough", "(I)I"⟩
abbrev cX12_shoresOf : ByteArray := prog_14_method_78_code
def yX12_shoresOf : MethodName := ⟨RX12, "shoresOf", "()I"⟩
abbrev cX12_thirsty : ByteArray := prog_14_method_79_code
def yX12_thirsty : MethodName := ⟨RX12, "thirsty", "()I"⟩
abbrev cX12_bidsOf : ByteArray := prog_14_method_80_code
def yX12_bidsOf : MethodName := ⟨RX12, "bidsOf", "(I)I"⟩
abbrev cX12_greatest : ByteArray := prog_14_method_81_code
def yX12_greatest : MethodName := ⟨RX12, "greatest", "(I)I"⟩
abbrev cX12_put : ByteArray := prog_14_method_82_code
def yX12_put : MethodName := ⟨RX12, "put", "(I)V"⟩
abbrev cX12_putNumber : ByteArray := prog_14_method_83_code
def yX12_putNumber : MethodName := ⟨RX12, "putNumber", "(I)V"⟩
abbrev cX12_putName : ByteArray := prog_14_method_84_code
def yX12_putName : MethodName := ⟨RX12, "putName", "(J)V"⟩
abbrev cX12_write : ByteArray := prog_14_method_85_code
def yX12_write : MethodName := ⟨RX12, "write", "()I"⟩
abbrev cX12_byteAt : ByteArray := prog_14_method_86_code
def yX12_byteAt : MethodName := ⟨RX12, "byteAt", "(I)I"⟩
abbrev cX12_worth : ByteArray := prog_14_method_87_code
def yX12_worth : MethodName := ⟨RX12, "worth", "(I)I"⟩
abbrev cX12_drawn : ByteArray := prog_14_method_88_code
def yX12_drawn : MethodName := ⟨RX12, "drawn", "(I)I"⟩
abbrev cX12_shores : ByteArray := prog_14_method_89_code
def yX12_shores : MethodName := ⟨RX12, "shores", "(III)I"⟩
abbrev cX12_must : ByteArray := prog_14_method_90_code
def yX12_must : MethodName := ⟨RX12, "must", "(II)I"⟩
abbrev cX12_code : ByteArray := prog_14_method_91_code
def yX12_code : MethodName := ⟨RX12, "code", "(III)V"⟩
abbrev cX12_joins : ByteArray := prog_14_method_92_code
def yX12_joins : MethodName := ⟨RX12, "joins", "(I)V"⟩
abbrev cX12_nots : ByteArray := prog_14_method_93_code
def yX12_nots : MethodName := ⟨RX12, "nots", "()V"⟩
abbrev cX12_leafOf : ByteArray := prog_14_method_94_code
def yX12_leafOf : MethodName := ⟨RX12, "leafOf", "()I"⟩
abbrev cX12_operand : ByteArray := prog_14_method_95_code
def yX12_operand : MethodName := ⟨RX12, "operand", "()Z"⟩
abbrev cX12_behind : ByteArray := prog_14_method_96_code
def yX12_behind : MethodName := ⟨RX12, "behind", "()Z"⟩
abbrev cX12_sentence : ByteArray := prog_14_method_97_code
def yX12_sentence : MethodName := ⟨RX12, "sentence", "()I"⟩
abbrev cX12_isLeaf : ByteArray := prog_14_method_98_code
def yX12_isLeaf : MethodName := ⟨RX12, "isLeaf", "(IIII)Z"⟩
abbrev cX12_isSaid : ByteArray := prog_14_method_99_code
def yX12_isSaid : MethodName := ⟨RX12, "isSaid", "(I)Z"⟩
abbrev cX12_said : ByteArray := prog_14_method_100_code
def yX12_said : MethodName := ⟨RX12, "said", "(I)I"⟩
abbrev cX12_image : ByteArray := prog_14_method_101_code
def yX12_image : MethodName := ⟨RX12, "image", "(I)Z"⟩
abbrev cX12_restore : ByteArray := prog_14_method_102_code
def yX12_restore : MethodName := ⟨RX12, "restore", "(I)Z"⟩
abbrev cX12_count : ByteArray := prog_14_method_103_code
def yX12_count : MethodName := ⟨RX12, "count", "(I)I"⟩
def RJx145de : String := "java/io/Serializable"
def TJx145de : u_T := fun k => match k with
  | _ => ("", "", "", false)
def tyJx145de : Nat → FieldType := fun k => match k with
  | _ => .int
abbrev wsJx145de0 : List Cond := u_ws RJx145de TJx145de 0
theorem nmJx145de : ∀ a, a < 0 → ∀ b, b < 0 → a ≠ b → (TJx145de a).2.1 ≠ (TJx145de b).2.1 := by decide +kernel
theorem tyJx145de_ok : ∀ k, k < 0 → parseFieldDescriptor (TJx145de k).2.2.1 = some (tyJx145de k) := by decide +kernel
def RJx29ce0 : String := "java/lang/Enum"
def TJx29ce0 : u_T := fun k => match k with
  | _ => ("", "", "", false)
def tyJx29ce0 : Nat → FieldType := fun k => match k with
  | _ => .int
abbrev wsJx29ce00 : List Cond := u_ws RJx29ce0 TJx29ce0 0
theorem nmJx29ce0 : ∀ a, a < 0 → ∀ b, b < 0 → a ≠ b → (TJx29ce0 a).2.1 ≠ (TJx29ce0 b).2.1 := by decide +kernel
theorem tyJx29ce0_ok : ∀ k, k < 0 → parseFieldDescriptor (TJx29ce0 k).2.2.1 = some (tyJx29ce0 k) := by decide +kernel
def RJ9 : String := "java/lang/Math"
def TJ9 : u_T := fun k => match k with
  | _ => ("", "", "", false)
def tyJ9 : Nat → FieldType := fun k => match k with
  | _ => .int
abbrev wsJ90 : List Cond := u_ws RJ9 TJ9 0
theorem nmJ9 : ∀ a, a < 0 → ∀ b, b < 0 → a ≠ b → (TJ9 a).2.1 ≠ (TJ9 b).2.1 := by decide +kernel
theorem tyJ9_ok : ∀ k, k < 0 → parseFieldDescriptor (TJ9 k).2.2.1 = some (tyJ9 k) := by decide +kernel
abbrev cJ9_abs_0f7a4 : ByteArray := prog_18_method_59_code
def yJ9_abs_0f7a4 : MethodName := ⟨RJ9, "abs", "(I)I"⟩
abbrev cJ9_max_7cf53 : ByteArray := prog_18_method_65_code
def yJ9_max_7cf53 : MethodName := ⟨RJ9, "max", "(II)I"⟩
abbrev cJ9_min_7cf53 : ByteArray := prog_18_method_69_code
def yJ9_min_7cf53 : MethodName := ⟨RJ9, "min", "(II)I"⟩
def RJ0 : String := "java/lang/String"
def TJ0 : u_T := fun k => match k with
  | _ => ("", "", "", false)
def tyJ0 : Nat → FieldType := fun k => match k with
  | _ => .int
abbrev wsJ00 : List Cond := u_ws RJ0 TJ0 0
theorem nmJ0 : ∀ a, a < 0 → ∀ b, b < 0 → a ≠ b → (TJ0 a).2.1 ≠ (TJ0 b).2.1 := by decide +kernel
theorem tyJ0_ok : ∀ k, k < 0 → parseFieldDescriptor (TJ0 k).2.2.1 = some (tyJ0 k) := by decide +kernel
def RJ10 : String := "java/lang/System"
def TJ10 : u_T := fun k => match k with
  | _ => ("", "", "", false)
def tyJ10 : Nat → FieldType := fun k => match k with
  | _ => .int
abbrev wsJ100 : List Cond := u_ws RJ10 TJ10 0
theorem nmJ10 : ∀ a, a < 0 → ∀ b, b < 0 → a ≠ b → (TJ10 a).2.1 ≠ (TJ10 b).2.1 := by decide +kernel
theorem tyJ10_ok : ∀ k, k < 0 → parseFieldDescriptor (TJ10 k).2.2.1 = some (tyJ10 k) := by decide +kernel
def RL : String := "RentRiverLaw"
abbrev cL_told : ByteArray := method_3_code
def yL_told : MethodName := ⟨RL, "told", "(LRentRiver;II[J)I"⟩
abbrev cL_law : ByteArray := code
def yL_law : MethodName := ⟨RL, "law", "([I)Z"⟩
abbrev vwCl : List vw_C := [(RX0, TX0, 19), (RX1, TX1, 4), (RX2, TX2, 8), (RX3, TX3, 15), (RX4, TX4, 4), (RX5, TX5, 6), (RX6, TX6, 4), (RX7, TX7, 12), (RX8, TX8, 4), (RX10, TX10, 15), (RX11, TX11, 14), (RX12, TX12, 62)]
end
section
/-! ===== the words of the tables that go over to a callee ===== -/
def mj_tb : List Cond := lw_tbl.filter goodWord
theorem mj_tb_good : GoodIn lw_tbl mj_tb := fun w h => ⟨(List.mem_filter.mp h).1, good_of_word (List.mem_filter.mp h).2⟩
theorem mj_tb_in {i : Nat} {w : Cond} (h : lw_tbl[i]? = some w) (hg : goodWord w = true) : w ∈ mj_tb := List.mem_filter.mpr ⟨List.mem_of_getElem? h, hg⟩
theorem mj_lay0 : ∀ w ∈ u_ws RX0 TX0 19, w ∈ mj_tb := by decide +kernel
theorem mj_lay1 : ∀ w ∈ u_ws RX1 TX1 4, w ∈ mj_tb := by decide +kernel
theorem mj_lay2 : ∀ w ∈ u_ws RX2 TX2 8, w ∈ mj_tb := by decide +kernel
theorem mj_lay3 : ∀ w ∈ u_ws RX3 TX3 15, w ∈ mj_tb := by decide +kernel
theorem mj_lay4 : ∀ w ∈ u_ws RX4 TX4 4, w ∈ mj_tb := by decide +kernel
theorem mj_lay5 : ∀ w ∈ u_ws RX5 TX5 6, w ∈ mj_tb := by decide +kernel
theorem mj_lay6 : ∀ w ∈ u_ws RX6 TX6 4, w ∈ mj_tb := by decide +kernel
theorem mj_lay7 : ∀ w ∈ u_ws RX7 TX7 12, w ∈ mj_tb := by decide +kernel
theorem mj_lay8 : ∀ w ∈ u_ws RX8 TX8 4, w ∈ mj_tb := by decide +kernel
theorem mj_lay9 : ∀ w ∈ u_ws RX10 TX10 15, w ∈ mj_tb := by decide +kernel
theorem mj_lay10 : ∀ w ∈ u_ws RX11 TX11 14, w ∈ mj_tb := by decide +kernel
theorem mj_lay11 : ∀ w ∈ u_ws RX12 TX12 62, w ∈ mj_tb := by decide +kernel
end
section
/-! ===== a small machine over a flat memory: values, memory, heap typing, what a method's code needs ===== -/
abbrev mj_V : Type := Int ⊕ (Int64 ⊕ Option Nat)
abbrev mj_M : Type := (Nat → Nat → Int) × (Nat → Nat → Int64) × (Nat → Nat → Option Nat)
abbrev mj_G : Type := Nat → Nat × Nat
/-- an instruction, its pc, what its pool entry or its target is, a number -/
abbrev mj_E : Type := Instr × Nat × List Nat × Int
abbrev mj_P : Type := Option mj_V → mj_G → mj_M → Prop
abbrev mj_C : Type := Nat → List mj_V → mj_G → mj_M → mj_P → Prop
abbrev mj_L : Type := List (Option mj_V)
def mj_in (z : Int) : Prop := -2147483648 ≤ z ∧ z < 2147483648
def mj_val : mj_V → Value
  | .inl z => .int (Int32.ofInt z)
  | .inr (.inl w) => .long w
  | .inr (.inr r) => va_rf r
def mj_ok : mj_V → Prop
  | .inl z => mj_in z
  | .inr _ => True
/-- what a slot of a sort holds: 0 an int, 1 a long, else a reference -/
def mj_sv (so : Nat) (M : mj_M) (a k : Nat) : Value := match so with
  | 0 => .int (Int32.ofInt (M.1 a k))
  | 1 => .long (M.2.1 a k)
  | _ => va_rf (M.2.2 a k)
def mj_fs (ty : FieldType) : Nat := match ty with
  | .long => 1
  | .object _ => 2
  | .array _ => 2
  | _ => 0
def mj_ty (ci k : Nat) : FieldType := match ci with
  | 0 => tyX0 k
  | 1 => tyX1 k
  | 2 => tyX2 k
  | 3 => tyX3 k
  | 4 => tyX4 k
  | 5 => tyX5 k
  | 6 => tyX6 k
  | 7 => tyX7 k
  | 8 => tyX8 k
  | 9 => tyX10 k
  | 10 => tyX11 k
  | _ => tyX12 k
def mj_so (ci k : Nat) : Nat := mj_fs (mj_ty ci k)
/-- the array types -/
def mj_at (j : Nat) : FieldType := match j with
  | 0 => .int
  | 1 => .byte
  | 2 => .boolean
  | 3 => .long
  | 4 => .array .int
  | 5 => .object "RentRiver$Word"
  | _ => .object "RentRiver$State"
def mj_as (j : Nat) : Nat := mj_fs (mj_at j)
def mj_p0 (M : mj_M) (a k : Nat) (z : Int) : mj_M := (fun x j => if x = a ∧ j = k then z else M.1 x j, M.2.1, M.2.2)
def mj_p1 (M : mj_M) (a k : Nat) (z : Int64) : mj_M := (M.1, fun x j => if x = a ∧ j = k then z else M.2.1 x j, M.2.2)
def mj_p2 (M : mj_M) (a k : Nat) (z : Option Nat) : mj_M := (M.1, M.2.1, fun x j => if x = a ∧ j = k then z else M.2.2 x j)
/-- a new cell at a -/
def mj_g (G : mj_G) (a t n : Nat) : mj_G := fun x => if x = a then (t, n) else G x
def mj_z (M : mj_M) (a : Nat) : mj_M := (fun x j => if x = a then 0 else M.1 x j, fun x j => if x = a then 0 else M.2.1 x j, fun x j => if x = a then none else M.2.2 x j)
/-- n rows behind a -/
def mj_gg (G : mj_G) (a t n t2 k : Nat) : mj_G := fun x => if x = a then (t, n) else if a < x ∧ x ≤ a + n then (t2, k) else G x
def mj_zz (M : mj_M) (a n : Nat) : mj_M := (fun x j => if a ≤ x ∧ x ≤ a + n then 0 else M.1 x j, fun x j => if a ≤ x ∧ x ≤ a + n then 0 else M.2.1 x j, fun x j => if x = a then (if j < n then some (a + 1 + j) else none) else if a ≤ x ∧ x ≤ a + n then none else M.2.2 x j)
def mj_nt : mj_L → Nat → Option mj_V
  | [], _ => none
  | x :: _, 0 => x
  | _ :: t, n + 1 => mj_nt t n
/-- a long that begins one place ahead is spoilt -/
def mj_kl (L : mj_L) (i : Nat) : mj_L := match i with
  | 0 => L
  | j + 1 => match mj_nt L j with
    | some (.inr (.inl _)) => L.set j none
    | _ => L
def mj_s1 (L : mj_L) (i : Nat) (v : mj_V) : mj_L := (mj_kl L i).set i (some v)
def mj_s2 (L : mj_L) (i : Nat) (v : mj_V) : mj_L := ((mj_kl L i).set i (some v)).set (i + 1) none
def mj_cat : List mj_V → Nat
  | [] => 0
  | .inr (.inl _) :: t => 2 + mj_cat t
  | _ :: t => 1 + mj_cat t
def mj_hd (l : List Nat) : Nat := match l with
  | [] => 0
  | x :: _ => x
def mj_h1 (l : List Nat) : Nat := match l with
  | _ :: x :: _ => x
  | _ => 0
def mj_h2 (l : List Nat) : Nat := match l with
  | _ :: _ :: x :: _ => x
  | _ => 0
def mj_h3 (l : List Nat) : Nat := match l with
  | _ :: _ :: _ :: x :: _ => x
  | _ => 0
def mj_h4 (l : List Nat) : Nat := match l with
  | _ :: _ :: _ :: _ :: x :: _ => x
  | _ => 0
-- the rows of the machine, each with what goes on behind it
def mj_ldi (L : mj_L) (i : Nat) (k : mj_V → Prop) : Prop := match mj_nt L i with
  | some (.inl z) => k (.inl z)
  | _ => False
def mj_ldl (L : mj_L) (i : Nat) (k : mj_V → Prop) : Prop := match mj_nt L i with
  | some (.inr (.inl z)) => k (.inr (.inl z))
  | _ => False
def mj_lda (L : mj_L) (i : Nat) (k : mj_V → Prop) : Prop := match mj_nt L i with
  | some (.inr (.inr z)) => k (.inr (.inr z))
  | _ => False
def mj_i1 (st : List mj_V) (k : Int → List mj_V → Prop) : Prop := match st with
  | .inl x :: t => k x t
  | _ => False
def mj_l1 (st : List mj_V) (k : Int64 → List mj_V → Prop) : Prop := match st with
  | .inr (.inl x) :: t => k x t
  | _ => False
def mj_r1 (st : List mj_V) (k : Option Nat → List mj_V → Prop) : Prop := match st with
  | .inr (.inr x) :: t => k x t
  | _ => False
def mj_a1 (st : List mj_V) (k : Nat → List mj_V → Prop) : Prop := match st with
  | .inr (.inr (some x)) :: t => k x t
  | _ => False
/-- a value of category one on top -/
def mj_c1 (st : List mj_V) (k : mj_V → List mj_V → Prop) : Prop := match st with
  | .inl x :: t => k (.inl x) t
  | .inr (.inr x) :: t => k (.inr (.inr x)) t
  | _ => False
def mj_bin (f : Int → Int → Int) (st : List mj_V) (g : Int32 → Int32 → Int32) (k : List mj_V → Prop) : Prop := mj_i1 st fun y st => mj_i1 st fun x st => (mj_in (f x y) ∧ k (.inl (f x y) :: st)) ∨ ∀ z, mj_in z → z = (g (Int32.ofInt x) (Int32.ofInt y)).toInt → k (.inl z :: st)
def mj_op (st : List mj_V) (g : Int32 → Int32 → Int32) (k : List mj_V → Prop) : Prop := mj_i1 st fun y st => mj_i1 st fun x st => ∀ z, mj_in z → z = (g (Int32.ofInt x) (Int32.ofInt y)).toInt → k (.inl z :: st)
def mj_un (st : List mj_V) (g : Int32 → Int32) (k : List mj_V → Prop) : Prop := mj_i1 st fun x st => ∀ z, mj_in z → z = (g (Int32.ofInt x)).toInt → k (.inl z :: st)
def mj_cc (c : ClassFile.Cond) (x y : Int) : Prop := match c with
  | .eq => x = y
  | .ne => x ≠ y
  | .lt => x < y
  | .ge => y ≤ x
  | .gt => y < x
  | .le => x ≤ y
def mj_br (c : Prop) (a b : Prop) : Prop := (c → a) ∧ (¬ c → b)
def mj_rf (r : Option Nat) (k : mj_V → Prop) : Prop := (∀ b, r = some b → k (.inr (.inr (some b)))) ∧ (r = none → k (.inr (.inr none)))
def mj_is (G : mj_G) (a s : Nat) (k : Nat → Nat → Prop) : Prop := ∃ t n, G a = (t, n) ∧ t % 1000 = s ∧ k t n
/-- a cell that may be written -/
def mj_iw (G : mj_G) (a s : Nat) (k : Nat → Nat → Prop) : Prop := ∃ t n, G a = (t, n) ∧ t % 1000 = s ∧ t < 900000 ∧ k t n
def mj_get (ci fk : Nat) (st : List mj_V) (G : mj_G) (M : mj_M) (k : List mj_V → Prop) : Prop := mj_a1 st fun a st => mj_is G a (ci + 1) fun _ _ => match mj_so ci fk with
  | 0 => k (.inl (M.1 a fk) :: st)
  | 1 => k (.inr (.inl (M.2.1 a fk)) :: st)
  | _ => mj_rf (M.2.2 a fk) fun v => k (v :: st)
def mj_put (ci fk : Nat) (st : List mj_V) (G : mj_G) (M : mj_M) (k : List mj_V → mj_M → Prop) : Prop := match mj_so ci fk with
  | 0 => mj_i1 st fun z st => mj_a1 st fun a st => mj_iw G a (ci + 1) fun _ _ => (mj_ty ci fk = .boolean → z = 0 ∨ z = 1) ∧ k st (mj_p0 M a fk z)
  | 1 => mj_l1 st fun z st => mj_a1 st fun a st => mj_iw G a (ci + 1) fun _ _ => k st (mj_p1 M a fk z)
  | _ => mj_r1 st fun z st => mj_a1 st fun a st => mj_iw G a (ci + 1) fun _ _ => k st (mj_p2 M a fk z)
def mj_ald (j : Nat) (st : List mj_V) (G : mj_G) (k : Nat → Nat → List mj_V → Prop) : Prop := mj_i1 st fun i st => mj_a1 st fun a st => mj_is G a (100 + j) fun _ n => 0 ≤ i ∧ i < n ∧ k a i.toNat st
def mj_aldw (j : Nat) (st : List mj_V) (G : mj_G) (k : Nat → Nat → List mj_V → Prop) : Prop := mj_i1 st fun i st => mj_a1 st fun a st => mj_iw G a (100 + j) fun _ n => 0 ≤ i ∧ i < n ∧ k a i.toNat st
def mj_bald (st : List mj_V) (G : mj_G) (k : Nat → Nat → List mj_V → Prop) : Prop := mj_ald 1 st G k ∨ mj_ald 2 st G k
/-- the narrowing of an int that is kept as a byte -/
def mj_nb (z : Int) : Int := (Int32.ofInt z).toInt8.toInt32.toInt
def mj_new (G : mj_G) (M : mj_M) (t n : Nat) (k : Nat → mj_G → mj_M → Prop) : Prop := ∀ a, (∀ x, a ≤ x → G x = (0, 0)) → k a (mj_g G a t n) (mj_z M a)
/-- the first n values of the stack, the deepest first -/
def mj_pop : Nat → List mj_V → List mj_V → (List mj_V → List mj_V → Prop) → Prop
  | 0, acc, st, k => k acc st
  | _ + 1, _, [], _ => False
  | n + 1, acc, v :: st, k => mj_pop n (v :: acc) st k
def mj_ret (r : Option mj_V) (st : List mj_V) : List mj_V := match r with
  | none => st
  | some v => v :: st
/-- a switch's targets, from v on -/
def mj_sw (z : Int) (k : Nat → Prop) : Int → List Nat → Prop
  | _, [] => True
  | v, t :: ts => (z = v → k t) ∧ mj_sw z k (v + 1) ts
def mj_cp0 (M : mj_M) (a b sp dp n : Nat) : mj_M := (fun x j => if x = b ∧ dp ≤ j ∧ j < dp + n then M.1 a (sp + (j - dp)) else M.1 x j, M.2.1, M.2.2)
def mj_cp1 (M : mj_M) (a b sp dp n : Nat) : mj_M := (M.1, fun x j => if x = b ∧ dp ≤ j ∧ j < dp + n then M.2.1 a (sp + (j - dp)) else M.2.1 x j, M.2.2)
def mj_cpy (j : Nat) (st : List mj_V) (G : mj_G) (k : Nat → Nat → Nat → Nat → Nat → List mj_V → Prop) : Prop := mj_i1 st fun n st => mj_i1 st fun dp st => mj_a1 st fun b st => mj_i1 st fun sp st => mj_a1 st fun a st => mj_is G a (100 + j) fun _ na => mj_iw G b (100 + j) fun _ nb => 0 ≤ sp ∧ 0 ≤ dp ∧ 0 ≤ n ∧ sp + n ≤ na ∧ dp + n ≤ nb ∧ mj_cat st ≤ 8 ∧ k a b sp.toNat dp.toNat n.toNat st
/-- Math.max, Math.min, Math.abs, and the copying of arrays -/
def mj_lib (f : Nat) (st : List mj_V) (G : mj_G) (M : mj_M) (k : List mj_V → mj_M → Prop) : Prop := match f with
  | 0 => mj_i1 st fun y st => mj_i1 st fun x st => mj_cat st ≤ 8 ∧ ∀ z, (x < y → z = y) → (¬ x < y → z = x) → k (.inl z :: st) M
  | 1 => mj_i1 st fun y st => mj_i1 st fun x st => mj_cat st ≤ 8 ∧ ∀ z, (y < x → z = y) → (¬ y < x → z = x) → k (.inl z :: st) M
  | 2 => mj_i1 st fun x st => mj_cat st ≤ 8 ∧ ∀ z, mj_in z → (0 ≤ x → z = x) → (x < 0 → x ≠ -2147483648 → z = -x) → k (.inl z :: st) M
  | 3 => mj_cpy 0 st G fun a b sp dp n st => k st (mj_cp0 M a b sp dp n)
  | 4 => mj_cpy 3 st G fun a b sp dp n st => k st (mj_cp1 M a b sp dp n)
  | _ => False
/-- n instructions, then K (mcs: what a callee makes, cells and slots) -/
def mj_x (mcs : Nat → Nat × Nat) (C : mj_C) (full : List mj_E) (Q : mj_P) (K : List mj_E → mj_L → List mj_V → mj_G → mj_M → Nat → Nat → Prop) : Nat → List mj_E → mj_L → List mj_V → mj_G → mj_M → Nat → Nat → Prop
  | 0, rest, L, st, G, M, cb, sb => K rest L st G M cb sb
  | _ + 1, [], _, _, _, _, _, _ => False
  | n + 1, x :: rest, L, st, G, M, cb, sb => match x.1 with
    | .iload_n i => mj_ldi L i.val fun v => mj_x mcs C full Q K n rest L (v :: st) G M cb sb
    | .iload i => mj_ldi L i fun v => mj_x mcs C full Q K n rest L (v :: st) G M cb sb
    | .lload_n i => mj_ldl L i.val fun v => mj_x mcs C full Q K n rest L (v :: st) G M cb sb
    | .lload i => mj_ldl L i fun v => mj_x mcs C full Q K n rest L (v :: st) G M cb sb
    | .aload_n i => mj_lda L i.val fun v => mj_x mcs C full Q K n rest L (v :: st) G M cb sb
    | .aload i => mj_lda L i fun v => mj_x mcs C full Q K n rest L (v :: st) G M cb sb
    | .istore_n i => mj_i1 st fun z st => mj_x mcs C full Q K n rest (mj_s1 L i.val (.inl z)) st G M cb sb
    | .istore i => mj_i1 st fun z st => mj_x mcs C full Q K n rest (mj_s1 L i (.inl z)) st G M cb sb
    | .lstore_n i => mj_l1 st fun z st => mj_x mcs C full Q K n rest (mj_s2 L i.val (.inr (.inl z))) st G M cb sb
    | .lstore i => mj_l1 st fun z st => mj_x mcs C full Q K n rest (mj_s2 L i (.inr (.inl z))) st G M cb sb
    | .astore_n i => mj_r1 st fun z st => mj_x mcs C full Q K n rest (mj_s1 L i.val (.inr (.inr z))) st G M cb sb
    | .astore i => mj_r1 st fun z st => mj_x mcs C full Q K n rest (mj_s1 L i (.inr (.inr z))) st G M cb sb
    | .iinc i c => mj_ldi L i fun v => mj_i1 [v] fun z _ => mj_in (z + c) ∧ mj_x mcs C full Q K n rest (mj_s1 L i (.inl (z + c))) st G M cb sb
    | .iconst z => mj_x mcs C full Q K n rest L (.inl z :: st) G M cb sb
    | .bipush z => mj_x mcs C full Q K n rest L (.inl z :: st) G M cb sb
    | .sipush z => mj_x mcs C full Q K n rest L (.inl z :: st) G M cb sb
    | .ldc _ => mj_x mcs C full Q K n rest L (.inl x.2.2.2 :: st) G M cb sb
    | .ldc2_w _ => mj_x mcs C full Q K n rest L (.inr (.inl (Int64.ofInt x.2.2.2)) :: st) G M cb sb
    | .lconst z => mj_x mcs C full Q K n rest L (.inr (.inl (Int64.ofNat z.val)) :: st) G M cb sb
    | .aconst_null => mj_x mcs C full Q K n rest L (.inr (.inr none) :: st) G M cb sb
    | .iadd => mj_bin (fun x y => x + y) st (fun x y => x + y) fun st => mj_x mcs C full Q K n rest L st G M cb sb
    | .isub => mj_bin (fun x y => x - y) st (fun x y => x - y) fun st => mj_x mcs C full Q K n rest L st G M cb sb
    | .imul => mj_bin (fun x y => x * y) st (fun x y => x * y) fun st => mj_x mcs C full Q K n rest L st G M cb sb
    | .iand => mj_op st (fun x y => x &&& y) fun st => mj_x mcs C full Q K n rest L st G M cb sb
    | .ior => mj_op st (fun x y => x ||| y) fun st => mj_x mcs C full Q K n rest L st G M cb sb
    | .ishl => mj_op st (fun x y => x <<< (y &&& 31)) fun st => mj_x mcs C full Q K n rest L st G M cb sb
    | .ishr => mj_op st (fun x y => x >>> (y &&& 31)) fun st => mj_x mcs C full Q K n rest L st G M cb sb
    | .iushr => mj_op st (fun x y => (x.toUInt32 >>> (y.toUInt32 &&& Int32.toUInt32 31)).toInt32) fun st => mj_x mcs C full Q K n rest L st G M cb sb
    | .ineg => mj_un st (fun x => -x) fun st => mj_x mcs C full Q K n rest L st G M cb sb
    | .i2b => mj_un st (fun x => x.toInt8.toInt32) fun st => mj_x mcs C full Q K n rest L st G M cb sb
    | .dup => mj_c1 st fun v st => mj_x mcs C full Q K n rest L (v :: v :: st) G M cb sb
    | .dup2 => mj_c1 st fun v st => mj_c1 st fun w st => mj_x mcs C full Q K n rest L (v :: w :: v :: w :: st) G M cb sb
    | .pop => mj_c1 st fun _ st => mj_x mcs C full Q K n rest L st G M cb sb
    | .ifCond c _ => mj_i1 st fun z st => mj_br (mj_cc c z 0) (mj_x mcs C full Q K n (full.drop (mj_hd x.2.2.1)) L st G M cb sb) (mj_x mcs C full Q K n rest L st G M cb sb)
    | .if_icmp c _ => mj_i1 st fun y st => mj_i1 st fun z st => mj_br (mj_cc c z y) (mj_x mcs C full Q K n (full.drop (mj_hd x.2.2.1)) L st G M cb sb) (mj_x mcs C full Q K n rest L st G M cb sb)
    | .ifnull _ => mj_r1 st fun z st => mj_br (z = none) (mj_x mcs C full Q K n (full.drop (mj_hd x.2.2.1)) L st G M cb sb) (mj_x mcs C full Q K n rest L st G M cb sb)
    | .ifnonnull _ => mj_r1 st fun z st => mj_br (z ≠ none) (mj_x mcs C full Q K n (full.drop (mj_hd x.2.2.1)) L st G M cb sb) (mj_x mcs C full Q K n rest L st G M cb sb)
    | .goto _ => mj_x mcs C full Q K n (full.drop (mj_hd x.2.2.1)) L st G M cb sb
    | .getfield _ => x.2.2.1 ≠ [] ∧ mj_get (mj_hd x.2.2.1) (mj_h1 x.2.2.1) st G M fun st => mj_x mcs C full Q K n rest L st G M cb sb
    | .putfield _ => x.2.2.1 ≠ [] ∧ mj_put (mj_hd x.2.2.1) (mj_h1 x.2.2.1) st G M fun st M => mj_x mcs C full Q K n rest L st G M cb sb
    | .iaload => mj_ald 0 st G fun a i st => mj_x mcs C full Q K n rest L (.inl (M.1 a i) :: st) G M cb sb
    | .baload => mj_bald st G fun a i st => mj_x mcs C full Q K n rest L (.inl (M.1 a i) :: st) G M cb sb
    | .laload => mj_ald 3 st G fun a i st => mj_x mcs C full Q K n rest L (.inr (.inl (M.2.1 a i)) :: st) G M cb sb
    | .aaload => mj_ald (mj_hd x.2.2.1) st G fun a i st => mj_rf (M.2.2 a i) fun v => mj_x mcs C full Q K n rest L (v :: st) G M cb sb
    | .iastore => mj_i1 st fun z st => mj_aldw 0 st G fun a i st => mj_x mcs C full Q K n rest L st G (mj_p0 M a i z) cb sb
    | .bastore => mj_i1 st fun z st => (mj_aldw 1 st G fun a i st => mj_x mcs C full Q K n rest L st G (mj_p0 M a i (mj_nb z)) cb sb) ∨ ((z = 0 ∨ z = 1) ∧ mj_aldw 2 st G fun a i st => mj_x mcs C full Q K n rest L st G (mj_p0 M a i z) cb sb)
    | .lastore => mj_l1 st fun z st => mj_aldw 3 st G fun a i st => mj_x mcs C full Q K n rest L st G (mj_p1 M a i z) cb sb
    | .anewarray _ => mj_i1 st fun z st => 0 ≤ z ∧ z ≤ 100000 ∧ 1 ≤ cb ∧ z.toNat ≤ sb ∧ ∃ t, t % 1000 = 100 + mj_hd x.2.2.1 ∧ mj_new G M t z.toNat fun a G M => mj_x mcs C full Q K n rest L (.inr (.inr (some a)) :: st) G M (cb - 1) (sb - z.toNat)
    | .aastore => mj_r1 st fun z st => mj_aldw (mj_hd x.2.2.1) st G fun a i st => (∀ b, z = some b → mj_hd x.2.2.1 = 6 ∧ mj_is G b 7 fun _ _ => True) ∧ mj_x mcs C full Q K n rest L st G (mj_p2 M a i z) cb sb
    | .tableswitch _ lo hi _ => mj_i1 st fun z st => (z < lo ∨ hi < z → mj_x mcs C full Q K n (full.drop (mj_hd x.2.2.1)) L st G M cb sb) ∧ mj_sw z (fun t => mj_x mcs C full Q K n (full.drop t) L st G M cb sb) lo (x.2.2.1.drop 1)
    | .arraylength => mj_a1 st fun a st => ∃ t k j, G a = (t, k) ∧ t % 1000 = 100 + j ∧ j < 7 ∧ mj_in k ∧ mj_x mcs C full Q K n rest L (.inl k :: st) G M cb sb
    | .newarray _ => mj_i1 st fun z st => 0 ≤ z ∧ z ≤ 100000 ∧ 1 ≤ cb ∧ z.toNat ≤ sb ∧ ∃ t, t % 1000 = 100 + mj_hd x.2.2.1 ∧ mj_new G M t z.toNat fun a G M => mj_x mcs C full Q K n rest L (.inr (.inr (some a)) :: st) G M (cb - 1) (sb - z.toNat)
    | .multianewarray _ _ => mj_i1 st fun z st => mj_i1 st fun y st => 0 ≤ z ∧ z ≤ 1000 ∧ 0 ≤ y ∧ y ≤ 1000 ∧ 1 + y.toNat ≤ cb ∧ y.toNat + y.toNat * z.toNat ≤ sb ∧ ∃ t t2, t % 1000 = 104 ∧ t2 % 1000 = 100 ∧ ∀ a, (∀ x, a ≤ x → G x = (0, 0)) → mj_x mcs C full Q K n rest L (.inr (.inr (some a)) :: st) (mj_gg G a t y.toNat t2 z.toNat) (mj_zz M a y.toNat) (cb - (1 + y.toNat)) (sb - (y.toNat + y.toNat * z.toNat))
    | .new _ => x.2.2.1 ≠ [] ∧ 1 ≤ cb ∧ mj_h1 x.2.2.1 ≤ sb ∧ ∃ t, t % 1000 = mj_hd x.2.2.1 + 1 ∧ mj_new G M t 0 fun a G M => mj_x mcs C full Q K n rest L (.inr (.inr (some a)) :: st) G M (cb - 1) (sb - mj_h1 x.2.2.1)
    | .invokevirtual _ => x.2.2.1 ≠ [] ∧ mj_pop (mj_h1 x.2.2.1) [] st fun As st => mj_a1 st fun a st => mj_is G a (mj_h2 x.2.2.1 + 1) fun _ _ => mj_cat st ≤ 8 ∧ (mcs (mj_hd x.2.2.1)).1 ≤ cb ∧ (mcs (mj_hd x.2.2.1)).2 ≤ sb ∧ C (mj_hd x.2.2.1) (.inr (.inr (some a)) :: As) G M fun r G M => mj_x mcs C full Q K n rest L (mj_ret r st) G M (cb - (mcs (mj_hd x.2.2.1)).1) (sb - (mcs (mj_hd x.2.2.1)).2)
    | .invokestatic _ => match x.2.2.1 with
      | [f, _] => mj_lib f st G M fun st M => mj_x mcs C full Q K n rest L st G M cb sb
      | _ => x.2.2.1 ≠ [] ∧ mj_pop (mj_h1 x.2.2.1) [] st fun As st => mj_cat st ≤ 8 ∧ (mcs (mj_hd x.2.2.1)).1 ≤ cb ∧ (mcs (mj_hd x.2.2.1)).2 ≤ sb ∧ C (mj_hd x.2.2.1) As G M fun r G M => mj_x mcs C full Q K n rest L (mj_ret r st) G M (cb - (mcs (mj_hd x.2.2.1)).1) (sb - (mcs (mj_hd x.2.2.1)).2)
    | .invokespecial _ => match x.2.2.1 with
      | [] => mj_a1 st fun _ st => mj_cat st ≤ 8 ∧ mj_x mcs C full Q K n rest L st G M cb sb
      | y :: _ => mj_pop (mj_h1 x.2.2.1) [] st fun As st => mj_a1 st fun a st => mj_is G a (mj_h2 x.2.2.1 + 1) fun _ _ => mj_cat st ≤ 8 ∧ (mcs y).1 ≤ cb ∧ (mcs y).2 ≤ sb ∧ C y (.inr (.inr (some a)) :: As) G M fun r G M => mj_x mcs C full Q K n rest L (mj_ret r st) G M (cb - (mcs y).1) (sb - (mcs y).2)
    | .ireturn => mj_i1 st fun z st => st = [] ∧ (x.2.2.2 = 1 → z = 0 ∨ z = 1) ∧ Q (some (.inl z)) G M
    | .return_ => st = [] ∧ Q none G M
    | _ => False
abbrev mj_S : Type := List mj_E → mj_L → List mj_V → mj_G → mj_M → Nat → Nat → Prop
/-- it comes to an end with Q: the least of what is closed under the machine's step -/
def mj_W (mcs : Nat → Nat × Nat) (C : mj_C) (full : List mj_E) (Q : mj_P) : mj_S := fun rest L st G M cb sb => ∀ K : mj_S, (∀ rest L st G M cb sb, mj_x mcs C full Q K 1 rest L st G M cb sb → K rest L st G M cb sb) → K rest L st G M cb sb
end
section
/-! ===== the small machine and the machine: heaps, locals, the judgement ===== -/
theorem mj_ti {z : Int} (h : mj_in z) : (Int32.ofInt z).toInt = z := by
  obtain ⟨h1, h2⟩ := h
  rw [Int32.toInt_ofInt]
  exact Int.bmod_eq_of_le (by simp [Int32.size]; omega) (by simp [Int32.size]; omega)
theorem mj_it (x : Int32) : Int32.ofInt x.toInt = x := Int32.ofInt_toInt x
theorem mj_rng (x : Int32) : mj_in x.toInt := ⟨by have := Int32.le_toInt x; simp at this; omega, by have := Int32.toInt_lt x; simp at this; omega⟩
theorem mj_lt {x y : Int} (hx : mj_in x) (hy : mj_in y) : Int32.ofInt x < Int32.ofInt y ↔ x < y := by rw [Int32.lt_iff_toInt_lt, mj_ti hx, mj_ti hy]
theorem mj_le {x y : Int} (hx : mj_in x) (hy : mj_in y) : Int32.ofInt x ≤ Int32.ofInt y ↔ x ≤ y := by rw [Int32.le_iff_toInt_le, mj_ti hx, mj_ti hy]
theorem mj_eq {x y : Int} (hx : mj_in x) (hy : mj_in y) : Int32.ofInt x = Int32.ofInt y ↔ x = y := ⟨fun h => by rw [← mj_ti hx, ← mj_ti hy, h], fun h => by rw [h]⟩
theorem mj_nn {z : Int} (hz : mj_in z) (h : 0 ≤ z) : ¬ Int32.ofInt z < 0 := by
  rw [Int32.lt_iff_toInt_lt, mj_ti hz]; simp; omega
theorem mj_nat {z : Int} (hz : mj_in z) : (Int32.ofInt z).toNatClampNeg = z.toNat := by
  show (Int32.ofInt z).toInt.toNat = _
  rw [mj_ti hz]
/-! the locals -/
def mj_asc : Nat → mj_L → List (Nat × Value)
  | _, [] => []
  | i, none :: t => mj_asc (i + 1) t
  | i, some v :: t => (i, mj_val v) :: mj_asc (i + 1) t
theorem mj_asc_of : ∀ (L : mj_L) (i j : Nat) (v : mj_V), mj_nt L j = some v → (i + j, mj_val v) ∈ mj_asc i L
  | [], _, _, _, h => by simp [mj_nt] at h
  | none :: t, i, 0, v, h => by simp [mj_nt] at h
  | none :: t, i, j + 1, v, h => by
    have := mj_asc_of t (i + 1) j v h
    rw [show i + 1 + j = i + (j + 1) by omega] at this
    exact this
  | some w :: t, i, 0, v, h => by
    have e : w = v := Option.some.inj h
    subst e
    exact List.mem_cons_self
  | some w :: t, i, j + 1, v, h => by
    have := mj_asc_of t (i + 1) j v h
    rw [show i + 1 + j = i + (j + 1) by omega] at this
    exact List.mem_cons_of_mem _ this
theorem mj_of_asc : ∀ (L : mj_L) (i : Nat) (q : Nat × Value), q ∈ mj_asc i L → ∃ (j : Nat) (v : mj_V), q = (i + j, mj_val v) ∧ mj_nt L j = some v
  | [], _, _, h => by simp [mj_asc] at h
  | none :: t, i, q, h => by
    obtain ⟨j, v, h1, h2⟩ := mj_of_asc t (i + 1) q h
    exact ⟨j + 1, v, by rw [h1, show i + 1 + j = i + (j + 1) by omega], h2⟩
  | some w :: t, i, q, h => by
    rcases List.mem_cons.mp h with h | h
    · exact ⟨0, w, h, rfl⟩
    · obtain ⟨j, v, h1, h2⟩ := mj_of_asc t (i + 1) q h
      exact ⟨j + 1, v, by rw [h1, show i + 1 + j = i + (j + 1) by omega], h2⟩
theorem mj_nt_set : ∀ (L : mj_L) (i j : Nat) (x : Option mj_V), mj_nt (L.set i x) j = if j = i ∧ i < L.length then x else mj_nt L j
  | [], i, j, x => by simp [mj_nt]
  | y :: t, 0, 0, x => by simp [mj_nt]
  | y :: t, 0, j + 1, x => by simp [mj_nt]
  | y :: t, i + 1, 0, x => by simp [mj_nt]
  | y :: t, i + 1, j + 1, x => by
    show mj_nt (t.set i x) j = _
    rw [mj_nt_set t i j x]
    simp [mj_nt]
theorem mj_nt_mem : ∀ (L : mj_L) (j : Nat) (v : mj_V), mj_nt L j = some v → some v ∈ L
  | [], _, _, h => by simp [mj_nt] at h
  | y :: t, 0, v, h => by
    have e : y = some v := h
    rw [e]; exact List.mem_cons_self
  | y :: t, j + 1, v, h => List.mem_cons_of_mem _ (mj_nt_mem t j v h)
def mj_LO (ls : Array Slot) (nL : Nat) (L : mj_L) : Prop := lv_has ls nL (mj_asc 0 L) ∧ L.length = nL ∧ ∀ j v, mj_nt L j = some v → mj_ok v
theorem mj_LO.at {ls : Array Slot} {nL : Nat} {L : mj_L} (h : mj_LO ls nL L) {i : Nat} {v : mj_V} (hv : mj_nt L i = some v) : ls[i]? = some (.val (mj_val v)) := by
  have := h.1.2.2 _ (mj_asc_of L 0 i v hv)
  simpa using this
theorem mj_cat2 (v : mj_V) : ((mj_val v).category == 2) = true ↔ ∃ w, v = .inr (.inl w) := by
  rcases v with z | w | r
  · simp [mj_val, Value.category]
  · simp [mj_val, Value.category]
  · cases r <;> simp [mj_val, va_rf, Value.category]
theorem mj_kl_len (L : mj_L) (i : Nat) : (mj_kl L i).length = L.length := by
  unfold mj_kl
  cases i with
  | zero => rfl
  | succ j =>
    dsimp only
    split <;> simp
theorem mj_kl_nt {L : mj_L} {i j : Nat} {v : mj_V} (h : mj_nt (mj_kl L i) j = some v) : mj_nt L j = some v ∧ ¬ (j + 1 = i ∧ ∃ w, v = .inr (.inl w)) := by
  unfold mj_kl at h
  cases i with
  | zero => exact ⟨h, fun q => by omega⟩
  | succ k =>
    dsimp only at h
    split at h
    · rename_i w hw
      rw [mj_nt_set] at h
      split at h
      · cases h
      · rename_i hn
        refine ⟨h, fun q => ?_⟩
        have e : j = k := by omega
        subst e
        have hl : ¬ j < L.length := fun z => hn ⟨rfl, z⟩
        have : ∀ (L : mj_L) (j : Nat), ¬ j < L.length → mj_nt L j = none := by
          intro L
          induction L with
          | nil => intro j _; rfl
          | cons y t ih =>
            intro j hj
            cases j with
            | zero => simp at hj
            | succ j => exact ih j (by simp at hj; omega)
        rw [this L j hl] at h
        cases h
    · rename_i hw
      refine ⟨h, fun q => ?_⟩
      obtain ⟨q1, w, q2⟩ := q
      have e : j = k := by omega
      subst e
      exact hw w (by rw [h, q2])
theorem mj_LO.st1 {ls ls' : Array Slot} {nL i : Nat} {L : mj_L} {v : mj_V} (h : mj_LO ls nL L) (hi : i < nL) (hv : mj_ok v)
    (h' : lv_has ls' nL ((i, mj_val v) :: (mj_asc 0 L).filter (fun q => !(q.1 == i) && !(q.1 + 1 == i && q.2.category == 2)))) : mj_LO ls' nL (mj_s1 L i v) := by
  refine ⟨⟨h'.1, h'.2.1, fun q hq => h'.2.2 q ?_⟩, ?_, ?_⟩
  · obtain ⟨j, w, rfl, hw⟩ := mj_of_asc _ _ _ hq
    unfold mj_s1 at hw
    rw [mj_nt_set] at hw
    split at hw
    · rename_i hc
      have e : v = w := Option.some.inj hw
      rw [e, hc.1]; simp
    · rename_i hc
      have hj : j ≠ i := fun q => hc ⟨q, by rw [mj_kl_len, h.2.1]; exact hi⟩
      obtain ⟨h1, h2⟩ := mj_kl_nt hw
      refine List.mem_cons_of_mem _ (List.mem_filter.mpr ⟨mj_asc_of L 0 j w h1, ?_⟩)
      have e1 : (0 + j == i) = false := by simp; exact hj
      rw [Bool.and_eq_true]
      refine ⟨by simp; exact hj, ?_⟩
      rw [Bool.not_eq_true', Bool.and_eq_false_iff]
      by_cases hji : j + 1 = i
      · right
        have := mt (fun q => (⟨hji, (mj_cat2 w).mp q⟩ : j + 1 = i ∧ ∃ w', w = .inr (.inl w'))) h2
        simpa using this
      · left
        simp; exact hji
  · unfold mj_s1; rw [List.length_set, mj_kl_len]; exact h.2.1
  · intro j w hw
    unfold mj_s1 at hw
    rw [mj_nt_set] at hw
    split at hw
    · have e : v = w := Option.some.inj hw
      rw [← e]; exact hv
    · exact h.2.2 j w (mj_kl_nt hw).1
theorem mj_LO.st2 {ls ls' : Array Slot} {nL i : Nat} {L : mj_L} {v : mj_V} (h : mj_LO ls nL L) (hi : i + 1 < nL) (hv : mj_ok v)
    (h' : lv_has ls' nL ((i, mj_val v) :: (mj_asc 0 L).filter (fun q => !(q.1 == i) && (!(q.1 == i + 1) && !(q.1 + 1 == i && q.2.category == 2))))) : mj_LO ls' nL (mj_s2 L i v) := by
  refine ⟨⟨h'.1, h'.2.1, fun q hq => h'.2.2 q ?_⟩, ?_, ?_⟩
  · obtain ⟨j, w, rfl, hw⟩ := mj_of_asc _ _ _ hq
    unfold mj_s2 at hw
    rw [mj_nt_set] at hw
    split at hw
    · cases hw
    · rename_i hc0
      have hj1 : j ≠ i + 1 := fun q => hc0 ⟨q, by rw [List.length_set, mj_kl_len, h.2.1]; exact hi⟩
      rw [mj_nt_set] at hw
      split at hw
      · rename_i hc
        have e : v = w := Option.some.inj hw
        rw [e, hc.1]; simp
      · rename_i hc
        have hj : j ≠ i := fun q => hc ⟨q, by rw [mj_kl_len, h.2.1]; omega⟩
        obtain ⟨h1, h2⟩ := mj_kl_nt hw
        refine List.mem_cons_of_mem _ (List.mem_filter.mpr ⟨mj_asc_of L 0 j w h1, ?_⟩)
        rw [Bool.and_eq_true, Bool.and_eq_true]
        refine ⟨by simp; exact hj, by simp; exact hj1, ?_⟩
        rw [Bool.not_eq_true', Bool.and_eq_false_iff]
        by_cases hji : j + 1 = i
        · right
          have := mt (fun q => (⟨hji, (mj_cat2 w).mp q⟩ : j + 1 = i ∧ ∃ w', w = .inr (.inl w'))) h2
          simpa using this
        · left
          simp; exact hji
  · unfold mj_s2; rw [List.length_set, List.length_set, mj_kl_len]; exact h.2.1
  · intro j w hw
    unfold mj_s2 at hw
    rw [mj_nt_set] at hw
    split at hw
    · cases hw
    · rw [mj_nt_set] at hw
      split at hw
      · have e : v = w := Option.some.inj hw
        rw [← e]; exact hv
      · exact h.2.2 j w (mj_kl_nt hw).1
/-! the heap -/
theorem mj_bare (vm : Vm) (comp : ClassId) : (vm.bare.classes.findIdx? fun (x : Class) => match x.kind with | .array component _ => component == comp | _ => false) = (vm.classes.findIdx? fun (x : Class) => match x.kind with | .array component _ => component == comp | _ => false) := by
  simp only [Vm.bare, Array.findIdx?_map]
  rfl
theorem mj_aoa {t : FieldType} {u U : State} (hvm : u.vm.Alike U.vm) (h : (Cond.arrayOver (.array t)).before #[] u = true) : (Cond.arrayOver (.array t)).before #[] U = true := by
  obtain ⟨comp, c, k, h1, h2, h3, h4, h5⟩ := arrayOverA_spec h
  obtain ⟨k', hk', he⟩ := hvm.2.2 _ _ h3
  have hi : (U.vm.classes.findIdx? fun (x : Class) => match x.kind with | .array component _ => component == comp | _ => false) = some c := by
    rw [← mj_bare]
    first | rw [hvm.bare_eq] | rw [← hvm.bare_eq]
    rw [mj_bare]
    exact h2
  have hkind : k'.kind = .array comp (.array t) := by rw [he]; exact h4
  have f1 : U.vm.findClass (FieldType.array t).toString = some comp := by rw [hvm.findClass]; exact h1
  have f2 : U.vm.findClass ("[" ++ (FieldType.array t).toString) = some c := by rw [hvm.findClass]; exact h5
  unfold Cond.before Cond.holds
  simp only [Cond.value]
  rw [f1, Option.bind_some]
  refine (congrArg (fun o : Option Nat => (o.bind (fun c => (U.vm.classes[c]?).map fun (k : Class) => match k.kind with | .array _ ty => decide (ty = FieldType.array t) && decide (U.vm.findClass ("[" ++ (FieldType.array t).toString) = some c) | _ => false) == some true)) hi).trans ?_
  simp [hk', hkind, f2]
def mj_cn (j : Nat) : String := match j with
  | 5 => "RentRiver$Word"
  | _ => "RentRiver$State"
def mj_K (D : va_G) (dA : Nat → ClassId) (U : State) : Prop :=
  (∀ (ci : Nat) (q : vw_C), vwCl[ci]? = some q → u_Kn U q.1 q.2.1 q.2.2 (D.1 ci) (D.2 ci)) ∧ (∀ j : Nat, j < 7 → U.vm.findClass ("[" ++ (mj_at j).toString) = some (dA j) ∧ ArrOfT U (dA j) (mj_at j)) ∧
  (Cond.arrayOver (.array .int)).before #[] U = true ∧ ∀ j : Nat, j = 5 ∨ j = 6 → va_AO (mj_cn j) U ∧ va_RA U (dA j) (.object (mj_cn j))
theorem mj_K.moved {D : va_G} {dA : Nat → ClassId} {u U : State} (hvm : u.vm.Alike U.vm) (h : mj_K D dA u) : mj_K D dA U :=
  ⟨fun ci q hq => u_Kn_moved hvm (h.1 ci q hq), fun j hj => ⟨by rw [hvm.findClass]; exact (h.2.1 j hj).1, arrOfT_moved hvm (h.2.1 j hj).2⟩, mj_aoa hvm h.2.2.1, fun j hj => ⟨(h.2.2.2 j hj).1.moved hvm, (h.2.2.2 j hj).2.moved hvm⟩⟩
def mj_H (D : va_G) (dA : Nat → ClassId) (B : Nat) (G : mj_G) (M : mj_M) (H : Heap) : Prop :=
  (∀ a k, mj_in (M.1 a k)) ∧ (∀ x, H.size ≤ x → G x = (0, 0)) ∧ ∀ a t n, G a = (t, n) → t ≠ 0 → (t < 900000 → B ≤ a) ∧
    (∀ (ci : Nat) (r : vw_C), t % 1000 = ci + 1 → vwCl[ci]? = some r → t_OB a (D.1 ci) r.2.2 (D.2 ci) H (fun k => mj_sv (mj_so ci k) M a k)) ∧
    (∀ j : Nat, t % 1000 = 100 + j → H[a]? = some (arrV (dA j) n (fun k => mj_sv (mj_as j) M a k)))
def mj_Q (D : va_G) (dA : Nat → ClassId) (B : Nat) (Q : mj_P) : Array Value → State → Outcome → State → Prop := fun _ st o t =>
  ∃ (r : Option mj_V) (G : mj_G) (M : mj_M), o = .returned (r.map mj_val) ∧ Q r G M ∧ (∀ v, r = some v → mj_ok v) ∧ mj_H D dA B G M t.heap ∧ mj_K D dA t ∧ va_F (fun q => B ≤ q) st t
/-- what is fixed while a method runs -/
def mj_X (p : Program) (l : Launch) (e : Env) (R : Room) (s : State) (m : MethodId) (args : Array Value) (below : List Frame) (meth : Method) (c : Code) (own : String) (cc : ByteArray) (ret : Option FieldType) (D : va_G) (dA : Nat → ClassId) (B nL mc ms : Nat) (Q : mj_P) : Prop :=
  (p.tables.exec = Jvm.exec ∧ c.code = cc ∧ c.maxLocals = nL ∧ meth.sig.returnType = ret ∧ s.vm.findClass own = some m.cls) ∧ (∀ w ∈ mj_tb, w.before args s = true) ∧ meth.locks = false ∧ mj_K D dA s ∧ B ≤ s.heap.size ∧ (1 ≤ R.frames ∧ 100 ≤ R.locals ∧ mc ≤ R.cells ∧ ms ≤ R.slots)
def mj_J {p : Program} {l : Launch} {e : Env} {R : Room} {s : State} {m : MethodId} {args : Array Value} {below : List Frame} {meth : Method} {c : Code} {own : String} {cc : ByteArray} {ret : Option FieldType} {D : va_G} {dA : Nat → ClassId} {B nL mc ms : Nat} {Q : mj_P}
    (_ : mj_X p l e R s m args below meth c own cc ret D dA B nL mc ms Q) (pc : Nat) (L : mj_L) (st : List mj_V) (G : mj_G) (M : mj_M) (cb sb : Nat) : Prop :=
  ∀ (H : Heap) (locs : List Loc) (ls : Array Slot) (cells slots : Nat), mj_H D dA B G M H → va_S (fun q => B ≤ q) s.heap H locs → mj_LO ls nL L → (∀ v ∈ st, mj_ok v) → cells + cb ≤ mc → slots + sb ≤ ms →
    W p l e R s m args below meth c H locs cells slots (MQ below (mj_Q D dA B Q) args s mc ms (fun q => B ≤ q)) (F0 m pc ls (st.map mj_val))
theorem mj_cons {st : List mj_V} {v : mj_V} (h : ∀ w ∈ st, mj_ok w) (hv : mj_ok v) : ∀ w ∈ v :: st, mj_ok w := fun w hw => by
  rcases List.mem_cons.mp hw with rfl | q
  · exact hv
  · exact h w q
theorem mj_tl {st : List mj_V} {v : mj_V} (h : ∀ w ∈ v :: st, mj_ok w) : ∀ w ∈ st, mj_ok w := fun w hw => h w (List.mem_cons_of_mem _ hw)
theorem mj_head {st : List mj_V} {v : mj_V} (h : ∀ w ∈ v :: st, mj_ok w) : mj_ok v := h v List.mem_cons_self
end
section
/-! ===== the plain instructions ===== -/
section MJO
variable {p : Program} {l : Launch} {e : Env} {R : Room} {s : State} {m : MethodId} {args : Array Value} {below : List Frame} {meth : Method} {c : Code} {own : String} {cc : ByteArray} {ret : Option FieldType} {D : va_G} {dA : Nat → ClassId} {B nL mc ms : Nat} {Q : mj_P}
variable {pc : Nat} {L : mj_L} {st : List mj_V} {G : mj_G} {M : mj_M} {cb sb : Nat}
theorem mj_o_iload_n (X : mj_X p l e R s m args below meth c own cc ret D dA B nL mc ms Q) {k : Fin 4} {z : Int} (hd : decode cc pc = .ok (.iload_n k, 1)) (h : mj_nt L k.val = some (.inl z)) (kk : mj_J X (pc + 1) L (.inl z :: st) G M cb sb) : mj_J X pc L st G M cb sb := by
  intro H locs ls cells slots hH hS hL hst hc hs
  exact lv_iload_n X.1.1 X.1.2.1 hd rfl (hL.at h) (kk H locs ls cells slots hH hS hL (mj_cons hst (hL.2.2 _ _ h)) hc hs)
theorem mj_o_iload (X : mj_X p l e R s m args below meth c own cc ret D dA B nL mc ms Q) {k : Nat} {z : Int} (hd : decode cc pc = .ok (.iload k, 2)) (h : mj_nt L k = some (.inl z)) (kk : mj_J X (pc + 2) L (.inl z :: st) G M cb sb) : mj_J X pc L st G M cb sb := by
  intro H locs ls cells slots hH hS hL hst hc hs
  exact lv_iload X.1.1 X.1.2.1 hd (hL.at h) (kk H locs ls cells slots hH hS hL (mj_cons hst (hL.2.2 _ _ h)) hc hs)
theorem mj_o_lload_n (X : mj_X p l e R s m args below meth c own cc ret D dA B nL mc ms Q) {k : Fin 4} {z : Int64} (hd : decode cc pc = .ok (.lload_n k, 1)) (h : mj_nt L k.val = some (.inr (.inl z))) (kk : mj_J X (pc + 1) L (.inr (.inl z) :: st) G M cb sb) : mj_J X pc L st G M cb sb := by
  intro H locs ls cells slots hH hS hL hst hc hs
  exact lv_lload_n X.1.1 X.1.2.1 hd rfl (hL.at h) (kk H locs ls cells slots hH hS hL (mj_cons hst (hL.2.2 _ _ h)) hc hs)
theorem mj_o_lload (X : mj_X p l e R s m args below meth c own cc ret D dA B nL mc ms Q) {k : Nat} {z : Int64} (hd : decode cc pc = .ok (.lload k, 2)) (h : mj_nt L k = some (.inr (.inl z))) (kk : mj_J X (pc + 2) L (.inr (.inl z) :: st) G M cb sb) : mj_J X pc L st G M cb sb := by
  intro H locs ls cells slots hH hS hL hst hc hs
  exact lv_lload X.1.1 X.1.2.1 hd (hL.at h) (kk H locs ls cells slots hH hS hL (mj_cons hst (hL.2.2 _ _ h)) hc hs)
theorem mj_o_aload_n (X : mj_X p l e R s m args below meth c own cc ret D dA B nL mc ms Q) {k : Fin 4} {z : Option Nat} (hd : decode cc pc = .ok (.aload_n k, 1)) (h : mj_nt L k.val = some (.inr (.inr z))) (kk : mj_J X (pc + 1) L (.inr (.inr z) :: st) G M cb sb) : mj_J X pc L st G M cb sb := by
  intro H locs ls cells slots hH hS hL hst hc hs
  have g := kk H locs ls cells slots hH hS hL (mj_cons hst (hL.2.2 _ _ h)) hc hs
  cases z with
  | none => exact lv_aload_nN X.1.1 X.1.2.1 hd rfl (hL.at h) g
  | some a => exact lv_aload_n X.1.1 X.1.2.1 hd rfl (hL.at h) g
theorem mj_o_aload (X : mj_X p l e R s m args below meth c own cc ret D dA B nL mc ms Q) {k : Nat} {z : Option Nat} (hd : decode cc pc = .ok (.aload k, 2)) (h : mj_nt L k = some (.inr (.inr z))) (kk : mj_J X (pc + 2) L (.inr (.inr z) :: st) G M cb sb) : mj_J X pc L st G M cb sb := by
  intro H locs ls cells slots hH hS hL hst hc hs
  have g := kk H locs ls cells slots hH hS hL (mj_cons hst (hL.2.2 _ _ h)) hc hs
  cases z with
  | none => exact lv_aloadN X.1.1 X.1.2.1 hd (hL.at h) g
  | some a => exact lv_aload X.1.1 X.1.2.1 hd (hL.at h) g
theorem mj_o_istore_n (X : mj_X p l e R s m args below meth c own cc ret D dA B nL mc ms Q) {k : Fin 4} {z : Int} (hd : decode cc pc = .ok (.istore_n k, 1)) (hn : k.val < nL) (kk : mj_J X (pc + 1) (mj_s1 L k.val (.inl z)) st G M cb sb) : mj_J X pc L (.inl z :: st) G M cb sb := by
  intro H locs ls cells slots hH hS hL hst hc hs
  exact lv_istore_n X.1.1 X.1.2.1 hd rfl hL.1 hn rfl (fun ls' hl' => kk H locs ls' cells slots hH hS (hL.st1 hn (mj_head hst) hl') (mj_tl hst) hc hs)
theorem mj_o_istore (X : mj_X p l e R s m args below meth c own cc ret D dA B nL mc ms Q) {k : Nat} {z : Int} (hd : decode cc pc = .ok (.istore k, 2)) (hn : k < nL) (kk : mj_J X (pc + 2) (mj_s1 L k (.inl z)) st G M cb sb) : mj_J X pc L (.inl z :: st) G M cb sb := by
  intro H locs ls cells slots hH hS hL hst hc hs
  exact lv_istore X.1.1 X.1.2.1 hd hL.1 hn rfl (fun ls' hl' => kk H locs ls' cells slots hH hS (hL.st1 hn (mj_head hst) hl') (mj_tl hst) hc hs)
theorem mj_o_lstore_n (X : mj_X p l e R s m args below meth c own cc ret D dA B nL mc ms Q) {k : Fin 4} {z : Int64} (hd : decode cc pc = .ok (.lstore_n k, 1)) (hn : k.val + 1 < nL) (kk : mj_J X (pc + 1) (mj_s2 L k.val (.inr (.inl z))) st G M cb sb) : mj_J X pc L (.inr (.inl z) :: st) G M cb sb := by
  intro H locs ls cells slots hH hS hL hst hc hs
  exact lv_lstore_n X.1.1 X.1.2.1 hd rfl hL.1 hn rfl (fun ls' hl' => kk H locs ls' cells slots hH hS (hL.st2 hn (mj_head hst) hl') (mj_tl hst) hc hs)
theorem mj_o_lstore (X : mj_X p l e R s m args below meth c own cc ret D dA B nL mc ms Q) {k : Nat} {z : Int64} (hd : decode cc pc = .ok (.lstore k, 2)) (hn : k + 1 < nL) (kk : mj_J X (pc + 2) (mj_s2 L k (.inr (.inl z))) st G M cb sb) : mj_J X pc L (.inr (.inl z) :: st) G M cb sb := by
  intro H locs ls cells slots hH hS hL hst hc hs
  exact lv_lstore X.1.1 X.1.2.1 hd hL.1 hn rfl (fun ls' hl' => kk H locs ls' cells slots hH hS (hL.st2 hn (mj_head hst) hl') (mj_tl hst) hc hs)
theorem mj_o_astore_n (X : mj_X p l e R s m args below meth c own cc ret D dA B nL mc ms Q) {k : Fin 4} {z : Option Nat} (hd : decode cc pc = .ok (.astore_n k, 1)) (hn : k.val < nL) (kk : mj_J X (pc + 1) (mj_s1 L k.val (.inr (.inr z))) st G M cb sb) : mj_J X pc L (.inr (.inr z) :: st) G M cb sb := by
  intro H locs ls cells slots hH hS hL hst hc hs
  cases z with
  | none => exact lv_astore_nN X.1.1 X.1.2.1 hd rfl hL.1 hn rfl (fun ls' hl' => kk H locs ls' cells slots hH hS (hL.st1 (v := .inr (.inr none)) hn trivial hl') (mj_tl hst) hc hs)
  | some a => exact lv_astore_n X.1.1 X.1.2.1 hd rfl hL.1 hn rfl (fun ls' hl' => kk H locs ls' cells slots hH hS (hL.st1 (v := .inr (.inr (some a))) hn trivial hl') (mj_tl hst) hc hs)
theorem mj_o_astore (X : mj_X p l e R s m args below meth c own cc ret D dA B nL mc ms Q) {k : Nat} {z : Option Nat} (hd : decode cc pc = .ok (.astore k, 2)) (hn : k < nL) (kk : mj_J X (pc + 2) (mj_s1 L k (.inr (.inr z))) st G M cb sb) : mj_J X pc L (.inr (.inr z) :: st) G M cb sb := by
  intro H locs ls cells slots hH hS hL hst hc hs
  cases z with
  | none => exact lv_astoreN X.1.1 X.1.2.1 hd hL.1 hn rfl (fun ls' hl' => kk H locs ls' cells slots hH hS (hL.st1 (v := .inr (.inr none)) hn trivial hl') (mj_tl hst) hc hs)
  | some a => exact lv_astore X.1.1 X.1.2.1 hd hL.1 hn rfl (fun ls' hl' => kk H locs ls' cells slots hH hS (hL.st1 (v := .inr (.inr (some a))) hn trivial hl') (mj_tl hst) hc hs)
theorem mj_o_iinc (X : mj_X p l e R s m args below meth c own cc ret D dA B nL mc ms Q) {k : Nat} {n z : Int} (hd : decode cc pc = .ok (.iinc k n, 3)) (h : mj_nt L k = some (.inl z)) (hn : k < nL) (hin : mj_in (z + n)) (kk : mj_J X (pc + 3) (mj_s1 L k (.inl (z + n))) st G M cb sb) : mj_J X pc L st G M cb sb := by
  intro H locs ls cells slots hH hS hL hst hc hs
  have hm := mj_asc_of L 0 k _ h
  rw [Nat.zero_add] at hm
  obtain ⟨i, hi⟩ := List.getElem?_of_mem hm
  exact lv_iinc (v := Int32.ofInt (z + n)) X.1.1 X.1.2.1 hd hL.1 hi (Int32.ofInt_add z n).symm hn rfl (fun ls' hl' => kk H locs ls' cells slots hH hS (hL.st1 (v := .inl (z + n)) hn hin hl') hst hc hs)
theorem mj_o_iconst (X : mj_X p l e R s m args below meth c own cc ret D dA B nL mc ms Q) {z : Int} (hd : decode cc pc = .ok (.iconst z, 1)) (hz : mj_in z)  (kk : mj_J X (pc + 1) L (.inl z :: st) G M cb sb) : mj_J X pc L st G M cb sb := by
  intro H locs ls cells slots hH hS hL hst hc hs
  exact lv_iconst X.1.1 X.1.2.1 hd rfl (kk H locs ls cells slots hH hS hL (mj_cons hst hz) hc hs)
theorem mj_o_bipush (X : mj_X p l e R s m args below meth c own cc ret D dA B nL mc ms Q) {z : Int} (hd : decode cc pc = .ok (.bipush z, 2)) (hz : mj_in z) (hv : (Int8.ofInt z).toInt32 = Int32.ofInt z) (kk : mj_J X (pc + 2) L (.inl z :: st) G M cb sb) : mj_J X pc L st G M cb sb := by
  intro H locs ls cells slots hH hS hL hst hc hs
  exact lv_bipush X.1.1 X.1.2.1 hd hv (kk H locs ls cells slots hH hS hL (mj_cons hst hz) hc hs)
theorem mj_o_sipush (X : mj_X p l e R s m args below meth c own cc ret D dA B nL mc ms Q) {z : Int} (hd : decode cc pc = .ok (.sipush z, 3)) (hz : mj_in z) (hv : (Int16.ofInt z).toInt32 = Int32.ofInt z) (kk : mj_J X (pc + 3) L (.inl z :: st) G M cb sb) : mj_J X pc L st G M cb sb := by
  intro H locs ls cells slots hH hS hL hst hc hs
  exact lv_sipush X.1.1 X.1.2.1 hd hv (kk H locs ls cells slots hH hS hL (mj_cons hst hz) hc hs)
theorem mj_o_ldc (X : mj_X p l e R s m args below meth c own cc ret D dA B nL mc ms Q) {i : Nat} {z : Int} (hd : decode cc pc = .ok (.ldc i, 2)) (hz : mj_in z) (hw : Cond.constant own i (Int32.ofInt z) ∈ mj_tb) (kk : mj_J X (pc + 2) L (.inl z :: st) G M cb sb) : mj_J X pc L st G M cb sb := by
  intro H locs ls cells slots hH hS hL hst hc hs
  exact W.ldc X.1.1 X.1.2.1 X.1.2.2.2.2 (X.2.1 _ hw) rfl hd (kk H locs ls cells slots hH hS hL (mj_cons hst hz) hc hs)
theorem mj_o_ldc2 (X : mj_X p l e R s m args below meth c own cc ret D dA B nL mc ms Q) {i : Nat} {z : Int64} (hd : decode cc pc = .ok (.ldc2_w i, 3)) (hw : Cond.constantLong own i z ∈ mj_tb) (kk : mj_J X (pc + 3) L (.inr (.inl z) :: st) G M cb sb) : mj_J X pc L st G M cb sb := by
  intro H locs ls cells slots hH hS hL hst hc hs
  exact W.ldc2 X.1.1 X.1.2.1 X.1.2.2.2.2 (X.2.1 _ hw) rfl hd (kk H locs ls cells slots hH hS hL (mj_cons hst trivial) hc hs)
theorem mj_o_lconst (X : mj_X p l e R s m args below meth c own cc ret D dA B nL mc ms Q) {k : Fin 2} (hd : decode cc pc = .ok (.lconst k, 1)) (kk : mj_J X (pc + 1) L (.inr (.inl (Int64.ofNat k.val)) :: st) G M cb sb) : mj_J X pc L st G M cb sb := by
  intro H locs ls cells slots hH hS hL hst hc hs
  exact lv_lconst X.1.1 X.1.2.1 hd rfl (kk H locs ls cells slots hH hS hL (mj_cons hst trivial) hc hs)
theorem mj_o_null (X : mj_X p l e R s m args below meth c own cc ret D dA B nL mc ms Q) (hd : decode cc pc = .ok (.aconst_null, 1)) (kk : mj_J X (pc + 1) L (.inr (.inr none) :: st) G M cb sb) : mj_J X pc L st G M cb sb := by
  intro H locs ls cells slots hH hS hL hst hc hs
  exact lv_null X.1.1 X.1.2.1 hd (kk H locs ls cells slots hH hS hL (mj_cons hst trivial) hc hs)
theorem mj_o_iadd (X : mj_X p l e R s m args below meth c own cc ret D dA B nL mc ms Q) (hd : decode cc pc = .ok (.iadd, 1)) {x y : Int} (kk : (mj_in (x + y) ∧ mj_J X (pc + 1) L (.inl (x + y) :: st) G M cb sb) ∨ ∀ z, mj_in z → z = (Int32.ofInt x + Int32.ofInt y).toInt → mj_J X (pc + 1) L (.inl z :: st) G M cb sb) : mj_J X pc L (.inl y :: .inl x :: st) G M cb sb := by
  intro H locs ls cells slots hH hS hL hst hc hs
  refine lv_iadd X.1.1 X.1.2.1 hd ?_
  rcases kk with ⟨hi, kk⟩ | kk
  · have g := kk H locs ls cells slots hH hS hL (mj_cons (mj_tl (mj_tl hst)) hi) hc hs
    rw [← Int32.ofInt_add]
    exact g
  · have g := kk _ (mj_rng _) rfl H locs ls cells slots hH hS hL (mj_cons (mj_tl (mj_tl hst)) (mj_rng _)) hc hs
    simp only [List.map_cons, mj_val, mj_it] at g
    exact g
theorem mj_o_isub (X : mj_X p l e R s m args below meth c own cc ret D dA B nL mc ms Q) (hd : decode cc pc = .ok (.isub, 1)) {x y : Int} (kk : (mj_in (x - y) ∧ mj_J X (pc + 1) L (.inl (x - y) :: st) G M cb sb) ∨ ∀ z, mj_in z → z = (Int32.ofInt x - Int32.ofInt y).toInt → mj_J X (pc + 1) L (.inl z :: st) G M cb sb) : mj_J X pc L (.inl y :: .inl x :: st) G M cb sb := by
  intro H locs ls cells slots hH hS hL hst hc hs
  refine lv_isub X.1.1 X.1.2.1 hd ?_
  rcases kk with ⟨hi, kk⟩ | kk
  · have g := kk H locs ls cells slots hH hS hL (mj_cons (mj_tl (mj_tl hst)) hi) hc hs
    rw [← Int32.ofInt_sub]
    exact g
  · have g := kk _ (mj_rng _) rfl H locs ls cells slots hH hS hL (mj_cons (mj_tl (mj_tl hst)) (mj_rng _)) hc hs
    simp only [List.map_cons, mj_val, mj_it] at g
    exact g
theorem mj_o_imul (X : mj_X p l e R s m args below meth c own cc ret D dA B nL mc ms Q) (hd : decode cc pc = .ok (.imul, 1)) {x y : Int} (kk : (mj_in (x * y) ∧ mj_J X (pc + 1) L (.inl (x * y) :: st) G M cb sb) ∨ ∀ z, mj_in z → z = (Int32.ofInt x * Int32.ofInt y).toInt → mj_J X (pc + 1) L (.inl z :: st) G M cb sb) : mj_J X pc L (.inl y :: .inl x :: st) G M cb sb := by
  intro H locs ls cells slots hH hS hL hst hc hs
  refine lv_imul X.1.1 X.1.2.1 hd ?_
  rcases kk with ⟨hi, kk⟩ | kk
  · have g := kk H locs ls cells slots hH hS hL (mj_cons (mj_tl (mj_tl hst)) hi) hc hs
    rw [← Int32.ofInt_mul]
    exact g
  · have g := kk _ (mj_rng _) rfl H locs ls cells slots hH hS hL (mj_cons (mj_tl (mj_tl hst)) (mj_rng _)) hc hs
    simp only [List.map_cons, mj_val, mj_it] at g
    exact g
theorem mj_o_iand (X : mj_X p l e R s m args below meth c own cc ret D dA B nL mc ms Q) (hd : decode cc pc = .ok (.iand, 1)) {x y : Int} (kk : ∀ z, mj_in z → z = (Int32.ofInt x &&& Int32.ofInt y).toInt → mj_J X (pc + 1) L (.inl z :: st) G M cb sb) : mj_J X pc L (.inl y :: .inl x :: st) G M cb sb := by
  intro H locs ls cells slots hH hS hL hst hc hs
  refine lv_iand X.1.1 X.1.2.1 hd ?_
  have g := kk _ (mj_rng _) rfl H locs ls cells slots hH hS hL (mj_cons (mj_tl (mj_tl hst)) (mj_rng _)) hc hs
  simp only [List.map_cons, mj_val, mj_it] at g
  exact g
theorem mj_o_ior (X : mj_X p l e R s m args below meth c own cc ret D dA B nL mc ms Q) (hd : decode cc pc = .ok (.ior, 1)) {x y : Int} (kk : ∀ z, mj_in z → z = (Int32.ofInt x ||| Int32.ofInt y).toInt → mj_J X (pc + 1) L (.inl z :: st) G M cb sb) : mj_J X pc L (.inl y :: .inl x :: st) G M cb sb := by
  intro H locs ls cells slots hH hS hL hst hc hs
  refine lv_ior X.1.1 X.1.2.1 hd ?_
  have g := kk _ (mj_rng _) rfl H locs ls cells slots hH hS hL (mj_cons (mj_tl (mj_tl hst)) (mj_rng _)) hc hs
  simp only [List.map_cons, mj_val, mj_it] at g
  exact g
theorem mj_o_ishl (X : mj_X p l e R s m args below meth c own cc ret D dA B nL mc ms Q) (hd : decode cc pc = .ok (.ishl, 1)) {x y : Int} (kk : ∀ z, mj_in z → z = (Int32.ofInt x <<< (Int32.ofInt y &&& 31)).toInt → mj_J X (pc + 1) L (.inl z :: st) G M cb sb) : mj_J X pc L (.inl y :: .inl x :: st) G M cb sb := by
  intro H locs ls cells slots hH hS hL hst hc hs
  refine lv_ishl X.1.1 X.1.2.1 hd ?_
  have g := kk _ (mj_rng _) rfl H locs ls cells slots hH hS hL (mj_cons (mj_tl (mj_tl hst)) (mj_rng _)) hc hs
  simp only [List.map_cons, mj_val, mj_it] at g
  exact g
theorem mj_o_ishr (X : mj_X p l e R s m args below meth c own cc ret D dA B nL mc ms Q) (hd : decode cc pc = .ok (.ishr, 1)) {x y : Int} (kk : ∀ z, mj_in z → z = (Int32.ofInt x >>> (Int32.ofInt y &&& 31)).toInt → mj_J X (pc + 1) L (.inl z :: st) G M cb sb) : mj_J X pc L (.inl y :: .inl x :: st) G M cb sb := by
  intro H locs ls cells slots hH hS hL hst hc hs
  refine lv_ishr X.1.1 X.1.2.1 hd ?_
  have g := kk _ (mj_rng _) rfl H locs ls cells slots hH hS hL (mj_cons (mj_tl (mj_tl hst)) (mj_rng _)) hc hs
  simp only [List.map_cons, mj_val, mj_it] at g
  exact g
theorem mj_o_iushr (X : mj_X p l e R s m args below meth c own cc ret D dA B nL mc ms Q) (hd : decode cc pc = .ok (.iushr, 1)) {x y : Int} (kk : ∀ z, mj_in z → z = (((Int32.ofInt x).toUInt32 >>> ((Int32.ofInt y).toUInt32 &&& Int32.toUInt32 31)).toInt32).toInt → mj_J X (pc + 1) L (.inl z :: st) G M cb sb) : mj_J X pc L (.inl y :: .inl x :: st) G M cb sb := by
  intro H locs ls cells slots hH hS hL hst hc hs
  refine lv_iushr X.1.1 X.1.2.1 hd rfl ?_
  have g := kk _ (mj_rng _) rfl H locs ls cells slots hH hS hL (mj_cons (mj_tl (mj_tl hst)) (mj_rng _)) hc hs
  simp only [List.map_cons, mj_val, mj_it] at g
  exact g
theorem mj_o_ineg (X : mj_X p l e R s m args below meth c own cc ret D dA B nL mc ms Q) (hd : decode cc pc = .ok (.ineg, 1)) {x : Int} (kk : ∀ z, mj_in z → z = (-(Int32.ofInt x)).toInt → mj_J X (pc + 1) L (.inl z :: st) G M cb sb) : mj_J X pc L (.inl x :: st) G M cb sb := by
  intro H locs ls cells slots hH hS hL hst hc hs
  refine lv_ineg X.1.1 X.1.2.1 hd ?_
  have g := kk _ (mj_rng _) rfl H locs ls cells slots hH hS hL (mj_cons (mj_tl hst) (mj_rng _)) hc hs
  simp only [List.map_cons, mj_val, mj_it] at g
  exact g
theorem mj_o_i2b (X : mj_X p l e R s m args below meth c own cc ret D dA B nL mc ms Q) (hd : decode cc pc = .ok (.i2b, 1)) {x : Int} (kk : ∀ z, mj_in z → z = ((Int32.ofInt x).toInt8.toInt32).toInt → mj_J X (pc + 1) L (.inl z :: st) G M cb sb) : mj_J X pc L (.inl x :: st) G M cb sb := by
  intro H locs ls cells slots hH hS hL hst hc hs
  refine lv_i2b X.1.1 X.1.2.1 hd rfl ?_
  have g := kk _ (mj_rng _) rfl H locs ls cells slots hH hS hL (mj_cons (mj_tl hst) (mj_rng _)) hc hs
  simp only [List.map_cons, mj_val, mj_it] at g
  exact g
theorem mj_c1_cat {v : mj_V} (h : ∀ w, v ≠ .inr (.inl w)) : (mj_val v).category = 1 := by
  rcases v with z | w | r
  · rfl
  · exact absurd rfl (h w)
  · cases r <;> rfl
theorem mj_o_dup (X : mj_X p l e R s m args below meth c own cc ret D dA B nL mc ms Q) {v : mj_V} (hd : decode cc pc = .ok (.dup, 1)) (hv : ∀ w, v ≠ .inr (.inl w)) (kk : mj_J X (pc + 1) L (v :: v :: st) G M cb sb) : mj_J X pc L (v :: st) G M cb sb := by
  intro H locs ls cells slots hH hS hL hst hc hs
  exact lv_dup X.1.1 X.1.2.1 hd (mj_c1_cat hv) (kk H locs ls cells slots hH hS hL (mj_cons hst (mj_head hst)) hc hs)
theorem mj_o_dup2 (X : mj_X p l e R s m args below meth c own cc ret D dA B nL mc ms Q) {v w : mj_V} (hd : decode cc pc = .ok (.dup2, 1)) (hv : ∀ x, v ≠ .inr (.inl x)) (hw : ∀ x, w ≠ .inr (.inl x)) (kk : mj_J X (pc + 1) L (v :: w :: v :: w :: st) G M cb sb) : mj_J X pc L (v :: w :: st) G M cb sb := by
  intro H locs ls cells slots hH hS hL hst hc hs
  exact lv_dup2_11 X.1.1 X.1.2.1 hd (mj_c1_cat hv) (mj_c1_cat hw) (kk H locs ls cells slots hH hS hL (mj_cons (mj_cons hst (mj_head (mj_tl hst))) (mj_head hst)) hc hs)
theorem mj_o_pop (X : mj_X p l e R s m args below meth c own cc ret D dA B nL mc ms Q) {v : mj_V} (hd : decode cc pc = .ok (.pop, 1)) (hv : ∀ w, v ≠ .inr (.inl w)) (kk : mj_J X (pc + 1) L st G M cb sb) : mj_J X pc L (v :: st) G M cb sb := by
  intro H locs ls cells slots hH hS hL hst hc hs
  exact lv_pop X.1.1 X.1.2.1 hd (mj_c1_cat hv) (kk H locs ls cells slots hH hS hL (mj_tl hst) hc hs)
theorem mj_o_icmp_eq (X : mj_X p l e R s m args below meth c own cc ret D dA B nL mc ms Q) {off : Int} {tgt : Nat} (hd : decode cc pc = .ok (.if_icmp .eq off, 3)) (ht : (pc : Int) + off = (tgt : Int)) {x y : Int} (kt : x = y → mj_J X tgt L st G M cb sb) (kf : ¬ (x = y) → mj_J X (pc + 3) L st G M cb sb) : mj_J X pc L (.inl y :: .inl x :: st) G M cb sb := by
  intro H locs ls cells slots hH hS hL hst hc hs
  have hy : mj_in y := mj_head hst
  have hx : mj_in x := mj_head (mj_tl hst)
  exact lv_icmp_eq X.1.1 X.1.2.1 hd ht (fun q => kt ((mj_eq hx hy).mp q) H locs ls cells slots hH hS hL (mj_tl (mj_tl hst)) hc hs) (fun q => kf (fun z => q ((mj_eq hx hy).mpr z)) H locs ls cells slots hH hS hL (mj_tl (mj_tl hst)) hc hs)
theorem mj_o_if_eq (X : mj_X p l e R s m args below meth c own cc ret D dA B nL mc ms Q) {off : Int} {tgt : Nat} (hd : decode cc pc = .ok (.ifCond .eq off, 3)) (ht : (pc : Int) + off = (tgt : Int)) {x : Int} (kt : x = 0 → mj_J X tgt L st G M cb sb) (kf : ¬ (x = 0) → mj_J X (pc + 3) L st G M cb sb) : mj_J X pc L (.inl x :: st) G M cb sb := by
  intro H locs ls cells slots hH hS hL hst hc hs
  have hy : mj_in 0 := ⟨by decide, by decide⟩
  have hx : mj_in x := mj_head hst
  exact lv_if_eq X.1.1 X.1.2.1 hd ht (fun q => kt ((mj_eq hx hy).mp q) H locs ls cells slots hH hS hL (mj_tl hst) hc hs) (fun q => kf (fun z => q ((mj_eq hx hy).mpr z)) H locs ls cells slots hH hS hL (mj_tl hst) hc hs)
theorem mj_o_icmp_ne (X : mj_X p l e R s m args below meth c own cc ret D dA B nL mc ms Q) {off : Int} {tgt : Nat} (hd : decode cc pc = .ok (.if_icmp .ne off, 3)) (ht : (pc : Int) + off = (tgt : Int)) {x y : Int} (kt : x ≠ y → mj_J X tgt L st G M cb sb) (kf : ¬ (x ≠ y) → mj_J X (pc + 3) L st G M cb sb) : mj_J X pc L (.inl y :: .inl x :: st) G M cb sb := by
  intro H locs ls cells slots hH hS hL hst hc hs
  have hy : mj_in y := mj_head hst
  have hx : mj_in x := mj_head (mj_tl hst)
  exact lv_icmp_ne X.1.1 X.1.2.1 hd ht (fun q => kt (fun z => q ((mj_eq hx hy).mpr z)) H locs ls cells slots hH hS hL (mj_tl (mj_tl hst)) hc hs) (fun q => kf (fun z => z ((mj_eq hx hy).mp q)) H locs ls cells slots hH hS hL (mj_tl (mj_tl hst)) hc hs)
theorem mj_o_if_ne (X : mj_X p l e R s m args below meth c own cc ret D dA B nL mc ms Q) {off : Int} {tgt : Nat} (hd : decode cc pc = .ok (.ifCond .ne off, 3)) (ht : (pc : Int) + off = (tgt : Int)) {x : Int} (kt : x ≠ 0 → mj_J X tgt L st G M cb sb) (kf : ¬ (x ≠ 0) → mj_J X (pc + 3) L st G M cb sb) : mj_J X pc L (.inl x :: st) G M cb sb := by
  intro H locs ls cells slots hH hS hL hst hc hs
  have hy : mj_in 0 := ⟨by decide, by decide⟩
  have hx : mj_in x := mj_head hst
  exact lv_if_ne X.1.1 X.1.2.1 hd ht (fun q => kt (fun z => q ((mj_eq hx hy).mpr z)) H locs ls cells slots hH hS hL (mj_tl hst) hc hs) (fun q => kf (fun z => z ((mj_eq hx hy).mp q)) H locs ls cells slots hH hS hL (mj_tl hst) hc hs)
theorem mj_o_icmp_lt (X : mj_X p l e R s m args below meth c own cc ret D dA B nL mc ms Q) {off : Int} {tgt : Nat} (hd : decode cc pc = .ok (.if_icmp .lt off, 3)) (ht : (pc : Int) + off = (tgt : Int)) {x y : Int} (kt : x < y → mj_J X tgt L st G M cb sb) (kf : ¬ (x < y) → mj_J X (pc + 3) L st G M cb sb) : mj_J X pc L (.inl y :: .inl x :: st) G M cb sb := by
  intro H locs ls cells slots hH hS hL hst hc hs
  have hy : mj_in y := mj_head hst
  have hx : mj_in x := mj_head (mj_tl hst)
  exact lv_icmp_lt X.1.1 X.1.2.1 hd ht (fun q => kt ((mj_lt hx hy).mp q) H locs ls cells slots hH hS hL (mj_tl (mj_tl hst)) hc hs) (fun q => kf (fun z => q ((mj_lt hx hy).mpr z)) H locs ls cells slots hH hS hL (mj_tl (mj_tl hst)) hc hs)
theorem mj_o_if_lt (X : mj_X p l e R s m args below meth c own cc ret D dA B nL mc ms Q) {off : Int} {tgt : Nat} (hd : decode cc pc = .ok (.ifCond .lt off, 3)) (ht : (pc : Int) + off = (tgt : Int)) {x : Int} (kt : x < 0 → mj_J X tgt L st G M cb sb) (kf : ¬ (x < 0) → mj_J X (pc + 3) L st G M cb sb) : mj_J X pc L (.inl x :: st) G M cb sb := by
  intro H locs ls cells slots hH hS hL hst hc hs
  have hy : mj_in 0 := ⟨by decide, by decide⟩
  have hx : mj_in x := mj_head hst
  exact lv_if_lt X.1.1 X.1.2.1 hd ht (fun q => kt ((mj_lt hx hy).mp q) H locs ls cells slots hH hS hL (mj_tl hst) hc hs) (fun q => kf (fun z => q ((mj_lt hx hy).mpr z)) H locs ls cells slots hH hS hL (mj_tl hst) hc hs)
theorem mj_o_icmp_ge (X : mj_X p l e R s m args below meth c own cc ret D dA B nL mc ms Q) {off : Int} {tgt : Nat} (hd : decode cc pc = .ok (.if_icmp .ge off, 3)) (ht : (pc : Int) + off = (tgt : Int)) {x y : Int} (kt : y ≤ x → mj_J X tgt L st G M cb sb) (kf : ¬ (y ≤ x) → mj_J X (pc + 3) L st G M cb sb) : mj_J X pc L (.inl y :: .inl x :: st) G M cb sb := by
  intro H locs ls cells slots hH hS hL hst hc hs
  have hy : mj_in y := mj_head hst
  have hx : mj_in x := mj_head (mj_tl hst)
  exact lv_icmp_ge X.1.1 X.1.2.1 hd ht (fun q => kt ((mj_le hy hx).mp q) H locs ls cells slots hH hS hL (mj_tl (mj_tl hst)) hc hs) (fun q => kf (fun z => q ((mj_le hy hx).mpr z)) H locs ls cells slots hH hS hL (mj_tl (mj_tl hst)) hc hs)
theorem mj_o_if_ge (X : mj_X p l e R s m args below meth c own cc ret D dA B nL mc ms Q) {off : Int} {tgt : Nat} (hd : decode cc pc = .ok (.ifCond .ge off, 3)) (ht : (pc : Int) + off = (tgt : Int)) {x : Int} (kt : 0 ≤ x → mj_J X tgt L st G M cb sb) (kf : ¬ (0 ≤ x) → mj_J X (pc + 3) L st G M cb sb) : mj_J X pc L (.inl x :: st) G M cb sb := by
  intro H locs ls cells slots hH hS hL hst hc hs
  have hy : mj_in 0 := ⟨by decide, by decide⟩
  have hx : mj_in x := mj_head hst
  exact lv_if_ge X.1.1 X.1.2.1 hd ht (fun q => kt ((mj_le hy hx).mp q) H locs ls cells slots hH hS hL (mj_tl hst) hc hs) (fun q => kf (fun z => q ((mj_le hy hx).mpr z)) H locs ls cells slots hH hS hL (mj_tl hst) hc hs)
theorem mj_o_icmp_gt (X : mj_X p l e R s m args below meth c own cc ret D dA B nL mc ms Q) {off : Int} {tgt : Nat} (hd : decode cc pc = .ok (.if_icmp .gt off, 3)) (ht : (pc : Int) + off = (tgt : Int)) {x y : Int} (kt : y < x → mj_J X tgt L st G M cb sb) (kf : ¬ (y < x) → mj_J X (pc + 3) L st G M cb sb) : mj_J X pc L (.inl y :: .inl x :: st) G M cb sb := by
  intro H locs ls cells slots hH hS hL hst hc hs
  have hy : mj_in y := mj_head hst
  have hx : mj_in x := mj_head (mj_tl hst)
  exact lv_icmp_gt X.1.1 X.1.2.1 hd ht (fun q => kt ((mj_lt hy hx).mp q) H locs ls cells slots hH hS hL (mj_tl (mj_tl hst)) hc hs) (fun q => kf (fun z => q ((mj_lt hy hx).mpr z)) H locs ls cells slots hH hS hL (mj_tl (mj_tl hst)) hc hs)
theorem mj_o_if_gt (X : mj_X p l e R s m args below meth c own cc ret D dA B nL mc ms Q) {off : Int} {tgt : Nat} (hd : decode cc pc = .ok (.ifCond .gt off, 3)) (ht : (pc : Int) + off = (tgt : Int)) {x : Int} (kt : 0 < x → mj_J X tgt L st G M cb sb) (kf : ¬ (0 < x) → mj_J X (pc + 3) L st G M cb sb) : mj_J X pc L (.inl x :: st) G M cb sb := by
  intro H locs ls cells slots hH hS hL hst hc hs
  have hy : mj_in 0 := ⟨by decide, by decide⟩
  have hx : mj_in x := mj_head hst
  exact lv_if_gt X.1.1 X.1.2.1 hd ht (fun q => kt ((mj_lt hy hx).mp q) H locs ls cells slots hH hS hL (mj_tl hst) hc hs) (fun q => kf (fun z => q ((mj_lt hy hx).mpr z)) H locs ls cells slots hH hS hL (mj_tl hst) hc hs)
theorem mj_o_icmp_le (X : mj_X p l e R s m args below meth c own cc ret D dA B nL mc ms Q) {off : Int} {tgt : Nat} (hd : decode cc pc = .ok (.if_icmp .le off, 3)) (ht : (pc : Int) + off = (tgt : Int)) {x y : Int} (kt : x ≤ y → mj_J X tgt L st G M cb sb) (kf : ¬ (x ≤ y) → mj_J X (pc + 3) L st G M cb sb) : mj_J X pc L (.inl y :: .inl x :: st) G M cb sb := by
  intro H locs ls cells slots hH hS hL hst hc hs
  have hy : mj_in y := mj_head hst
  have hx : mj_in x := mj_head (mj_tl hst)
  exact lv_icmp_le X.1.1 X.1.2.1 hd ht (fun q => kt ((mj_le hx hy).mp q) H locs ls cells slots hH hS hL (mj_tl (mj_tl hst)) hc hs) (fun q => kf (fun z => q ((mj_le hx hy).mpr z)) H locs ls cells slots hH hS hL (mj_tl (mj_tl hst)) hc hs)
theorem mj_o_if_le (X : mj_X p l e R s m args below meth c own cc ret D dA B nL mc ms Q) {off : Int} {tgt : Nat} (hd : decode cc pc = .ok (.ifCond .le off, 3)) (ht : (pc : Int) + off = (tgt : Int)) {x : Int} (kt : x ≤ 0 → mj_J X tgt L st G M cb sb) (kf : ¬ (x ≤ 0) → mj_J X (pc + 3) L st G M cb sb) : mj_J X pc L (.inl x :: st) G M cb sb := by
  intro H locs ls cells slots hH hS hL hst hc hs
  have hy : mj_in 0 := ⟨by decide, by decide⟩
  have hx : mj_in x := mj_head hst
  exact lv_if_le X.1.1 X.1.2.1 hd ht (fun q => kt ((mj_le hx hy).mp q) H locs ls cells slots hH hS hL (mj_tl hst) hc hs) (fun q => kf (fun z => q ((mj_le hx hy).mpr z)) H locs ls cells slots hH hS hL (mj_tl hst) hc hs)
theorem mj_o_goto (X : mj_X p l e R s m args below meth c own cc ret D dA B nL mc ms Q) {off : Int} {tgt : Nat} (hd : decode cc pc = .ok (.goto off, 3)) (ht : (pc : Int) + off = (tgt : Int)) (kk : mj_J X tgt L st G M cb sb) : mj_J X pc L st G M cb sb := by
  intro H locs ls cells slots hH hS hL hst hc hs
  exact lv_goto X.1.1 X.1.2.1 hd ht (kk H locs ls cells slots hH hS hL hst hc hs)
theorem mj_o_ifnull (X : mj_X p l e R s m args below meth c own cc ret D dA B nL mc ms Q) {off : Int} {tgt : Nat} (hd : decode cc pc = .ok (.ifnull off, 3)) (ht : (pc : Int) + off = (tgt : Int)) {z : Option Nat} (kt : z = none → mj_J X tgt L st G M cb sb) (kf : ¬ (z = none) → mj_J X (pc + 3) L st G M cb sb) : mj_J X pc L (.inr (.inr z) :: st) G M cb sb := by
  intro H locs ls cells slots hH hS hL hst hc hs
  cases z with
  | none => exact lv_ifnullN X.1.1 X.1.2.1 hd ht (kt rfl H locs ls cells slots hH hS hL (mj_tl hst) hc hs)
  | some a => exact lv_ifnull X.1.1 X.1.2.1 hd (kf (fun q => by cases q) H locs ls cells slots hH hS hL (mj_tl hst) hc hs)
theorem mj_o_ifnonnull (X : mj_X p l e R s m args below meth c own cc ret D dA B nL mc ms Q) {off : Int} {tgt : Nat} (hd : decode cc pc = .ok (.ifnonnull off, 3)) (ht : (pc : Int) + off = (tgt : Int)) {z : Option Nat} (kt : z ≠ none → mj_J X tgt L st G M cb sb) (kf : ¬ (z ≠ none) → mj_J X (pc + 3) L st G M cb sb) : mj_J X pc L (.inr (.inr z) :: st) G M cb sb := by
  intro H locs ls cells slots hH hS hL hst hc hs
  cases z with
  | none => exact lv_ifnonnullN X.1.1 X.1.2.1 hd (kf (fun q => q rfl) H locs ls cells slots hH hS hL (mj_tl hst) hc hs)
  | some a => exact lv_ifnonnull X.1.1 X.1.2.1 hd ht (kt (fun q => by cases q) H locs ls cells slots hH hS hL (mj_tl hst) hc hs)
end MJO
end
section
/-! ===== fields and arrays ===== -/
/-- M' is M but for one slot, which holds v -/
def mj_u (so : Nat) (M : mj_M) (a k : Nat) (v : mj_V) (M' : mj_M) : Prop :=
  (∀ so' x j, ¬ (x = a ∧ j = k) → mj_sv so' M' x j = mj_sv so' M x j) ∧ mj_sv so M' a k = mj_val v ∧ ∀ x j, mj_in (M'.1 x j)
theorem mj_u0 {M : mj_M} {a k : Nat} {z : Int} (hM : ∀ x j, mj_in (M.1 x j)) (hz : mj_in z) : mj_u 0 M a k (.inl z) (mj_p0 M a k z) := by
  refine ⟨fun so' x j h => ?_, ?_, fun x j => ?_⟩
  · unfold mj_sv mj_p0
    dsimp only
    rw [if_neg h]
  · simp [mj_sv, mj_p0, mj_val]
  · unfold mj_p0
    dsimp only
    split
    · exact hz
    · exact hM x j
theorem mj_u1 {M : mj_M} {a k : Nat} {z : Int64} (hM : ∀ x j, mj_in (M.1 x j)) : mj_u 1 M a k (.inr (.inl z)) (mj_p1 M a k z) := by
  refine ⟨fun so' x j h => ?_, ?_, hM⟩
  · unfold mj_sv mj_p1
    dsimp only
    rw [if_neg h]
  · simp [mj_sv, mj_p1, mj_val]
theorem mj_u2 {M : mj_M} {a k : Nat} {z : Option Nat} (hM : ∀ x j, mj_in (M.1 x j)) : mj_u 2 M a k (.inr (.inr z)) (mj_p2 M a k z) := by
  refine ⟨fun so' x j h => ?_, ?_, hM⟩
  · unfold mj_sv mj_p2
    dsimp only
    rw [if_neg h]
  · simp [mj_sv, mj_p2, mj_val]
theorem mj_H.set {D : va_G} {dA : Nat → ClassId} {B : Nat} {G : mj_G} {M M' : mj_M} {H H' : Heap} {a t n : Nat} (h : mj_H D dA B G M H) (hG : G a = (t, n)) (hz : H'.size = H.size) (ho : ∀ q : Nat, q ≠ a → H'[q]? = H[q]?) (hR : ∀ x j, mj_in (M'.1 x j))
    (hM : ∀ so x j, x ≠ a → mj_sv so M' x j = mj_sv so M x j)
    (h1 : ∀ (ci : Nat) (r : vw_C), t % 1000 = ci + 1 → vwCl[ci]? = some r → t_OB a (D.1 ci) r.2.2 (D.2 ci) H' (fun k => mj_sv (mj_so ci k) M' a k))
    (h2 : ∀ j : Nat, t % 1000 = 100 + j → H'[a]? = some (arrV (dA j) n (fun k => mj_sv (mj_as j) M' a k))) : mj_H D dA B G M' H' := by
  refine ⟨hR, fun x hx => h.2.1 x (by rw [← hz]; exact hx), fun x t' n' hx ht => ?_⟩
  obtain ⟨hB, g1, g2⟩ := h.2.2 x t' n' hx ht
  refine ⟨hB, ?_, ?_⟩
  · intro ci r e1 e2
    by_cases hxa : x = a
    · subst hxa
      obtain ⟨rfl, rfl⟩ := Prod.mk.inj (hG.symm.trans hx)
      exact h1 ci r e1 e2
    · exact ((g1 ci r e1 e2).kept (ho x hxa)).to (fun k _ => (hM _ x k hxa).symm)
  · intro j e1
    by_cases hxa : x = a
    · subst hxa
      obtain ⟨rfl, rfl⟩ := Prod.mk.inj (hG.symm.trans hx)
      exact h2 j e1
    · rw [ho x hxa, g2 j e1]
      congr 2
      funext k
      exact (hM _ x k hxa).symm
theorem mj_cl100 {t ci j : Nat} {r : vw_C} (h1 : t % 1000 = ci + 1) (h2 : t % 1000 = 100 + j) (hr : vwCl[ci]? = some r) : False := by
  have := (List.getElem?_eq_some_iff.mp hr).1
  have hl : vwCl.length = 12 := rfl
  omega
section MJH
variable {p : Program} {l : Launch} {e : Env} {R : Room} {s : State} {m : MethodId} {args : Array Value} {below : List Frame} {meth : Method} {c : Code} {own : String} {cc : ByteArray} {ret : Option FieldType} {D : va_G} {dA : Nat → ClassId} {B nL mc ms : Nat} {Q : mj_P}
variable {pc : Nat} {L : mj_L} {st : List mj_V} {G : mj_G} {M : mj_M} {cb sb : Nat}
theorem mj_ne {t k : Nat} (h : t % 1000 = k + 1) : t ≠ 0 := fun q => by rw [q] at h; simp at h
theorem mj_ne1 {t k : Nat} (h : t % 1000 = 100 + k) : t ≠ 0 := fun q => by rw [q] at h; simp at h; omega
theorem mj_o_get (X : mj_X p l e R s m args below meth c own cc ret D dA B nL mc ms Q) {i ci fk a t n : Nat} {r : vw_C} {v : mj_V} (hd : decode cc pc = .ok (.getfield i, 3)) (hr : vwCl[ci]? = some r) (hk : fk < r.2.2) (hlay : ∀ w ∈ u_ws r.1 r.2.1 r.2.2, w ∈ mj_tb) (hlink : Cond.fieldLink own i (r.2.1 fk).1 (r.2.1 fk).2.1 (r.2.1 fk).2.2.1 ∈ mj_tb)
    (hG : G a = (t, n)) (ht : t % 1000 = ci + 1) (hv : (∀ x j, mj_in (M.1 x j)) → mj_val v = mj_sv (mj_so ci fk) M a fk ∧ mj_ok v) (kk : mj_J X (pc + 3) L (v :: st) G M cb sb) : mj_J X pc L (.inr (.inr (some a)) :: st) G M cb sb := by
  intro H locs ls cells slots hH hS hL hst hc hs
  obtain ⟨-, g1, -⟩ := hH.2.2 a t n hG (mj_ne ht)
  obtain ⟨cell, q1, q2, q3, q4⟩ := g1 ci r ht hr
  obtain ⟨hSl, hfc, kC, hkC, hkind⟩ := X.2.2.2.1.1 ci r hr
  obtain ⟨cf, kf, fi, f, hi, hsl⟩ := hSl fk hk
  obtain ⟨e1, e2⟩ := hv hH.1
  refine W.getf X.1.1 X.1.2.1 X.1.2.2.2.2 (X.2.1 _ hlink) hi (u_facts hfc hkC (u_lays X.2.1 hlay hk) hi).1 q1 (by rw [q3]; exact fun h => by cases h) (v := mj_val v) (by rw [hsl, q4 fk hk, e1]) rfl rfl hd ?_
  exact kk H locs ls cells slots hH hS hL (mj_cons (mj_tl hst) e2) hc hs
theorem mj_vaK {U : State} (h : mj_K D dA U) : va_K D vwCl [] U := ⟨h.1, fun k q hq => by simp at hq⟩
theorem mj_o_put (X : mj_X p l e R s m args below meth c own cc ret D dA B nL mc ms Q) {i ci fk a t n : Nat} {r : vw_C} {v : mj_V} {M' : mj_M} {ty : Nat → FieldType} (hd : decode cc pc = .ok (.putfield i, 3)) (hr : vwCl[ci]? = some r) (hk : fk < r.2.2) (hlay : ∀ w ∈ u_ws r.1 r.2.1 r.2.2, w ∈ mj_tb) (hlink : Cond.fieldLink own i (r.2.1 fk).1 (r.2.1 fk).2.1 (r.2.1 fk).2.2.1 ∈ mj_tb)
    (hty : ∀ k, k < r.2.2 → parseFieldDescriptor (r.2.1 k).2.2.1 = some (ty k)) (hnm : ∀ x, x < r.2.2 → ∀ y, y < r.2.2 → x ≠ y → (r.2.1 x).2.1 ≠ (r.2.1 y).2.1) (hfin : (r.2.1 fk).2.2.2 = false ∨ (meth.name = "<init>" ∧ (r.2.1 fk).1 = own))
    (hG : G a = (t, n)) (ht : t % 1000 = ci + 1) (hw9 : t < 900000) (hn : narrow (ty fk) (mj_val v) = mj_val v) (hfit : fits (ty fk) (mj_val v) = true) (hu : (∀ x j, mj_in (M.1 x j)) → mj_ok v → mj_u (mj_so ci fk) M a fk v M') (kk : mj_J X (pc + 3) L st G M' cb sb) : mj_J X pc L (v :: .inr (.inr (some a)) :: st) G M cb sb := by
  intro H locs ls cells slots hH hS hL hst hc hs
  have hap := va_apart (own := own) X.2.1 hlay ty hty hnm (mj_vaK X.2.2.2.1) hr
  obtain ⟨hB, g1, -⟩ := hH.2.2 a t n hG (mj_ne ht)
  obtain ⟨cell, q1, q2, q3, q4⟩ := g1 ci r ht hr
  obtain ⟨hSl, hfc, kC, hkC, hkind⟩ := X.2.2.2.1.1 ci r hr
  obtain ⟨cf, kf, fi, f, hi, hsl⟩ := hSl fk hk
  obtain ⟨u1, u2, u3⟩ := hu hH.1 (mj_head hst)
  have hst' := (u_facts hfc hkC (u_lays X.2.1 hlay hk) hi).1
  have key : ∀ H' : Heap, H'[a]? = some (cell.setSlot f.slot (mj_val v)) → H'.size = H.size → (∀ q, q ≠ a → H'[q]? = H[q]?) → W p l e R s m args below meth c H' (locs ++ [⟨a, f.slot⟩]) cells slots (MQ below (mj_Q D dA B Q) args s mc ms (fun q => B ≤ q)) (F0 m (pc + 3) ls (st.map mj_val)) := by
    intro H' w1 w2 w3
    rw [hsl] at w1 ⊢
    refine kk H' _ ls cells slots (hH.set hG w2 w3 u3 (fun so x j hx => u1 so x j (fun q => hx q.1)) ?_ ?_) (hS.put w2 w3 (hB hw9)) hL (mj_tl (mj_tl hst)) hc hs
    · intro ci' r' e1 e2
      have e3 : ci' = ci := by omega
      subst e3
      obtain rfl : r' = r := Option.some.inj (e2.symm.trans hr)
      refine t_OB.to (V := updV (fun k => mj_sv (mj_so ci' k) M a k) fk (mj_val v)) ⟨_, w1, q2, q3, t_set q4 hap hk (mj_val v)⟩ (fun k _ => ?_)
      by_cases hkf : k = fk
      · subst hkf
        rw [u2]; simp [updV]
      · rw [u1 _ a k (fun q => hkf q.2)]; simp [updV, hkf]
    · intro j e1
      exact (mj_cl100 ht e1 hr).elim
  rcases hfin with hfin | ⟨hin2, hdecl⟩
  · have hlay1 := X.2.1 _ (hlay _ (u_in_lay hk))
    unfold u_lay at hlay1
    rw [if_neg (by rw [hfin]; decide)] at hlay1
    have h6 := u_store hfc hkC hkind hlay1 hi (hty fk hk) hn hfit
    exact W.putK X.1.1 X.1.2.1 (f := f) ⟨X.1.2.2.2.2, X.2.1 _ hlink, ⟨_, _, _, hi⟩, hst'⟩ (by rw [q2]; exact h6) q1 q3 (by rw [hsl]; exact k2_hasslot (q4 fk hk)) rfl rfl hd key
  · cases hb2 : (r.2.1 fk).2.2.2 with
    | false =>
      have hlay1 := X.2.1 _ (hlay _ (u_in_lay hk))
      unfold u_lay at hlay1
      rw [if_neg (by rw [hb2]; decide)] at hlay1
      have h6 := u_store hfc hkC hkind hlay1 hi (hty fk hk) hn hfit
      exact W.putK X.1.1 X.1.2.1 (f := f) ⟨X.1.2.2.2.2, X.2.1 _ hlink, ⟨_, _, _, hi⟩, hst'⟩ (by rw [q2]; exact h6) q1 q3 (by rw [hsl]; exact k2_hasslot (q4 fk hk)) rfl rfl hd key
    | true =>
      have hlay1 := X.2.1 _ (hlay _ (u_in_lay hk))
      unfold u_lay at hlay1
      rw [if_pos hb2] at hlay1
      have hcf : m.cls = cf := by
        obtain ⟨_, _, c', _, _, _, -, -, hf', -, -, -, hown2, -⟩ := Cond.laysFinal_spec hlay1
        have e1 : c' = cf := by have := hi.symm.trans hf'; simp at this; exact this.1.symm
        rw [hdecl] at hown2
        rw [← e1]; exact Option.some.inj (X.1.2.2.2.2.symm.trans hown2)
      have h6 := u_fits hfc hkC hkind (Or.inr hlay1) hi (hty fk hk) hn hfit
      exact W.putFinK X.1.1 X.1.2.1 X.1.2.2.2.2 (X.2.1 _ hlink) hi hst' hcf hin2 (by rw [q2]; exact h6) q1 q3 (by rw [hsl]; exact k2_hasslot (q4 fk hk)) rfl rfl hd key
theorem mj_idx {i : Int} {n : Nat} (hi : mj_in i) (h0 : 0 ≤ i) (h1 : i < n) : ¬ (Int32.ofInt i < 0 ∨ n ≤ (Int32.ofInt i).toNatClampNeg) := by
  rintro (q | q)
  · exact mj_nn hi h0 q
  · rw [mj_nat hi] at q; omega
theorem mj_arr (X : mj_X p l e R s m args below meth c own cc ret D dA B nL mc ms Q) {H : Heap} {a t n j : Nat} (hj : j < 7) (hH : mj_H D dA B G M H) (hG : G a = (t, n)) (ht : t % 1000 = 100 + j) : (t < 900000 → B ≤ a) ∧ H[a]? = some (arrV (dA j) n (fun k => mj_sv (mj_as j) M a k)) ∧ s.isArrayOf (arrV (dA j) n (fun k => mj_sv (mj_as j) M a k)) (mj_at j) := by
  obtain ⟨hB, -, g2⟩ := hH.2.2 a t n hG (mj_ne1 ht)
  exact ⟨hB, g2 j ht, (X.2.2.2.1.2.1 j hj).2 _ _⟩
theorem mj_H.ast {H H' : Heap} {a t n j k : Nat} {v : mj_V} {M' : mj_M} (hH : mj_H D dA B G M H) (hG : G a = (t, n)) (ht : t % 1000 = 100 + j) (hu : mj_u (mj_as j) M a k v M') (w1 : H'[a]? = some ((arrV (dA j) n (fun k => mj_sv (mj_as j) M a k)).setSlot k (mj_val v))) (w2 : H'.size = H.size) (w3 : ∀ q, q ≠ a → H'[q]? = H[q]?) : mj_H D dA B G M' H' := by
  obtain ⟨u1, u2, u3⟩ := hu
  refine hH.set hG w2 w3 u3 (fun so x j hx => u1 so x j (fun q => hx q.1)) ?_ ?_
  · intro ci r e1 e2
    exact (mj_cl100 e1 ht e2).elim
  · intro j' e1
    have e3 : j' = j := by omega
    subst e3
    rw [w1, arrV_store]
    congr 2
    funext q
    by_cases hq : q = k
    · subst hq
      rw [u2]; simp [updV]
    · rw [u1 _ a q (fun z => hq z.2)]; simp [updV, hq]
theorem mj_o_iaload (X : mj_X p l e R s m args below meth c own cc ret D dA B nL mc ms Q) {a t n : Nat} {i : Int} (hd : decode cc pc = .ok (.iaload, 1)) (hG : G a = (t, n)) (ht : t % 1000 = 100 + 0) (h0 : 0 ≤ i) (h1 : i < n) (kk : mj_J X (pc + 1) L (.inl (M.1 a i.toNat) :: st) G M cb sb) : mj_J X pc L (.inl i :: .inr (.inr (some a)) :: st) G M cb sb := by
  intro H locs ls cells slots hH hS hL hst hc hs
  have hi : mj_in i := mj_head hst
  obtain ⟨-, q1, q2⟩ := mj_arr X (by decide) hH hG ht
  refine W.iald X.1.1 X.1.2.1 (v := mj_val (.inl (M.1 a i.toNat))) q1 q2 (fun q => by cases q) (by rw [arrV_size]; exact mj_idx hi h0 h1) (by rw [mj_nat hi, arrV_read _ _ (by omega)]; rfl) rfl rfl hd ?_
  exact kk H locs ls cells slots hH hS hL (mj_cons (mj_tl (mj_tl hst)) (hH.1 a i.toNat)) hc hs
theorem mj_o_baload (X : mj_X p l e R s m args below meth c own cc ret D dA B nL mc ms Q) {a t n : Nat} {i : Int} (hd : decode cc pc = .ok (.baload, 1)) (hG : G a = (t, n)) (ht : t % 1000 = 100 + 1) (h0 : 0 ≤ i) (h1 : i < n) (kk : mj_J X (pc + 1) L (.inl (M.1 a i.toNat) :: st) G M cb sb) : mj_J X pc L (.inl i :: .inr (.inr (some a)) :: st) G M cb sb := by
  intro H locs ls cells slots hH hS hL hst hc hs
  have hi : mj_in i := mj_head hst
  obtain ⟨-, q1, q2⟩ := mj_arr X (by decide) hH hG ht
  refine W.bald X.1.1 X.1.2.1 (v := mj_val (.inl (M.1 a i.toNat))) q1 q2 (fun q => by cases q) (by rw [arrV_size]; exact mj_idx hi h0 h1) (by rw [mj_nat hi, arrV_read _ _ (by omega)]; rfl) rfl rfl hd ?_
  exact kk H locs ls cells slots hH hS hL (mj_cons (mj_tl (mj_tl hst)) (hH.1 a i.toNat)) hc hs
theorem mj_o_zaload (X : mj_X p l e R s m args below meth c own cc ret D dA B nL mc ms Q) {a t n : Nat} {i : Int} (hd : decode cc pc = .ok (.baload, 1)) (hG : G a = (t, n)) (ht : t % 1000 = 100 + 2) (h0 : 0 ≤ i) (h1 : i < n) (kk : mj_J X (pc + 1) L (.inl (M.1 a i.toNat) :: st) G M cb sb) : mj_J X pc L (.inl i :: .inr (.inr (some a)) :: st) G M cb sb := by
  intro H locs ls cells slots hH hS hL hst hc hs
  have hi : mj_in i := mj_head hst
  obtain ⟨-, q1, q2⟩ := mj_arr X (by decide) hH hG ht
  refine W.zald X.1.1 X.1.2.1 (v := mj_val (.inl (M.1 a i.toNat))) q1 q2 (fun q => by cases q) (by rw [arrV_size]; exact mj_idx hi h0 h1) (by rw [mj_nat hi, arrV_read _ _ (by omega)]; rfl) rfl rfl hd ?_
  exact kk H locs ls cells slots hH hS hL (mj_cons (mj_tl (mj_tl hst)) (hH.1 a i.toNat)) hc hs
theorem mj_o_laload (X : mj_X p l e R s m args below meth c own cc ret D dA B nL mc ms Q) {a t n : Nat} {i : Int} (hd : decode cc pc = .ok (.laload, 1)) (hG : G a = (t, n)) (ht : t % 1000 = 100 + 3) (h0 : 0 ≤ i) (h1 : i < n) (kk : mj_J X (pc + 1) L (.inr (.inl (M.2.1 a i.toNat)) :: st) G M cb sb) : mj_J X pc L (.inl i :: .inr (.inr (some a)) :: st) G M cb sb := by
  intro H locs ls cells slots hH hS hL hst hc hs
  have hi : mj_in i := mj_head hst
  obtain ⟨-, q1, q2⟩ := mj_arr X (by decide) hH hG ht
  refine W.lald X.1.1 X.1.2.1 (v := mj_val (.inr (.inl (M.2.1 a i.toNat)))) q1 q2 (fun q => by cases q) (by rw [arrV_size]; exact mj_idx hi h0 h1) (by rw [mj_nat hi, arrV_read _ _ (by omega)]; rfl) rfl rfl hd ?_
  exact kk H locs ls cells slots hH hS hL (mj_cons (mj_tl (mj_tl hst)) trivial) hc hs
theorem mj_o_aaload (X : mj_X p l e R s m args below meth c own cc ret D dA B nL mc ms Q) {a t n j : Nat} {i : Int} (hd : decode cc pc = .ok (.aaload, 1)) (hG : G a = (t, n)) (ht : t % 1000 = 100 + j) (hj : j < 7) (hr : (mj_at j).isReference = true) (hso : mj_as j = 2) (h0 : 0 ≤ i) (h1 : i < n) (kk : mj_rf (M.2.2 a i.toNat) fun v => mj_J X (pc + 1) L (v :: st) G M cb sb) : mj_J X pc L (.inl i :: .inr (.inr (some a)) :: st) G M cb sb := by
  intro H locs ls cells slots hH hS hL hst hc hs
  have hi : mj_in i := mj_head hst
  obtain ⟨-, q1, q2⟩ := mj_arr X hj hH hG ht
  refine W.aald X.1.1 X.1.2.1 (v := mj_val (.inr (.inr (M.2.2 a i.toNat)))) q1 q2 hr (fun q => by cases q) (by rw [arrV_size]; exact mj_idx hi h0 h1) (by rw [mj_nat hi, arrV_read _ _ (by omega), hso]; rfl) rfl rfl hd ?_
  cases hm : M.2.2 a i.toNat with
  | none => exact kk.2 hm H locs ls cells slots hH hS hL (mj_cons (mj_tl (mj_tl hst)) trivial) hc hs
  | some b => exact kk.1 b hm H locs ls cells slots hH hS hL (mj_cons (mj_tl (mj_tl hst)) trivial) hc hs
theorem mj_o_iastore (X : mj_X p l e R s m args below meth c own cc ret D dA B nL mc ms Q) {a t n : Nat} {i : Int} {z : Int} (hd : decode cc pc = .ok (.iastore, 1)) (hG : G a = (t, n)) (ht : t % 1000 = 100 + 0) (hw9 : t < 900000) (h0 : 0 ≤ i) (h1 : i < n) (kk : mj_J X (pc + 1) L st G (mj_p0 M a i.toNat z) cb sb) : mj_J X pc L (.inl z :: .inl i :: .inr (.inr (some a)) :: st) G M cb sb := by
  intro H locs ls cells slots hH hS hL hst hc hs
  have hi : mj_in i := mj_head (mj_tl hst)
  obtain ⟨hB, q1, q2⟩ := mj_arr X (by decide) hH hG ht
  refine W.iast X.1.1 X.1.2.1 q1 q2 (fun q => by cases q) (by rw [arrV_size]; exact mj_idx hi h0 h1) rfl rfl hd (fun H' w1 w2 w3 => ?_)
  · rw [mj_nat hi] at w1 ⊢
    exact kk H' _ ls cells slots (hH.ast (v := .inl z) hG ht (mj_u0 hH.1 (mj_head hst)) w1 w2 w3) (hS.put w2 w3 (hB hw9)) hL (mj_tl (mj_tl (mj_tl hst))) hc hs
theorem mj_o_bastore (X : mj_X p l e R s m args below meth c own cc ret D dA B nL mc ms Q) {a t n : Nat} {i : Int} {z : Int} (hd : decode cc pc = .ok (.bastore, 1)) (hG : G a = (t, n)) (ht : t % 1000 = 100 + 1) (hw9 : t < 900000) (h0 : 0 ≤ i) (h1 : i < n) (kk : mj_J X (pc + 1) L st G (mj_p0 M a i.toNat (mj_nb z)) cb sb) : mj_J X pc L (.inl z :: .inl i :: .inr (.inr (some a)) :: st) G M cb sb := by
  intro H locs ls cells slots hH hS hL hst hc hs
  have hi : mj_in i := mj_head (mj_tl hst)
  obtain ⟨hB, q1, q2⟩ := mj_arr X (by decide) hH hG ht
  refine W.bast X.1.1 X.1.2.1 q1 q2 (fun q => by cases q) (by rw [arrV_size]; exact mj_idx hi h0 h1) rfl rfl hd (fun H' w1 w2 w3 => ?_)
  · rw [mj_nat hi] at w1 ⊢
    have e : narrow .byte (.int (Int32.ofInt z)) = mj_val (.inl (mj_nb z)) := by
      show Value.int (Int32.ofInt z).toInt8.toInt32 = Value.int (Int32.ofInt (Int32.ofInt z).toInt8.toInt32.toInt)
      rw [mj_it]
    rw [e] at w1
    exact kk H' _ ls cells slots (hH.ast (v := .inl (mj_nb z)) hG ht (mj_u0 hH.1 (mj_rng _)) w1 w2 w3) (hS.put w2 w3 (hB hw9)) hL (mj_tl (mj_tl (mj_tl hst))) hc hs
theorem mj_o_zastore (X : mj_X p l e R s m args below meth c own cc ret D dA B nL mc ms Q) {a t n : Nat} {i : Int} {z : Int} (hd : decode cc pc = .ok (.bastore, 1)) (hG : G a = (t, n)) (ht : t % 1000 = 100 + 2) (hz : z = 0 ∨ z = 1) (hw9 : t < 900000) (h0 : 0 ≤ i) (h1 : i < n) (kk : mj_J X (pc + 1) L st G (mj_p0 M a i.toNat z) cb sb) : mj_J X pc L (.inl z :: .inl i :: .inr (.inr (some a)) :: st) G M cb sb := by
  intro H locs ls cells slots hH hS hL hst hc hs
  have hi : mj_in i := mj_head (mj_tl hst)
  obtain ⟨hB, q1, q2⟩ := mj_arr X (by decide) hH hG ht
  refine W.zast X.1.1 X.1.2.1 q1 q2 (fun q => by cases q) (by rw [arrV_size]; exact mj_idx hi h0 h1) rfl rfl hd (fun H' w1 w2 w3 => ?_)
  · rw [mj_nat hi] at w1 ⊢
    have e : narrow .boolean (.int (Int32.ofInt z)) = mj_val (.inl z) := by rcases hz with rfl | rfl <;> rfl
    rw [e] at w1
    exact kk H' _ ls cells slots (hH.ast (v := .inl z) hG ht (mj_u0 hH.1 (mj_head hst)) w1 w2 w3) (hS.put w2 w3 (hB hw9)) hL (mj_tl (mj_tl (mj_tl hst))) hc hs
theorem mj_o_lastore (X : mj_X p l e R s m args below meth c own cc ret D dA B nL mc ms Q) {a t n : Nat} {i : Int} {z : Int64} (hd : decode cc pc = .ok (.lastore, 1)) (hG : G a = (t, n)) (ht : t % 1000 = 100 + 3) (hw9 : t < 900000) (h0 : 0 ≤ i) (h1 : i < n) (kk : mj_J X (pc + 1) L st G (mj_p1 M a i.toNat z) cb sb) : mj_J X pc L (.inr (.inl z) :: .inl i :: .inr (.inr (some a)) :: st) G M cb sb := by
  intro H locs ls cells slots hH hS hL hst hc hs
  have hi : mj_in i := mj_head (mj_tl hst)
  obtain ⟨hB, q1, q2⟩ := mj_arr X (by decide) hH hG ht
  refine W.last X.1.1 X.1.2.1 q1 q2 (fun q => by cases q) (by rw [arrV_size]; exact mj_idx hi h0 h1) rfl rfl hd (fun H' w1 w2 w3 => ?_)
  · rw [mj_nat hi] at w1 ⊢
    exact kk H' _ ls cells slots (hH.ast (v := .inr (.inl z)) hG ht (mj_u1 hH.1) w1 w2 w3) (hS.put w2 w3 (hB hw9)) hL (mj_tl (mj_tl (mj_tl hst))) hc hs
theorem mj_o_alen (X : mj_X p l e R s m args below meth c own cc ret D dA B nL mc ms Q) {a t n j : Nat} (hd : decode cc pc = .ok (.arraylength, 1)) (hG : G a = (t, n)) (ht : t % 1000 = 100 + j) (hj : j < 7) (hn : mj_in n) (kk : mj_J X (pc + 1) L (.inl (n : Int) :: st) G M cb sb) : mj_J X pc L (.inr (.inr (some a)) :: st) G M cb sb := by
  intro H locs ls cells slots hH hS hL hst hc hs
  obtain ⟨-, q1, q2⟩ := mj_arr X hj hH hG ht
  refine W.alen (n := Int32.ofInt n) X.1.1 X.1.2.1 q1 q2 (by rw [arrV_size]; rfl) rfl rfl hd ?_
  exact kk H locs ls cells slots hH hS hL (mj_cons (mj_tl hst) hn) hc hs
theorem mj_fin (X : mj_X p l e R s m args below meth c own cc ret D dA B nL mc ms Q) {H : Heap} {locs : List Loc} {r : Option mj_V} (hH : mj_H D dA B G M H) (hS : va_S (fun q => B ≤ q) s.heap H locs) (hr : ∀ v, r = some v → mj_ok v) (kk : Q r G M) : ∀ t : State, t.heap = H → s.WarmedH t.vm → mj_Q D dA B Q args s (.returned (r.map mj_val)) t := by
  intro t ht hW
  exact ⟨r, G, M, rfl, kk, hr, by rw [ht]; exact hH, mj_K.moved hW.alike X.2.2.2.1, hS.F ht⟩
theorem mj_o_return (X : mj_X p l e R s m args below meth c own cc ret D dA B nL mc ms Q) (hd : decode cc pc = .ok (.return_, 1)) (hr : ret = none) (kk : Q none G M) : mj_J X pc L [] G M cb sb := by
  intro H locs ls cells slots hH hS hL hst hc hs
  refine W.widen (k := mc) (n := ms) (by omega) (by omega) ?_
  exact W.vret X.1.1 X.1.2.1 (X.1.2.2.2.1.trans hr) (mj_fin X hH hS (fun v q => by cases q) kk) hS.2.2 hd X.2.2.1
theorem mj_o_ireturn (X : mj_X p l e R s m args below meth c own cc ret D dA B nL mc ms Q) {z : Int} (hd : decode cc pc = .ok (.ireturn, 1)) (hr : ret = some .int ∨ (ret = some .boolean ∧ (z = 0 ∨ z = 1))) (kk : Q (some (.inl z)) G M) : mj_J X pc L [.inl z] G M cb sb := by
  intro H locs ls cells slots hH hS hL hst hc hs
  refine W.widen (k := mc) (n := ms) (by omega) (by omega) ?_
  have hz : mj_in z := mj_head hst
  have hq := mj_fin X hH hS (r := some (.inl z)) (fun v q => by cases q; exact hz) kk
  rcases hr with hr | ⟨hr, h2⟩
  · exact W.iret X.1.1 X.1.2.1 (X.1.2.2.2.1.trans hr) hq hS.2.2 hd X.2.2.1
  · exact W.zret X.1.1 X.1.2.1 (X.1.2.2.2.1.trans hr) (by rcases h2 with rfl | rfl <;> rfl) hq hS.2.2 hd X.2.2.1
end MJH
end
section
/-! ===== new cells, calls ===== -/
theorem mj_good {ws : List Cond} (h : ∀ w ∈ ws, w ∈ mj_tb) : GoodIn mj_tb ws := fun w hw => ⟨h w hw, (mj_tb_good w (h w hw)).2⟩
theorem mj_sv_z {so : Nat} {M : mj_M} {a x j : Nat} (h : x ≠ a) : mj_sv so (mj_z M a) x j = mj_sv so M x j := by
  unfold mj_sv mj_z
  dsimp only
  rw [if_neg h, if_neg h, if_neg h]
theorem mj_sv_z0 {M : mj_M} {a j : Nat} (ty : FieldType) (h : ty ≠ .float ∧ ty ≠ .double) : mj_sv (mj_fs ty) (mj_z M a) a j = defaultValue ty := by
  unfold mj_sv mj_z
  cases ty <;> simp [mj_fs, defaultValue, va_rf] at h ⊢
theorem mj_H.push1 {D : va_G} {dA : Nat → ClassId} {B : Nat} {G : mj_G} {M : mj_M} {H H' : Heap} {t n : Nat} (h : mj_H D dA B G M H) (hB : B ≤ H.size) (w2 : H'.size = H.size + 1) (w3 : ∀ q : Nat, q < H.size → H'[q]? = H[q]?)
    (h1 : ∀ (ci : Nat) (r : vw_C), t % 1000 = ci + 1 → vwCl[ci]? = some r → t_OB H.size (D.1 ci) r.2.2 (D.2 ci) H' (fun k => mj_sv (mj_so ci k) (mj_z M H.size) H.size k))
    (h2 : ∀ j : Nat, t % 1000 = 100 + j → H'[H.size]? = some (arrV (dA j) n (fun k => mj_sv (mj_as j) (mj_z M H.size) H.size k))) : mj_H D dA B (mj_g G H.size t n) (mj_z M H.size) H' := by
  refine ⟨fun a k => ?_, fun x hx => ?_, fun x t' n' hx ht => ?_⟩
  · unfold mj_z
    dsimp only
    split
    · exact ⟨by decide, by decide⟩
    · exact h.1 a k
  · unfold mj_g
    rw [if_neg (by omega)]
    exact h.2.1 x (by omega)
  · unfold mj_g at hx
    split at hx
    · rename_i hxa
      subst hxa
      obtain ⟨rfl, rfl⟩ := Prod.mk.inj hx
      exact ⟨fun _ => hB, h1, h2⟩
    · rename_i hxa
      have hlt : x < H.size := by
        rcases Nat.lt_or_ge x H.size with q | q
        · exact q
        · have := h.2.1 x q
          rw [hx] at this
          exact absurd (Prod.mk.inj this).1 ht
      obtain ⟨hB', g1, g2⟩ := h.2.2 x t' n' hx ht
      refine ⟨hB', fun ci r e1 e2 => ((g1 ci r e1 e2).kept (w3 x hlt)).to (fun k _ => (mj_sv_z hxa).symm), fun j e1 => ?_⟩
      rw [w3 x hlt, g2 j e1]
      congr 2
      funext k
      exact (mj_sv_z hxa).symm
theorem mj_S_up {A : Nat → Prop} {H0 H H' : Heap} {locs : List Loc} (hS : va_S A H0 H locs) (w2 : H.size ≤ H'.size) (w3 : ∀ q : Nat, q < H.size → H'[q]? = H[q]?) : va_S A H0 H' locs :=
  ⟨Nat.le_trans hS.1 w2, fun q h1 h2 => by rw [w3 q (Nat.lt_of_lt_of_le h1 hS.1)]; exact hS.2.1 q h1 h2, hS.2.2⟩
def mj_Pc (D : va_G) (dA : Nat → ClassId) (B : Nat) (av : List mj_V) (G : mj_G) (M : mj_M) : Array Value → State → Prop := va_Pc (av.map mj_val) (fun U => mj_H D dA B G M U.heap ∧ mj_K D dA U ∧ (∀ v ∈ av, mj_ok v) ∧ B ≤ U.heap.size)
def mj_rm (d : Nat) (q : Nat × Nat) : Room := { frames := d, cells := q.1, slots := q.2, locals := 100 * d + 100 }
theorem mj_blind {D : va_G} {dA : Nat → ClassId} {B : Nat} {av : List mj_V} {G : mj_G} {M : mj_M} : FrameBlind (mj_Pc D dA B av G M) := by
  intro a U g mk q
  obtain ⟨q0, q1, q2, q3, q4⟩ := q
  exact ⟨q0, q1, mj_K.moved (u := U) (U := U.calling g mk a) (Vm.Alike.refl U.vm) q2, q3, q4⟩
theorem mj_map_ret (r : Option mj_V) (st : List mj_V) : (r.map mj_val).toList ++ st.map mj_val = (mj_ret r st).map mj_val := by
  cases r <;> rfl
theorem mj_cat_eq : ∀ st : List mj_V, ((st.map mj_val).map fun v => v.category).sum = mj_cat st
  | [] => rfl
  | v :: t => by
    have ih := mj_cat_eq t
    rcases v with z | w | r
    · simp only [List.map_cons, List.sum_cons, ih]; rfl
    · simp only [List.map_cons, List.sum_cons, ih]; rfl
    · cases r <;> (simp only [List.map_cons, List.sum_cons, ih]; rfl)
section MJC
variable {p : Program} {l : Launch} {e : Env} {R : Room} {s : State} {m : MethodId} {args : Array Value} {below : List Frame} {meth : Method} {c : Code} {own : String} {cc : ByteArray} {ret : Option FieldType} {D : va_G} {dA : Nat → ClassId} {B nL mc ms : Nat} {Q : mj_P}
variable {pc : Nat} {L : mj_L} {st : List mj_V} {G : mj_G} {M : mj_M} {cb sb : Nat}
theorem mj_o_new (X : mj_X p l e R s m args below meth c own cc ret D dA B nL mc ms Q) {i ci N t : Nat} {r : vw_C} (hd : decode cc pc = .ok (.new i, 3)) (hr : vwCl[ci]? = some r) (hlay : ∀ w ∈ u_ws r.1 r.2.1 r.2.2, w ∈ mj_tb) (hty : ∀ k, k < r.2.2 → parseFieldDescriptor (r.2.1 k).2.2.1 = some (mj_ty ci k)) (hnf : ∀ k, k < r.2.2 → mj_ty ci k ≠ .float ∧ mj_ty ci k ≠ .double)
    (hw1 : Cond.classLink own i r.1 ∈ mj_tb) (hw2 : Cond.instantiable r.1 N ∈ mj_tb) (hw3 : Cond.initialized r.1 ∈ mj_tb) (ht : t % 1000 = ci + 1) (h1 : 1 ≤ cb) (h2 : N ≤ sb)
    (kk : ∀ a, (∀ x, a ≤ x → G x = (0, 0)) → mj_J X (pc + 3) L (.inr (.inr (some a)) :: st) (mj_g G a t 0) (mj_z M a) (cb - 1) (sb - N)) : mj_J X pc L st G M cb sb := by
  intro H locs ls cells slots hH hS hL hst hc hs
  obtain ⟨hSl, hfc, -⟩ := id (X.2.2.2.1.1 ci r hr)
  have hm1 : mc ≤ R.cells := X.2.2.2.2.2.2.2.1
  have hm2 : ms ≤ R.slots := X.2.2.2.2.2.2.2.2
  refine W.newcK X.1.1 X.1.2.1 X.1.2.2.2.2 (X.2.1 _ hw1) (X.2.1 _ hw2) (X.2.1 _ hw3) rfl hd (by omega) (by omega) hfc rfl (fun H' kC hkC w1 w2 w3 => ?_)
  refine kk H.size hH.2.1 H' locs ls (cells + 1) (slots + N) (hH.push1 (Nat.le_trans X.2.2.2.2.1 hS.1) w2 w3 ?_ ?_) (mj_S_up hS (by omega) w3) hL (mj_cons hst trivial) (by omega) (by omega)
  · intro ci' r' e1 e2
    have e3 : ci' = ci := by omega
    subst e3
    obtain rfl : r' = r := Option.some.inj (e2.symm.trans hr)
    exact (u_born (mj_ty ci') X.2.1 hlay (X.2.2.2.1.1 ci' r' hr) hkC w1 hty).to (fun k hk => (mj_sv_z0 _ (hnf k hk)).symm)
  · intro j e1
    exact (mj_cl100 ht e1 hr).elim
theorem mj_o_newarray (X : mj_X p l e R s m args below meth c own cc ret D dA B nL mc ms Q) {aty : ArrayType} {j t : Nat} {z : Int} (hd : decode cc pc = .ok (.newarray aty, 2)) (hj : j < 4) (hja : newarray.typeOf aty = mj_at j) (hw : Cond.arrayClass (mj_at j) ∈ mj_tb) (ht : t % 1000 = 100 + j) (h0 : 0 ≤ z) (h9 : z ≤ 100000) (h1 : 1 ≤ cb) (h2 : z.toNat ≤ sb)
    (kk : ∀ a, (∀ x, a ≤ x → G x = (0, 0)) → mj_J X (pc + 2) L (.inr (.inr (some a)) :: st) (mj_g G a t z.toNat) (mj_z M a) (cb - 1) (sb - z.toNat)) : mj_J X pc L (.inl z :: st) G M cb sb := by
  intro H locs ls cells slots hH hS hL hst hc hs
  have hz : mj_in z := mj_head hst
  have hm1 : mc ≤ R.cells := X.2.2.2.2.2.2.2.1
  have hm2 : ms ≤ R.slots := X.2.2.2.2.2.2.2.2
  refine W.newa X.1.1 X.1.2.1 (by rw [hja]; exact X.2.1 _ hw) rfl hd rfl (mj_nn hz h0) (by rw [mj_nat hz, hja]; rcases (show j = 0 ∨ j = 1 ∨ j = 2 ∨ j = 3 by omega) with rfl | rfl | rfl | rfl <;> (simp only [mj_at, componentBytes]; omega)) (by omega) (by rw [mj_nat hz]; omega) (fun cA kA comp f1 f2 f3 => ?_)
  rw [hja] at f1
  have hcA : cA = dA j := Option.some.inj (f1.symm.trans (X.2.2.2.1.2.1 j (by omega)).1)
  subst hcA
  rw [mj_nat hz, hja, arrV_new]
  refine kk H.size hH.2.1 _ locs ls (cells + 1) (slots + z.toNat) (hH.push1 (Nat.le_trans X.2.2.2.2.1 hS.1) (by simp) (fun q hq => by simp [Array.getElem?_push, Nat.ne_of_lt hq]) ?_ ?_) (mj_S_up hS (by simp) (fun q hq => by simp [Array.getElem?_push, Nat.ne_of_lt hq])) hL (mj_cons (mj_tl hst) trivial) (by omega) (by omega)
  · intro ci r e1 e2
    exact (mj_cl100 e1 ht e2).elim
  · intro j' e1
    have e3 : j' = j := by omega
    subst e3
    rw [Array.getElem?_push, if_pos rfl]
    congr 2
    funext k
    exact (mj_sv_z0 _ (by rcases (show j' = 0 ∨ j' = 1 ∨ j' = 2 ∨ j' = 3 by omega) with rfl | rfl | rfl | rfl <;> (constructor <;> decide))).symm
/-- behind a call -/
theorem mj_after (X : mj_X p l e R s m args below meth c own cc ret D dA B nL mc ms Q) {H : Heap} {locs : List Loc} {ls : Array Slot} {cells slots mc' ms' : Nat} {st0 : List Value} {a : Array Value} {Q2 : mj_P} (hr : va_Run p l e R s m args below meth c H locs cells slots mc' ms' (F0 m pc ls st0) (st.map mj_val) (mj_Q D dA B Q2 a) (fun q => B ≤ q))
    (hS : va_S (fun q => B ≤ q) s.heap H locs) (hL : mj_LO ls nL L) (hst : ∀ v ∈ st, mj_ok v) (hc : cells + cb ≤ mc) (hs : slots + sb ≤ ms) (h1 : mc' ≤ cb) (h2 : ms' ≤ sb) (kk : ∀ r G M, Q2 r G M → mj_J X (pc + 3) L (mj_ret r st) G M (cb - mc') (sb - ms')) :
    W p l e R s m args below meth c H locs cells slots (MQ below (mj_Q D dA B Q) args s mc ms (fun q => B ≤ q)) (F0 m pc ls st0) := by
  intro T hT XS
  obtain ⟨v, st₀, t, T', L', h0, X', hL', e1, e2, ⟨r, G', M', hv, hq, hok, hH', hK', hz, hk⟩, stp⟩ := hr T hT XS
  obtain rfl : v = r.map mj_val := Outcome.returned.inj hv
  rw [h0] at hz hk
  have hS' : va_S (fun q => B ≤ q) s.heap T'.heap (locs ++ L') := ⟨Nat.le_trans hS.1 (by rw [e1]; exact hz), fun q h1 h2 => by rw [e1, hk q (Nat.lt_of_lt_of_le h1 hS.1) h2]; exact hS.2.1 q h1 h2, fun q hq => by
      rcases List.mem_append.mp hq with h | h
      · exact hS.2.2 q h
      · exact hL' q h⟩
  have hok' : ∀ v ∈ mj_ret r st, mj_ok v := by
    cases r with
    | none => exact hst
    | some v => exact mj_cons hst (hok v rfl)
  obtain ⟨t2, a1, b1⟩ := kk r G' M' hq T'.heap (locs ++ L') ls (cells + mc') (slots + ms') (by rw [e1]; exact hH') hS' hL hok' (by omega) (by omega) T' rfl X'
  refine ⟨t2, stp t2 ?_, b1⟩
  rw [← mj_map_ret] at a1
  exact a1
theorem mj_o_callV (X : mj_X p l e R s m args below meth c own cc ret D dA B nL mc ms Q) {i a t n N ci d maxL mc' ms' : Nat} {y : MethodName} {bytes : ByteArray} {rt : Option FieldType} {As : List mj_V} {Q2 : mj_P} {r : vw_C} (hd : decode cc pc = .ok (.invokevirtual i, 3))
    (hM : Met l y (.code y bytes maxL rt :: mj_tb) (mj_rm d (mc', ms')) (mj_Pc D dA B (.inr (.inr (some a)) :: As) G M) (mj_Q D dA B Q2) mc' ms' (fun q => B ≤ q)) (hR : d + 1 ≤ R.frames ∧ 8 + (maxL + 11) + (100 * d + 100) ≤ R.locals)
    (hr : vwCl[ci]? = some r) (hy : y.cls = r.1) (hy2 : y.cls ≠ "java/lang/invoke/MethodHandle" ∧ y.cls ≠ "java/lang/invoke/VarHandle" ∧ (parseMethodDescriptor y.desc).map (fun d => d.parameters.length) = some N) (hN : As.length = N)
    (hw1 : Cond.methodLink own i y ∈ mj_tb) (hw2 : Cond.instanceMethod y ∈ mj_tb) (hw3 : Cond.selects r.1 y y ∈ mj_tb) (hw4 : Cond.initialized r.1 ∈ mj_tb) (hw5 : Cond.code y bytes maxL rt ∈ mj_tb)
    (hG : G a = (t, n)) (ht : t % 1000 = ci + 1) (h8 : mj_cat st ≤ 8) (h1 : mc' ≤ cb) (h2 : ms' ≤ sb) (kk : ∀ r G M, Q2 r G M → mj_J X (pc + 3) L (mj_ret r st) G M (cb - mc') (sb - ms')) : mj_J X pc L (As.reverse ++ .inr (.inr (some a)) :: st) G M cb sb := by
  intro H locs ls cells slots hH hS hL hst hc hs
  have hm1 : mc ≤ R.cells := X.2.2.2.2.2.2.2.1
  have hm2 : ms ≤ R.slots := X.2.2.2.2.2.2.2.2
  obtain ⟨-, g1, -⟩ := hH.2.2 a t n hG (mj_ne ht)
  obtain ⟨cell, q1, q2, q3, q4⟩ := g1 ci r ht hr
  obtain ⟨hSl, hfc, -⟩ := id (X.2.2.2.1.1 ci r hr)
  have hstA : ∀ v ∈ As, mj_ok v := fun v hv => hst v (List.mem_append_left _ (List.mem_reverse.mpr hv))
  have hst' : ∀ v ∈ st, mj_ok v := fun v hv => hst v (List.mem_append_right _ (List.mem_cons_of_mem _ hv))
  have hgood : GoodIn mj_tb (wsV own i r.1 y (.code y bytes maxL rt :: mj_tb)) := mj_good fun w hw => by
    simp only [wsV, List.cons_append, List.nil_append, List.mem_cons] at hw
    rcases hw with rfl | rfl | rfl | rfl | rfl | hw
    · exact hw1
    · exact hw2
    · exact hw3
    · exact hw4
    · exact hw5
    · exact hw
  refine mj_after X (va_runV (As := As.map mj_val) (rest := st.map mj_val) (b := a) ⟨X.1.1, X.1.2.1, X.1.2.2.1, X.1.2.2.2.2, X.2.1⟩ hM (cwV N X.2.1 hgood rfl rfl rfl ⟨hy, hy2⟩ hR) ⟨mj_blind, ⟨cell, q1, by rw [q3]; rfl, by rw [q2]; exact hfc⟩, fun U hU hW => ⟨rfl, by rw [hU]; exact hH, mj_K.moved hW.alike X.2.2.2.1, mj_cons hstA trivial, by rw [hU]; exact Nat.le_trans X.2.2.2.2.1 hS.1⟩⟩ rfl (by rw [List.length_map]; exact hN) hL.1.1 (by simp [List.map_append, List.map_reverse, mj_val, va_rf]) (by rw [mj_cat_eq]; show 2 * 0 + mj_cat st ≤ 8; omega) hd ⟨by omega, by omega⟩) hS hL hst' hc hs h1 h2 kk
theorem mj_o_callS (X : mj_X p l e R s m args below meth c own cc ret D dA B nL mc ms Q) {i N d maxL mc' ms' : Nat} {y : MethodName} {bytes : ByteArray} {rt : Option FieldType} {As : List mj_V} {Q2 : mj_P} (hd : decode cc pc = .ok (.invokestatic i, 3))
    (hM : Met l y (.code y bytes maxL rt :: mj_tb) (mj_rm d (mc', ms')) (mj_Pc D dA B As G M) (mj_Q D dA B Q2) mc' ms' (fun q => B ≤ q)) (hR : d + 1 ≤ R.frames ∧ 8 + (maxL + 11) + (100 * d + 100) ≤ R.locals)
    (hy2 : y.cls ≠ "java/lang/invoke/MethodHandle" ∧ y.cls ≠ "java/lang/invoke/VarHandle" ∧ (parseMethodDescriptor y.desc).map (fun d => d.parameters.length) = some N) (hN : As.length = N)
    (hw1 : Cond.methodLink own i y ∈ mj_tb) (hw2 : Cond.static y ∈ mj_tb) (hw4 : Cond.initialized y.cls ∈ mj_tb) (hw5 : Cond.code y bytes maxL rt ∈ mj_tb)
    (h8 : mj_cat st ≤ 8) (h1 : mc' ≤ cb) (h2 : ms' ≤ sb) (kk : ∀ r G M, Q2 r G M → mj_J X (pc + 3) L (mj_ret r st) G M (cb - mc') (sb - ms')) : mj_J X pc L (As.reverse ++ st) G M cb sb := by
  intro H locs ls cells slots hH hS hL hst hc hs
  have hm1 : mc ≤ R.cells := X.2.2.2.2.2.2.2.1
  have hm2 : ms ≤ R.slots := X.2.2.2.2.2.2.2.2
  have hstA : ∀ v ∈ As, mj_ok v := fun v hv => hst v (List.mem_append_left _ (List.mem_reverse.mpr hv))
  have hst' : ∀ v ∈ st, mj_ok v := fun v hv => hst v (List.mem_append_right _ hv)
  have hgood : GoodIn mj_tb (va_wsS own i y (.code y bytes maxL rt :: mj_tb)) := mj_good fun w hw => by
    simp only [va_wsS, List.cons_append, List.nil_append, List.mem_cons] at hw
    rcases hw with rfl | rfl | rfl | rfl | hw
    · exact hw1
    · exact hw2
    · exact hw4
    · exact hw5
    · exact hw
  refine mj_after X (va_runS (As := As.map mj_val) (rest := st.map mj_val) ⟨X.1.1, X.1.2.1, X.1.2.2.1, X.1.2.2.2.2, X.2.1⟩ hM (va_cwS N X.2.1 hgood rfl rfl rfl hy2 hR) ⟨mj_blind, fun U hU hW => ⟨rfl, by rw [hU]; exact hH, mj_K.moved hW.alike X.2.2.2.1, hstA, by rw [hU]; exact Nat.le_trans X.2.2.2.2.1 hS.1⟩⟩ rfl (by rw [List.length_map]; exact hN) hL.1.1 (by simp [List.map_append, List.map_reverse]) (by rw [mj_cat_eq]; show 2 * 0 + mj_cat st ≤ 8; omega) hd ⟨by omega, by omega⟩) hS hL hst' hc hs h1 h2 kk
theorem mj_o_callI (X : mj_X p l e R s m args below meth c own cc ret D dA B nL mc ms Q) {i a N d maxL mc' ms' : Nat} {y : MethodName} {bytes : ByteArray} {As : List mj_V} {Q2 : mj_P} (hd : decode cc pc = .ok (.invokespecial i, 3))
    (hM : Met l y (.code y bytes maxL none :: mj_tb) (mj_rm d (mc', ms')) (mj_Pc D dA B (.inr (.inr (some a)) :: As) G M) (mj_Q D dA B Q2) mc' ms' (fun q => B ≤ q)) (hR : d + 1 ≤ R.frames ∧ 8 + (maxL + 11) + (100 * d + 100) ≤ R.locals) (hn : y.name = "<init>")
    (hy2 : y.cls ≠ "java/lang/invoke/MethodHandle" ∧ y.cls ≠ "java/lang/invoke/VarHandle" ∧ (parseMethodDescriptor y.desc).map (fun d => d.parameters.length) = some N) (hN : As.length = N)
    (hw1 : Cond.methodLink own i y ∈ mj_tb) (hw2 : Cond.instanceMethod y ∈ mj_tb) (hw4 : Cond.initialized y.cls ∈ mj_tb) (hw5 : Cond.code y bytes maxL none ∈ mj_tb)
    (h8 : mj_cat st ≤ 8) (h1 : mc' ≤ cb) (h2 : ms' ≤ sb) (kk : ∀ r G M, Q2 r G M → mj_J X (pc + 3) L (mj_ret r st) G M (cb - mc') (sb - ms')) : mj_J X pc L (As.reverse ++ .inr (.inr (some a)) :: st) G M cb sb := by
  intro H locs ls cells slots hH hS hL hst hc hs
  have hm1 : mc ≤ R.cells := X.2.2.2.2.2.2.2.1
  have hm2 : ms ≤ R.slots := X.2.2.2.2.2.2.2.2
  have hstA : ∀ v ∈ As, mj_ok v := fun v hv => hst v (List.mem_append_left _ (List.mem_reverse.mpr hv))
  have hst' : ∀ v ∈ st, mj_ok v := fun v hv => hst v (List.mem_append_right _ (List.mem_cons_of_mem _ hv))
  have hgood : GoodIn mj_tb (.code y bytes maxL none :: mj_tb) := mj_good fun w hw => by
    rcases List.mem_cons.mp hw with rfl | hw
    · exact hw5
    · exact hw
  refine mj_after X (va_runI (As := As.map mj_val) (rest := st.map mj_val) (b := a) ⟨X.1.1, X.1.2.1, X.1.2.2.1, X.1.2.2.2.2, X.2.1⟩ hM (cwI N X.2.1 hgood rfl rfl rfl (X.2.1 _ hw4) (X.2.1 _ hw1) (X.2.1 _ hw2) hn hy2 hR) ⟨mj_blind, fun U hU hW => ⟨rfl, by rw [hU]; exact hH, mj_K.moved hW.alike X.2.2.2.1, mj_cons hstA trivial, by rw [hU]; exact Nat.le_trans X.2.2.2.2.1 hS.1⟩⟩ rfl (by rw [List.length_map]; exact hN) hL.1.1 (by simp [List.map_append, List.map_reverse, mj_val, va_rf]) (by rw [mj_cat_eq]; show 2 * 0 + mj_cat st ≤ 8; omega) hd ⟨by omega, by omega⟩) hS hL hst' hc hs h1 h2 kk
theorem mj_o_objInit (X : mj_X p l e R s m args below meth c own cc ret D dA B nL mc ms Q) {i a : Nat} (hd : decode cc pc = .ok (.invokespecial i, 3)) (hw1 : Cond.methodLink own i objectInit ∈ mj_tb) (hw2 : Cond.instanceMethod objectInit ∈ mj_tb) (hw3 : Cond.code objectInit ⟨#[0xb1]⟩ 1 none ∈ mj_tb) (h8 : mj_cat st ≤ 8)
    (kk : mj_J X (pc + 3) L st G M cb sb) : mj_J X pc L (.inr (.inr (some a)) :: st) G M cb sb := by
  intro H locs ls cells slots hH hS hL hst hc hs
  have hm1 : 1 ≤ R.frames := X.2.2.2.2.2.1
  have hm2 : 100 ≤ R.locals := X.2.2.2.2.2.2.1
  exact W.objInit X.1.1 X.1.2.1 X.1.2.2.2.2 (X.2.1 _ hw1) (X.2.1 _ hw2) (X.2.1 _ hw3) rfl (hL.1.1.trans X.1.2.2.1.symm) rfl hd hm1 (by rw [mj_cat_eq]; show 2 * 0 + mj_cat st + 12 ≤ _; omega) (kk H locs ls cells slots hH hS hL (mj_tl hst) hc hs)
end MJC
end
section
/-! ===== new int[n][k] ===== -/
theorem mj_outer (c : ClassId) (N h0 : Nat) : ∀ i : Nat, Jvm.Free.Multi.outerC c N h0 i = arrV c N (fun j => va_rf (if j < i then some (h0 + 1 + j) else none))
  | 0 => by
    show ({ cls := c, slots := Array.replicate N .null, vm := .none } : Cell) = _
    rw [arrV_new]
    refine congrArg (arrV c N) (funext fun j => ?_)
    simp [va_rf]
  | i + 1 => by
    show (Jvm.Free.Multi.outerC c N h0 i).setSlot i (.ref (h0 + 1 + i)) = _
    rw [mj_outer c N h0 i, arrV_store]
    refine congrArg (arrV c N) (funext fun j => ?_)
    by_cases e : j = i
    · subst e
      simp [updV, va_rf]
    · by_cases h : j < i
      · simp [updV, e, h, Nat.lt_succ_of_lt h]
      · simp [updV, e, h, show ¬ j < i + 1 by omega]
theorem mj_sv_zz {so : Nat} {M : mj_M} {a n x j : Nat} (h : ¬ (a ≤ x ∧ x ≤ a + n)) : mj_sv so (mj_zz M a n) x j = mj_sv so M x j := by
  unfold mj_sv mj_zz
  dsimp only
  rw [if_neg h, if_neg h, if_neg (fun q => h ⟨by omega, by omega⟩), if_neg h]
theorem mj_o_mna {p : Program} {l : Launch} {e : Env} {R : Room} {s : State} {m : MethodId} {args : Array Value} {below : List Frame} {meth : Method} {c : Code} {own : String} {cc : ByteArray} {ret : Option FieldType} {D : va_G} {dA : Nat → ClassId} {B nL mc ms : Nat} {Q : mj_P}
    {pc : Nat} {L : mj_L} {st : List mj_V} {G : mj_G} {M : mj_M} {cb sb : Nat} (X : mj_X p l e R s m args below meth c own cc ret D dA B nL mc ms Q) {i t t2 : Nat} {z y : Int} (hd : decode cc pc = .ok (.multianewarray i 2, 4))
    (hw1 : Cond.classLink own i ("[" ++ (FieldType.array .int).toString) ∈ mj_tb) (hw3 : Cond.arrayClass .int ∈ mj_tb) (ht : t % 1000 = 104) (ht2 : t2 % 1000 = 100) (h0 : 0 ≤ z) (h9 : z ≤ 1000) (y0 : 0 ≤ y) (y9 : y ≤ 1000) (h1 : 1 + y.toNat ≤ cb) (h2 : y.toNat + y.toNat * z.toNat ≤ sb)
    (kk : ∀ a, (∀ x, a ≤ x → G x = (0, 0)) → mj_J X (pc + 4) L (.inr (.inr (some a)) :: st) (mj_gg G a t y.toNat t2 z.toNat) (mj_zz M a y.toNat) (cb - (1 + y.toNat)) (sb - (y.toNat + y.toNat * z.toNat))) : mj_J X pc L (.inl z :: .inl y :: st) G M cb sb := by
  intro H locs ls cells slots hH hS hL hst hc hs
  have hz : mj_in z := mj_head hst
  have hy : mj_in y := mj_head (mj_tl hst)
  have hm1 : mc ≤ R.cells := X.2.2.2.2.2.2.2.1
  have hm2 : ms ≤ R.slots := X.2.2.2.2.2.2.2.2
  intro T hT Xs
  have ez := mj_nat hz
  have ey := mj_nat hy
  obtain ⟨vm₁, cA, comp, -, fA, fC, -, -, X', step⟩ := Xs.multianewarray2F (ty := .int) X.1.1 X.1.2.2.2.2 (X.2.1 _ hw1) X.2.2.2.1.2.2.1 (X.2.1 _ hw3) (g := F0 m pc ls (.int (Int32.ofInt z) :: .int (Int32.ofInt y) :: st.map mj_val)) rfl (by rw [X.1.2.1]; exact hd) rfl (mj_nn hy y0) (mj_nn hz h0)
    (by rw [ey]; omega) (by rw [ez]; simp only [componentBytes]; omega) (by rw [ez]; omega) rfl rfl (by rw [ey]; omega) (by rw [ey, ez]; omega)
  rw [ey, ez] at X' step
  obtain rfl : cA = dA 4 := Option.some.inj (fA.symm.trans (X.2.2.2.1.2.1 4 (by decide)).1)
  obtain rfl : comp = dA 0 := Option.some.inj (fC.symm.trans (X.2.2.2.1.2.1 0 (by decide)).1)
  have hTh : (T.setVm vm₁).heap = H := hT
  obtain ⟨f1, f2, -, -⟩ := Jvm.Free.Multi.fill_facts (T.setVm vm₁) (dA 4) (dA 0) y.toNat z.toNat (defaultValue .int) y.toNat
  have hold : ∀ x : Nat, x < H.size → (Jvm.Free.Multi.fill (T.setVm vm₁) (dA 4) (dA 0) y.toNat z.toNat (defaultValue .int) y.toNat).heap[x]? = H[x]? := fun x hx => by
    have := Jvm.Free.Multi.fill_old (T.setVm vm₁) (dA 4) (dA 0) y.toNat z.toNat (defaultValue .int) (a := x) (by rw [hTh]; exact hx) y.toNat
    rw [hTh] at this
    exact this
  have hrow : ∀ j : Nat, j < y.toNat → (Jvm.Free.Multi.fill (T.setVm vm₁) (dA 4) (dA 0) y.toNat z.toNat (defaultValue .int) y.toNat).heap[H.size + 1 + j]? = some (arrV (dA 0) z.toNat (fun _ => .int 0)) := fun j hj => by
    have := Jvm.Free.Multi.fill_inner (T.setVm vm₁) (dA 4) (dA 0) y.toNat z.toNat (defaultValue .int) y.toNat j hj
    rw [hTh] at this
    rw [this]
    exact congrArg some (arrV_new _ _ _)
  rw [hTh] at f1 f2
  rw [mj_outer] at f2
  generalize Jvm.Free.Multi.fill (T.setVm vm₁) (dA 4) (dA 0) y.toNat z.toNat (defaultValue .int) y.toNat = F at X' step f1 f2 hold hrow
  have hB : B ≤ H.size := Nat.le_trans X.2.2.2.2.1 hS.1
  have hH' : mj_H D dA B (mj_gg G H.size t y.toNat t2 z.toNat) (mj_zz M H.size y.toNat) F.heap := by
    refine ⟨fun a k => ?_, fun x hx => ?_, fun x t' n' hx ht' => ?_⟩
    · unfold mj_zz
      dsimp only
      split
      · exact ⟨by decide, by decide⟩
      · exact hH.1 a k
    · unfold mj_gg
      rw [if_neg (by omega), if_neg (by omega)]
      exact hH.2.1 x (by omega)
    · unfold mj_gg at hx
      split at hx
      · rename_i hxa
        subst hxa
        obtain ⟨rfl, rfl⟩ := Prod.mk.inj hx
        refine ⟨fun _ => hB, fun ci r e1 e2 => (mj_cl100 e1 (show t % 1000 = 100 + 4 from ht) e2).elim, fun j e1 => ?_⟩
        have e3 : j = 4 := by omega
        subst e3
        rw [f2]
        refine congrArg (fun f => some (arrV (dA 4) y.toNat f)) (funext fun k => ?_)
        simp [mj_sv, mj_as, mj_at, mj_fs, mj_zz]
      · split at hx
        · rename_i hxa hxb
          obtain ⟨rfl, rfl⟩ := Prod.mk.inj hx
          refine ⟨fun _ => by omega, fun ci r e1 e2 => (mj_cl100 e1 (show t2 % 1000 = 100 + 0 from ht2) e2).elim, fun j e1 => ?_⟩
          have e3 : j = 0 := by omega
          subst e3
          have := hrow (x - (H.size + 1)) (by omega)
          rw [show H.size + 1 + (x - (H.size + 1)) = x by omega] at this
          rw [this]
          refine congrArg (fun f => some (arrV (dA 0) z.toNat f)) (funext fun k => ?_)
          have hc : H.size ≤ x ∧ x ≤ H.size + y.toNat := ⟨by omega, by omega⟩
          simp only [mj_sv, mj_as, mj_at, mj_fs, mj_zz, if_pos hc]
          rfl
        · rename_i hxa hxb
          have hlt : x < H.size := by
            rcases Nat.lt_or_ge x H.size with q | q
            · exact q
            · have := hH.2.1 x q
              rw [hx] at this
              exact absurd (Prod.mk.inj this).1 ht'
          obtain ⟨hB', g1, g2⟩ := hH.2.2 x t' n' hx ht'
          refine ⟨hB', fun ci r e1 e2 => ((g1 ci r e1 e2).kept (hold x hlt)).to (fun k _ => (mj_sv_zz (by omega)).symm), fun j e1 => ?_⟩
          rw [hold x hlt, g2 j e1]
          refine congrArg (fun f => some (arrV (dA j) n' f)) (funext fun k => ?_)
          exact (mj_sv_zz (by omega)).symm
  obtain ⟨tt, a1, b1⟩ := kk H.size hH.2.1 F.heap locs ls (cells + 1 + y.toNat) (slots + y.toNat + y.toNat * z.toNat) hH' (mj_S_up hS (by omega) hold) hL (mj_cons (mj_tl (mj_tl hst)) trivial) (by omega) (by omega) F rfl X'
  refine ⟨tt, step tt ?_, b1⟩
  have e9 : T.heap.size = H.size := by rw [hT]
  rw [e9]
  exact a1
end
section
/-! ===== arrays of references, switches, Math and the copying of arrays ===== -/
theorem mj_at_o {j : Nat} (h : j = 5 ∨ j = 6) : mj_at j = .object (mj_cn j) := by rcases h with rfl | rfl <;> rfl
theorem mj_as_o {j : Nat} (h : j = 5 ∨ j = 6) : mj_as j = 2 := by rcases h with rfl | rfl <;> rfl
section MJB
variable {p : Program} {l : Launch} {e : Env} {R : Room} {s : State} {m : MethodId} {args : Array Value} {below : List Frame} {meth : Method} {c : Code} {own : String} {cc : ByteArray} {ret : Option FieldType} {D : va_G} {dA : Nat → ClassId} {B nL mc ms : Nat} {Q : mj_P}
variable {pc : Nat} {L : mj_L} {st : List mj_V} {G : mj_G} {M : mj_M} {cb sb : Nat}
theorem mj_o_anew (X : mj_X p l e R s m args below meth c own cc ret D dA B nL mc ms Q) {i j t : Nat} {z : Int} (hd : decode cc pc = .ok (.anewarray i, 3)) (hj : j = 5 ∨ j = 6) (hw : Cond.classLink own i (mj_cn j) ∈ mj_tb) (ht : t % 1000 = 100 + j) (h0 : 0 ≤ z) (h9 : z ≤ 100000) (h1 : 1 ≤ cb) (h2 : z.toNat ≤ sb)
    (kk : ∀ a, (∀ x, a ≤ x → G x = (0, 0)) → mj_J X (pc + 3) L (.inr (.inr (some a)) :: st) (mj_g G a t z.toNat) (mj_z M a) (cb - 1) (sb - z.toNat)) : mj_J X pc L (.inl z :: st) G M cb sb := by
  intro H locs ls cells slots hH hS hL hst hc hs
  have hz : mj_in z := mj_head hst
  have hm1 : mc ≤ R.cells := X.2.2.2.2.2.2.2.1
  have hm2 : ms ≤ R.slots := X.2.2.2.2.2.2.2.2
  refine W.anew X.1.1 X.1.2.1 X.1.2.2.2.2 (X.2.1 _ hw) ((X.2.2.2.1.2.2.2 j hj).1.use) rfl hd rfl (mj_nn hz h0) (by rw [mj_nat hz]; omega) (by omega) (by rw [mj_nat hz]; omega) (fun cA kA comp f1 f2 f3 f4 => ?_)
  have f1 : s.vm.findClass ("[" ++ (mj_at j).toString) = some cA := by rw [mj_at_o hj]; exact f1
  have hcA : cA = dA j := Option.some.inj (f1.symm.trans (X.2.2.2.1.2.1 j (by omega)).1)
  subst hcA
  rw [mj_nat hz, arrV_new]
  refine kk H.size hH.2.1 _ locs ls (cells + 1) (slots + z.toNat) (hH.push1 (Nat.le_trans X.2.2.2.2.1 hS.1) (by simp) (fun q hq => by simp [Array.getElem?_push, Nat.ne_of_lt hq]) ?_ ?_) (mj_S_up hS (by simp) (fun q hq => by simp [Array.getElem?_push, Nat.ne_of_lt hq])) hL (mj_cons (mj_tl hst) trivial) (by omega) (by omega)
  · intro ci r e1 e2
    exact (mj_cl100 e1 ht e2).elim
  · intro j' e1
    have e3 : j' = j := by omega
    subst e3
    rw [Array.getElem?_push, if_pos rfl]
    congr 2
    funext k
    have := mj_sv_z0 (M := M) (a := H.size) (j := k) (mj_at j') (by rw [mj_at_o hj]; constructor <;> (intro q; cases q))
    rw [show mj_as j' = mj_fs (mj_at j') from rfl, this, mj_at_o hj]
    rfl
theorem mj_o_aastore (X : mj_X p l e R s m args below meth c own cc ret D dA B nL mc ms Q) {a t n j : Nat} {i : Int} {z : Option Nat} (hd : decode cc pc = .ok (.aastore, 1)) (hj : j = 5 ∨ j = 6) (hG : G a = (t, n)) (ht : t % 1000 = 100 + j) (hw9 : t < 900000) (h0 : 0 ≤ i) (h1 : i < n) (hb : ∀ b, z = some b → j = 6 ∧ ∃ t' n', G b = (t', n') ∧ t' % 1000 = 7)
    (kk : mj_J X (pc + 1) L st G (mj_p2 M a i.toNat z) cb sb) : mj_J X pc L (.inr (.inr z) :: .inl i :: .inr (.inr (some a)) :: st) G M cb sb := by
  intro H locs ls cells slots hH hS hL hst hc hs
  have hi : mj_in i := mj_head (mj_tl hst)
  obtain ⟨hB, q1, q2⟩ := mj_arr X (by omega) hH hG ht
  have go : ∀ H' : Heap, H'[a]? = some ((arrV (dA j) n (fun k => mj_sv (mj_as j) M a k)).setSlot i.toNat (mj_val (.inr (.inr z)))) → H'.size = H.size → (∀ q, q ≠ a → H'[q]? = H[q]?) → W p l e R s m args below meth c H' (locs ++ [⟨a, i.toNat⟩]) cells slots (MQ below (mj_Q D dA B Q) args s mc ms (fun q => B ≤ q)) (F0 m (pc + 1) ls (st.map mj_val)) := by
    intro H' w1 w2 w3
    exact kk H' _ ls cells slots (hH.ast (v := .inr (.inr z)) hG ht (by rw [mj_as_o hj]; exact mj_u2 hH.1) w1 w2 w3) (hS.put w2 w3 (hB hw9)) hL (mj_tl (mj_tl (mj_tl hst))) hc hs
  cases z with
  | none =>
    rw [mj_at_o hj] at q2
    refine va_WaastN X.1.1 X.1.2.1 q1 q2 (fun q => by cases q) (by rw [arrV_size]; exact mj_idx hi h0 h1) rfl rfl hd (fun H' w1 w2 w3 => ?_)
    rw [mj_nat hi] at w1 ⊢
    exact go H' w1 w2 w3
  | some b =>
    obtain ⟨rfl, t', n', hGb, htb⟩ := hb b rfl
    obtain ⟨-, g1, -⟩ := hH.2.2 b t' n' hGb (mj_ne (k := 6) htb)
    obtain ⟨cellV, c1, c2, c3, -⟩ := g1 6 (RX6, TX6, 4) htb rfl
    have hcls := (X.2.2.2.1.1 6 (RX6, TX6, 4) rfl).2
    obtain ⟨kA, comp, k1, k2, k3, -⟩ := (X.2.2.2.1.2.2.2 6 (Or.inr rfl)).2
    have hcomp : comp = D.1 6 := Option.some.inj (k3.symm.trans hcls.1)
    subst hcomp
    obtain ⟨kC, hkC, -⟩ := hcls.2
    refine W.aast X.1.1 X.1.2.1 q1 (fun q h => by cases h) (fun h => by cases h) k1 k2 rfl hkC ⟨mj_nn hi h0, by rw [arrV_size, mj_nat hi]; omega⟩ c1 (fun q h => by rw [c3] at h; cases h) (by rw [c2]; exact hkC) (by rw [c2]; exact va_assign hcls) rfl rfl hd (fun H' w1 w2 w3 => ?_)
    rw [mj_nat hi] at w1 ⊢
    exact go H' w1 w2 w3
theorem mj_o_switch (X : mj_X p l e R s m args below meth c own cc ret D dA B nL mc ms Q) {df lo hi : Int} {offs : Array Int} {len tg : Nat} {tgs : List Nat} {z : Int} {pcs : Nat → Nat} (hd : decode cc pc = .ok (.tableswitch df lo hi offs, len)) (h0 : (pc : Int) + df = (pcs tg : Int)) (hn : (tgs.length : Int) = hi - lo + 1) (ho : ∀ (k t : Nat), tgs[k]? = some t → ∃ o, offs[k]? = some o ∧ (pc : Int) + o = (pcs t : Int))
    (kd : z < lo ∨ hi < z → mj_J X (pcs tg) L st G M cb sb) (ks : ∀ (k t : Nat), tgs[k]? = some t → z = lo + k → mj_J X (pcs t) L st G M cb sb) : mj_J X pc L (.inl z :: st) G M cb sb := by
  intro H locs ls cells slots hH hS hL hst hc hs
  have hz : mj_in z := mj_head hst
  have ez := mj_ti hz
  by_cases hq : z < lo ∨ hi < z
  · exact lv_tableOut X.1.1 X.1.2.1 hd (by rw [ez]; exact hq) h0 (kd hq H locs ls cells slots hH hS hL (mj_tl hst) hc hs)
  · have hlt : (z - lo).toNat < tgs.length := by omega
    obtain ⟨o, o1, o2⟩ := ho (z - lo).toNat tgs[(z - lo).toNat] (List.getElem?_eq_getElem hlt)
    exact lv_tableIn X.1.1 X.1.2.1 hd (by rw [ez]; omega) (by rw [ez]; omega) (by rw [ez]; exact o1) o2 (ks _ _ (List.getElem?_eq_getElem hlt) (by omega) H locs ls cells slots hH hS hL (mj_tl hst) hc hs)
theorem mj_o_max (X : mj_X p l e R s m args below meth c own cc ret D dA B nL mc ms Q) {i : Nat} {x y : Int} (hd : decode cc pc = .ok (.invokestatic i, 3)) (hw1 : Cond.methodLink own i Lib.Math.max.name ∈ mj_tb) (hw2 : Cond.static Lib.Math.max.name ∈ mj_tb) (hw3 : Cond.initialized "java/lang/Math" ∈ mj_tb) (hw4 : Cond.code Lib.Math.max.name Lib.Math.max.code 2 (some .int) ∈ mj_tb) (h8 : mj_cat st ≤ 8)
    (kk : ∀ z, (x < y → z = y) → (¬ x < y → z = x) → mj_J X (pc + 3) L (.inl z :: st) G M cb sb) : mj_J X pc L (.inl y :: .inl x :: st) G M cb sb := by
  intro H locs ls cells slots hH hS hL hst hc hs
  have hy : mj_in y := mj_head hst
  have hx : mj_in x := mj_head (mj_tl hst)
  have hm : 1 ≤ R.frames ∧ 100 ≤ R.locals ∧ mc ≤ R.cells ∧ ms ≤ R.slots := X.2.2.2.2.2
  refine va_mmax X.1.1 X.1.2.1 (X.1.2.2.1.trans hL.1.1.symm) X.1.2.2.2.2 (X.2.1 _ hw1) (X.2.1 _ hw2) (X.2.1 _ hw3) (X.2.1 _ hw4) hm.1 (by rw [mj_cat_eq]; omega) (by omega) (by omega) hd ?_
  by_cases q : x < y
  · rw [if_pos ((mj_lt hx hy).mpr q)]
    exact kk y (fun _ => rfl) (fun z => absurd q z) H locs ls cells slots hH hS hL (mj_cons (mj_tl (mj_tl hst)) hy) hc hs
  · rw [if_neg (fun z => q ((mj_lt hx hy).mp z))]
    exact kk x (fun z => absurd z q) (fun _ => rfl) H locs ls cells slots hH hS hL (mj_cons (mj_tl (mj_tl hst)) hx) hc hs
theorem mj_o_min (X : mj_X p l e R s m args below meth c own cc ret D dA B nL mc ms Q) {i : Nat} {x y : Int} (hd : decode cc pc = .ok (.invokestatic i, 3)) (hw1 : Cond.methodLink own i Lib.Math.min.name ∈ mj_tb) (hw2 : Cond.static Lib.Math.min.name ∈ mj_tb) (hw3 : Cond.initialized "java/lang/Math" ∈ mj_tb) (hw4 : Cond.code Lib.Math.min.name Lib.Math.min.code 2 (some .int) ∈ mj_tb) (h8 : mj_cat st ≤ 8)
    (kk : ∀ z, (y < x → z = y) → (¬ y < x → z = x) → mj_J X (pc + 3) L (.inl z :: st) G M cb sb) : mj_J X pc L (.inl y :: .inl x :: st) G M cb sb := by
  intro H locs ls cells slots hH hS hL hst hc hs
  have hy : mj_in y := mj_head hst
  have hx : mj_in x := mj_head (mj_tl hst)
  have hm : 1 ≤ R.frames ∧ 100 ≤ R.locals ∧ mc ≤ R.cells ∧ ms ≤ R.slots := X.2.2.2.2.2
  refine va_mmin X.1.1 X.1.2.1 (X.1.2.2.1.trans hL.1.1.symm) X.1.2.2.2.2 (X.2.1 _ hw1) (X.2.1 _ hw2) (X.2.1 _ hw3) (X.2.1 _ hw4) hm.1 (by rw [mj_cat_eq]; omega) (by omega) (by omega) hd ?_
  by_cases q : y < x
  · rw [if_pos ((mj_lt hy hx).mpr q)]
    exact kk y (fun _ => rfl) (fun z => absurd q z) H locs ls cells slots hH hS hL (mj_cons (mj_tl (mj_tl hst)) hy) hc hs
  · rw [if_neg (fun z => q ((mj_lt hy hx).mp z))]
    exact kk x (fun z => absurd z q) (fun _ => rfl) H locs ls cells slots hH hS hL (mj_cons (mj_tl (mj_tl hst)) hx) hc hs
theorem mj_o_abs (X : mj_X p l e R s m args below meth c own cc ret D dA B nL mc ms Q) {i : Nat} {x : Int} (hd : decode cc pc = .ok (.invokestatic i, 3)) (hw1 : Cond.methodLink own i Lib.Math.abs.name ∈ mj_tb) (hw2 : Cond.static Lib.Math.abs.name ∈ mj_tb) (hw3 : Cond.initialized "java/lang/Math" ∈ mj_tb) (hw4 : Cond.code Lib.Math.abs.name Lib.Math.abs.code 1 (some .int) ∈ mj_tb) (h8 : mj_cat st ≤ 8)
    (kk : ∀ z, mj_in z → (0 ≤ x → z = x) → (x < 0 → x ≠ -2147483648 → z = -x) → mj_J X (pc + 3) L (.inl z :: st) G M cb sb) : mj_J X pc L (.inl x :: st) G M cb sb := by
  intro H locs ls cells slots hH hS hL hst hc hs
  have hx : mj_in x := mj_head hst
  have hm : 1 ≤ R.frames ∧ 100 ≤ R.locals ∧ mc ≤ R.cells ∧ ms ≤ R.slots := X.2.2.2.2.2
  have h0 : mj_in 0 := ⟨by decide, by decide⟩
  refine va_mabs X.1.1 X.1.2.1 (X.1.2.2.1.trans hL.1.1.symm) X.1.2.2.2.2 (X.2.1 _ hw1) (X.2.1 _ hw2) (X.2.1 _ hw3) (X.2.1 _ hw4) hm.1 (by rw [mj_cat_eq]; omega) (by omega) (by omega) hd ?_
  by_cases q : 0 ≤ x
  · rw [if_pos (show (0 : Int32) ≤ Int32.ofInt x from (mj_le h0 hx).mpr q)]
    exact kk x hx (fun _ => rfl) (fun z => absurd z (by omega)) H locs ls cells slots hH hS hL (mj_cons (mj_tl hst) hx) hc hs
  · rw [if_neg (show ¬ (0 : Int32) ≤ Int32.ofInt x from fun z => q ((mj_le h0 hx).mp z))]
    have e1 : (0 : Int32) - Int32.ofInt x = Int32.ofInt (0 - x) := (Int32.ofInt_sub 0 x).symm
    have g := kk _ (mj_rng ((0 : Int32) - Int32.ofInt x)) (fun z => absurd z q) (fun h1 h2 => by
      rw [e1, mj_ti (show mj_in (0 - x) from ⟨by have := hx.2; omega, by have := hx.1; omega⟩)]; omega) H locs ls cells slots hH hS hL (mj_cons (mj_tl hst) (mj_rng _)) hc hs
    simp only [List.map_cons, mj_val, mj_it] at g
    exact g
theorem mj_sv_cp0 {so : Nat} {M : mj_M} {a b sp dp n x j : Nat} (h : x ≠ b) : mj_sv so (mj_cp0 M a b sp dp n) x j = mj_sv so M x j := by
  unfold mj_sv mj_cp0
  dsimp only
  rw [if_neg (fun q => h q.1)]
theorem mj_sv_cp1 {so : Nat} {M : mj_M} {a b sp dp n x j : Nat} (h : x ≠ b) : mj_sv so (mj_cp1 M a b sp dp n) x j = mj_sv so M x j := by
  unfold mj_sv mj_cp1
  dsimp only
  rw [if_neg (fun q => h q.1)]
theorem mj_cp0_at {M : mj_M} {a b sp dp n k : Nat} : mj_sv 0 (mj_cp0 M a b sp dp n) b k = if dp ≤ k ∧ k < dp + n then mj_sv 0 M a (sp + (k - dp)) else mj_sv 0 M b k := by
  unfold mj_sv mj_cp0
  dsimp only
  by_cases h : dp ≤ k ∧ k < dp + n
  · rw [if_pos ⟨rfl, h⟩, if_pos h]; rfl
  · rw [if_neg (fun q => h q.2), if_neg h]
theorem mj_o_copy0 (X : mj_X p l e R s m args below meth c own cc ret D dA B nL mc ms Q) {i a b ta na tb nb : Nat} {sp dp n : Int} (hd : decode cc pc = .ok (.invokestatic i, 3)) (hw1 : Cond.methodLink own i arraycopyName ∈ mj_tb) (hw2 : Cond.native arraycopyName ∈ mj_tb) (hw3 : Cond.static arraycopyName ∈ mj_tb) (hw4 : Cond.initialized "java/lang/System" ∈ mj_tb) (h8 : mj_cat st ≤ 8)
    (hGa : G a = (ta, na)) (hta : ta % 1000 = 100 + 0) (hGb : G b = (tb, nb)) (htb : tb % 1000 = 100 + 0) (hw9 : tb < 900000) (h1 : 0 ≤ sp) (h2 : 0 ≤ dp) (h3 : 0 ≤ n) (h4 : sp + n ≤ na) (h5 : dp + n ≤ nb)
    (kk : mj_J X (pc + 3) L st G (mj_cp0 M a b sp.toNat dp.toNat n.toNat) cb sb) : mj_J X pc L (.inl n :: .inl dp :: .inr (.inr (some b)) :: .inl sp :: .inr (.inr (some a)) :: st) G M cb sb := by
  intro H locs ls cells slots hH hS hL hst hc hs
  have hn : mj_in n := mj_head hst
  have hdp : mj_in dp := mj_head (mj_tl hst)
  have hsp : mj_in sp := mj_head (mj_tl (mj_tl (mj_tl hst)))
  have hm : 1 ≤ R.frames ∧ 100 ≤ R.locals ∧ mc ≤ R.cells ∧ ms ≤ R.slots := X.2.2.2.2.2
  obtain ⟨-, qa1, qa2⟩ := mj_arr X (by decide) hH hGa hta
  obtain ⟨hB, qb1, qb2⟩ := mj_arr X (by decide) hH hGb htb
  obtain ⟨-, k0, hk0, cm0, hkk0⟩ := qa2
  obtain ⟨-, k1, hk1, cm1, hkk1⟩ := qb2
  have en := mj_nat hn
  have ed := mj_nat hdp
  have es := mj_nat hsp
  have e5 : nativeFrameWords "java/lang/System" "arraycopy" 5 ≤ 50 := by decide
  intro T hT XS
  obtain ⟨vm', X', step⟩ := XS.arraycopy X.1.1 X.1.2.2.2.2 (X.2.1 _ hw1) (X.2.1 _ hw2) (X.2.1 _ hw3) (X.2.1 _ hw4) (src := a) (dst := b) (cs := arrV (dA 0) na (fun k => mj_sv (mj_as 0) M a k)) (cd := arrV (dA 0) nb (fun k => mj_sv (mj_as 0) M b k)) (srcPos := Int32.ofInt sp) (destPos := Int32.ofInt dp) (n := Int32.ofInt n) (by rw [hT]; exact qa1) (by rw [hT]; exact qb1)
    (fun _ h => by cases h) (fun _ h => by cases h) (fun h => by cases h) (fun h => by cases h) hk0 hk1 hkk0 hkk1 (by simp [mj_at, refKind]) (mj_nn hsp h1) (mj_nn hdp h2) (mj_nn hn h3)
    (by rw [mj_ti hsp, mj_ti hn, arrV_size]; omega) (by rw [mj_ti hdp, mj_ti hn, arrV_size]; omega)
    (fun vm₁ _ i hi => by
      have e : (arrV (dA 0) na (fun k => mj_sv (mj_as 0) M a k)).slots.getD ((Int32.ofInt sp).toNatClampNeg + i) .null = mj_sv (mj_as 0) M a ((Int32.ofInt sp).toNatClampNeg + i) := by
        rw [Array.getD_eq_getD_getElem?, arrV_read _ _ (by rw [es]; rw [en] at hi; omega)]
        rfl
      refine ⟨?_, ?_⟩
      · rw [e]; rfl
      · rw [e]; exact trivial)
    (g := F0 m pc ls (.int (Int32.ofInt n) :: .int (Int32.ofInt dp) :: .ref b :: .int (Int32.ofInt sp) :: .ref a :: st.map mj_val)) rfl (hL.1.1.trans X.1.2.2.1.symm) (rest := st.map mj_val) rfl (by rw [X.1.2.1]; exact hd) hm.1 (by rw [mj_cat_eq]; show 2 * 0 + _ + _ ≤ _; omega)
  have ec : copied (arrV (dA 0) na (fun k => mj_sv (mj_as 0) M a k)) (arrV (dA 0) nb (fun k => mj_sv (mj_as 0) M b k)) (Int32.ofInt sp) (Int32.ofInt dp) (Int32.ofInt n) = arrV (dA 0) nb (fun k => mj_sv (mj_as 0) (mj_cp0 M a b sp.toNat dp.toNat n.toNat) b k) := by
    refine (va_copied (fun z : Value => z) (dA 0) (dA 0) (fun k => mj_sv (mj_as 0) M a k) (fun k => mj_sv (mj_as 0) M b k) (by rw [es, en]; omega)).trans ?_
    congr 1
    funext k
    rw [es, ed, en]
    exact mj_cp0_at.symm
  rw [ec] at X' step
  have hlt : b < H.size := (Array.getElem?_eq_some_iff.mp qb1).1
  generalize hcell : arrV (dA 0) nb (fun k => mj_sv (mj_as 0) (mj_cp0 M a b sp.toNat dp.toNat n.toNat) b k) = cell at X' step
  have hheap : ((T.setVm vm').setCell b cell).heap = H.setIfInBounds b cell := by rw [← hT]; rfl
  have oq : ∀ q : Nat, q ≠ b → (H.setIfInBounds b cell)[q]? = H[q]? := fun q hq => by simp [Array.getElem?_setIfInBounds, Ne.symm hq]
  have hH' : mj_H D dA B G (mj_cp0 M a b sp.toNat dp.toNat n.toNat) (H.setIfInBounds b cell) := by
    refine hH.set hGb (by simp) oq (fun x j => ?_) (fun so x j hx => mj_sv_cp0 hx) (fun ci r e1 e2 => (mj_cl100 e1 htb e2).elim) (fun j e1 => ?_)
    · unfold mj_cp0
      dsimp only
      split
      · exact hH.1 _ _
      · exact hH.1 _ _
    · have e3 : j = 0 := by omega
      subst e3
      rw [hcell]
      simp [Array.getElem?_setIfInBounds, hlt]
  obtain ⟨t, a1, b1⟩ := kk _ _ ls cells slots hH' ⟨by simp; exact hS.1, fun q g1 g2 => by
      rw [oq q (fun e => g2 (by rw [e]; exact hB hw9))]
      exact hS.2.1 q g1 g2, fun q hq => by
      rcases List.mem_append.mp hq with h | h
      · exact hS.2.2 q h
      · obtain ⟨z, -, hz⟩ := List.mem_map.mp h
        rw [← hz]
        exact hB hw9⟩ hL (mj_tl (mj_tl (mj_tl (mj_tl (mj_tl hst))))) hc hs _ hheap X'
  exact ⟨t, step t a1, b1⟩
theorem mj_cp1_at {M : mj_M} {a b sp dp n k : Nat} : mj_sv 1 (mj_cp1 M a b sp dp n) b k = if dp ≤ k ∧ k < dp + n then mj_sv 1 M a (sp + (k - dp)) else mj_sv 1 M b k := by
  unfold mj_sv mj_cp1
  dsimp only
  by_cases h : dp ≤ k ∧ k < dp + n
  · rw [if_pos ⟨rfl, h⟩, if_pos h]; rfl
  · rw [if_neg (fun q => h q.2), if_neg h]
theorem mj_o_copy1 (X : mj_X p l e R s m args below meth c own cc ret D dA B nL mc ms Q) {i a b ta na tb nb : Nat} {sp dp n : Int} (hd : decode cc pc = .ok (.invokestatic i, 3)) (hw1 : Cond.methodLink own i arraycopyName ∈ mj_tb) (hw2 : Cond.native arraycopyName ∈ mj_tb) (hw3 : Cond.static arraycopyName ∈ mj_tb) (hw4 : Cond.initialized "java/lang/System" ∈ mj_tb) (h8 : mj_cat st ≤ 8)
    (hGa : G a = (ta, na)) (hta : ta % 1000 = 100 + 3) (hGb : G b = (tb, nb)) (htb : tb % 1000 = 100 + 3) (hw9 : tb < 900000) (h1 : 0 ≤ sp) (h2 : 0 ≤ dp) (h3 : 0 ≤ n) (h4 : sp + n ≤ na) (h5 : dp + n ≤ nb)
    (kk : mj_J X (pc + 3) L st G (mj_cp1 M a b sp.toNat dp.toNat n.toNat) cb sb) : mj_J X pc L (.inl n :: .inl dp :: .inr (.inr (some b)) :: .inl sp :: .inr (.inr (some a)) :: st) G M cb sb := by
  intro H locs ls cells slots hH hS hL hst hc hs
  have hn : mj_in n := mj_head hst
  have hdp : mj_in dp := mj_head (mj_tl hst)
  have hsp : mj_in sp := mj_head (mj_tl (mj_tl (mj_tl hst)))
  have hm : 1 ≤ R.frames ∧ 100 ≤ R.locals ∧ mc ≤ R.cells ∧ ms ≤ R.slots := X.2.2.2.2.2
  obtain ⟨-, qa1, qa2⟩ := mj_arr X (by decide) hH hGa hta
  obtain ⟨hB, qb1, qb2⟩ := mj_arr X (by decide) hH hGb htb
  obtain ⟨-, k0, hk0, cm0, hkk0⟩ := qa2
  obtain ⟨-, k1, hk1, cm1, hkk1⟩ := qb2
  have en := mj_nat hn
  have ed := mj_nat hdp
  have es := mj_nat hsp
  have e5 : nativeFrameWords "java/lang/System" "arraycopy" 5 ≤ 50 := by decide
  intro T hT XS
  obtain ⟨vm', X', step⟩ := XS.arraycopy X.1.1 X.1.2.2.2.2 (X.2.1 _ hw1) (X.2.1 _ hw2) (X.2.1 _ hw3) (X.2.1 _ hw4) (src := a) (dst := b) (cs := arrV (dA 3) na (fun k => mj_sv (mj_as 3) M a k)) (cd := arrV (dA 3) nb (fun k => mj_sv (mj_as 3) M b k)) (srcPos := Int32.ofInt sp) (destPos := Int32.ofInt dp) (n := Int32.ofInt n) (by rw [hT]; exact qa1) (by rw [hT]; exact qb1)
    (fun _ h => by cases h) (fun _ h => by cases h) (fun h => by cases h) (fun h => by cases h) hk0 hk1 hkk0 hkk1 (by simp [mj_at, refKind]) (mj_nn hsp h1) (mj_nn hdp h2) (mj_nn hn h3)
    (by rw [mj_ti hsp, mj_ti hn, arrV_size]; omega) (by rw [mj_ti hdp, mj_ti hn, arrV_size]; omega)
    (fun vm₁ _ i hi => by
      have e : (arrV (dA 3) na (fun k => mj_sv (mj_as 3) M a k)).slots.getD ((Int32.ofInt sp).toNatClampNeg + i) .null = mj_sv (mj_as 3) M a ((Int32.ofInt sp).toNatClampNeg + i) := by
        rw [Array.getD_eq_getD_getElem?, arrV_read _ _ (by rw [es]; rw [en] at hi; omega)]
        rfl
      refine ⟨?_, ?_⟩
      · rw [e]; rfl
      · rw [e]; exact trivial)
    (g := F0 m pc ls (.int (Int32.ofInt n) :: .int (Int32.ofInt dp) :: .ref b :: .int (Int32.ofInt sp) :: .ref a :: st.map mj_val)) rfl (hL.1.1.trans X.1.2.2.1.symm) (rest := st.map mj_val) rfl (by rw [X.1.2.1]; exact hd) hm.1 (by rw [mj_cat_eq]; show 2 * 0 + _ + _ ≤ _; omega)
  have ec : copied (arrV (dA 3) na (fun k => mj_sv (mj_as 3) M a k)) (arrV (dA 3) nb (fun k => mj_sv (mj_as 3) M b k)) (Int32.ofInt sp) (Int32.ofInt dp) (Int32.ofInt n) = arrV (dA 3) nb (fun k => mj_sv (mj_as 3) (mj_cp1 M a b sp.toNat dp.toNat n.toNat) b k) := by
    refine (va_copied (fun z : Value => z) (dA 3) (dA 3) (fun k => mj_sv (mj_as 3) M a k) (fun k => mj_sv (mj_as 3) M b k) (by rw [es, en]; omega)).trans ?_
    congr 1
    funext k
    rw [es, ed, en]
    exact mj_cp1_at.symm
  rw [ec] at X' step
  have hlt : b < H.size := (Array.getElem?_eq_some_iff.mp qb1).1
  generalize hcell : arrV (dA 3) nb (fun k => mj_sv (mj_as 3) (mj_cp1 M a b sp.toNat dp.toNat n.toNat) b k) = cell at X' step
  have hheap : ((T.setVm vm').setCell b cell).heap = H.setIfInBounds b cell := by rw [← hT]; rfl
  have oq : ∀ q : Nat, q ≠ b → (H.setIfInBounds b cell)[q]? = H[q]? := fun q hq => by simp [Array.getElem?_setIfInBounds, Ne.symm hq]
  have hH' : mj_H D dA B G (mj_cp1 M a b sp.toNat dp.toNat n.toNat) (H.setIfInBounds b cell) := by
    refine hH.set hGb (by simp) oq (fun x j => ?_) (fun so x j hx => mj_sv_cp1 hx) (fun ci r e1 e2 => (mj_cl100 e1 htb e2).elim) (fun j e1 => ?_)
    · exact hH.1 x j
    · have e3 : j = 3 := by omega
      subst e3
      rw [hcell]
      simp [Array.getElem?_setIfInBounds, hlt]
  obtain ⟨t, a1, b1⟩ := kk _ _ ls cells slots hH' ⟨by simp; exact hS.1, fun q g1 g2 => by
      rw [oq q (fun e => g2 (by rw [e]; exact hB hw9))]
      exact hS.2.1 q g1 g2, fun q hq => by
      rcases List.mem_append.mp hq with h | h
      · exact hS.2.2 q h
      · obtain ⟨z, -, hz⟩ := List.mem_map.mp h
        rw [← hz]
        exact hB hw9⟩ hL (mj_tl (mj_tl (mj_tl (mj_tl (mj_tl hst))))) hc hs _ hheap X'
  exact ⟨t, step t a1, b1⟩
end MJB
end
section
/-! ===== the words by numbers, laid by a program ===== -/
theorem mj_condw {P : Cond → Prop} {b : Bool} {x z : Cond} (h1 : P x) (h2 : P z) : P (cond b x z) := by cases b <;> assumption
theorem mj_t1 {i : Nat} {w : Cond} (h : tables_1_1[i]? = some w) (hg : goodWord w = true) : w ∈ mj_tb := List.mem_filter.mpr ⟨List.mem_append_right _ (List.mem_append_left _ (List.mem_of_getElem? h)), hg⟩
theorem mj_t2 {i : Nat} {w : Cond} (h : tables_1_2[i]? = some w) (hg : goodWord w = true) : w ∈ mj_tb := List.mem_filter.mpr ⟨List.mem_append_right _ (List.mem_append_right _ (List.mem_append_left _ (List.mem_of_getElem? h))), hg⟩
theorem mj_t3 {i : Nat} {w : Cond} (h : tables_1_3[i]? = some w) (hg : goodWord w = true) : w ∈ mj_tb := List.mem_filter.mpr ⟨List.mem_append_right _ (List.mem_append_right _ (List.mem_append_right _ (List.mem_append_left _ (List.mem_of_getElem? h)))), hg⟩
theorem mj_t4 {i : Nat} {w : Cond} (h : tables_1_4[i]? = some w) (hg : goodWord w = true) : w ∈ mj_tb := List.mem_filter.mpr ⟨List.mem_append_right _ (List.mem_append_right _ (List.mem_append_right _ (List.mem_append_right _ (List.mem_append_left _ (List.mem_of_getElem? h))))), hg⟩
theorem mj_t5 {i : Nat} {w : Cond} (h : tables_1_5[i]? = some w) (hg : goodWord w = true) : w ∈ mj_tb := List.mem_filter.mpr ⟨List.mem_append_right _ (List.mem_append_right _ (List.mem_append_right _ (List.mem_append_right _ (List.mem_append_right _ (List.mem_append_left _ (List.mem_of_getElem? h)))))), hg⟩
theorem mj_t6 {i : Nat} {w : Cond} (h : tables_1_6[i]? = some w) (hg : goodWord w = true) : w ∈ mj_tb := List.mem_filter.mpr ⟨List.mem_append_right _ (List.mem_append_right _ (List.mem_append_right _ (List.mem_append_right _ (List.mem_append_right _ (List.mem_append_right _ (List.mem_append_left _ (List.mem_of_getElem? h))))))), hg⟩
theorem mj_t7 {i : Nat} {w : Cond} (h : tables_1_7[i]? = some w) (hg : goodWord w = true) : w ∈ mj_tb := List.mem_filter.mpr ⟨List.mem_append_right _ (List.mem_append_right _ (List.mem_append_right _ (List.mem_append_right _ (List.mem_append_right _ (List.mem_append_right _ (List.mem_append_right _ (List.mem_append_left _ (List.mem_of_getElem? h)))))))), hg⟩
theorem mj_t8 {i : Nat} {w : Cond} (h : tables_1_8[i]? = some w) (hg : goodWord w = true) : w ∈ mj_tb := List.mem_filter.mpr ⟨List.mem_append_right _ (List.mem_append_right _ (List.mem_append_right _ (List.mem_append_right _ (List.mem_append_right _ (List.mem_append_right _ (List.mem_append_right _ (List.mem_append_right _ (List.mem_append_left _ (List.mem_of_getElem? h))))))))), hg⟩
theorem mj_t9 {i : Nat} {w : Cond} (h : tables_1_9[i]? = some w) (hg : goodWord w = true) : w ∈ mj_tb := List.mem_filter.mpr ⟨List.mem_append_right _ (List.mem_append_right _ (List.mem_append_right _ (List.mem_append_right _ (List.mem_append_right _ (List.mem_append_right _ (List.mem_append_right _ (List.mem_append_right _ (List.mem_append_right _ (List.mem_of_getElem? h))))))))), hg⟩
theorem mj_q1 {i : Nat} {q : MethodName × Nat} {w : Cond} (h : lw_privs_1[i]? = some q) (e : Cond.selects q.1.cls q.1 q.1 = w) (hg : goodWord w = true) : w ∈ mj_tb := List.mem_filter.mpr ⟨List.mem_append_left _ (List.mem_map.mpr ⟨q, List.mem_append_left _ (List.mem_of_getElem? h), e⟩), hg⟩
theorem mj_q2 {i : Nat} {q : MethodName × Nat} {w : Cond} (h : lw_privs_2[i]? = some q) (e : Cond.selects q.1.cls q.1 q.1 = w) (hg : goodWord w = true) : w ∈ mj_tb := List.mem_filter.mpr ⟨List.mem_append_left _ (List.mem_map.mpr ⟨q, List.mem_append_right _ (List.mem_append_left _ (List.mem_of_getElem? h)), e⟩), hg⟩
theorem mj_q3 {i : Nat} {q : MethodName × Nat} {w : Cond} (h : lw_privs_3[i]? = some q) (e : Cond.selects q.1.cls q.1 q.1 = w) (hg : goodWord w = true) : w ∈ mj_tb := List.mem_filter.mpr ⟨List.mem_append_left _ (List.mem_map.mpr ⟨q, List.mem_append_right _ (List.mem_append_right _ (List.mem_append_left _ (List.mem_of_getElem? h))), e⟩), hg⟩
theorem mj_q4 {i : Nat} {q : MethodName × Nat} {w : Cond} (h : lw_privs_4[i]? = some q) (e : Cond.selects q.1.cls q.1 q.1 = w) (hg : goodWord w = true) : w ∈ mj_tb := List.mem_filter.mpr ⟨List.mem_append_left _ (List.mem_map.mpr ⟨q, List.mem_append_right _ (List.mem_append_right _ (List.mem_append_right _ (List.mem_append_left _ (List.mem_of_getElem? h)))), e⟩), hg⟩
theorem mj_q5 {i : Nat} {q : MethodName × Nat} {w : Cond} (h : lw_privs_5[i]? = some q) (e : Cond.selects q.1.cls q.1 q.1 = w) (hg : goodWord w = true) : w ∈ mj_tb := List.mem_filter.mpr ⟨List.mem_append_left _ (List.mem_map.mpr ⟨q, List.mem_append_right _ (List.mem_append_right _ (List.mem_append_right _ (List.mem_append_right _ (List.mem_append_left _ (List.mem_of_getElem? h))))), e⟩), hg⟩
theorem mj_q6 {i : Nat} {q : MethodName × Nat} {w : Cond} (h : lw_privs_6[i]? = some q) (e : Cond.selects q.1.cls q.1 q.1 = w) (hg : goodWord w = true) : w ∈ mj_tb := List.mem_filter.mpr ⟨List.mem_append_left _ (List.mem_map.mpr ⟨q, List.mem_append_right _ (List.mem_append_right _ (List.mem_append_right _ (List.mem_append_right _ (List.mem_append_right _ (List.mem_append_left _ (List.mem_of_getElem? h)))))), e⟩), hg⟩
theorem mj_q7 {i : Nat} {q : MethodName × Nat} {w : Cond} (h : lw_privs_7[i]? = some q) (e : Cond.selects q.1.cls q.1 q.1 = w) (hg : goodWord w = true) : w ∈ mj_tb := List.mem_filter.mpr ⟨List.mem_append_left _ (List.mem_map.mpr ⟨q, List.mem_append_right _ (List.mem_append_right _ (List.mem_append_right _ (List.mem_append_right _ (List.mem_append_right _ (List.mem_append_right _ (List.mem_of_getElem? h)))))), e⟩), hg⟩
abbrev ww_0 : Cond := .methodLink RX0 3 objectInit
theorem wi_0 : ww_0 ∈ mj_tb := mj_t2 (i := 95) rfl rfl
abbrev ww_1 : Cond := .arrayClass .int
theorem wi_1 : ww_1 ∈ mj_tb := mj_t1 (i := 169) rfl rfl
abbrev ww_2 : Cond := .fieldLink RX0 9 "RentRiver$Cheapest" "plan" "[I"
theorem wi_2 : ww_2 ∈ mj_tb := mj_t2 (i := 97) rfl rfl
abbrev ww_3 : Cond := .fieldLink RX0 15 "RentRiver$Cheapest" "done" "Z"
theorem wi_3 : ww_3 ∈ mj_tb := mj_t2 (i := 99) rfl rfl
abbrev ww_4 : Cond := .fieldLink RX0 19 "RentRiver$Cheapest" "planned" "I"
theorem wi_4 : ww_4 ∈ mj_tb := mj_t2 (i := 101) rfl rfl
abbrev ww_5 : Cond := .fieldLink RX0 23 "RentRiver$Cheapest" "solved" "I"
theorem wi_5 : ww_5 ∈ mj_tb := mj_t2 (i := 103) rfl rfl
abbrev ww_6 : Cond := .fieldLink RX0 26 "RentRiver$Cheapest" "answer" "I"
theorem wi_6 : ww_6 ∈ mj_tb := mj_t2 (i := 104) rfl rfl
abbrev ww_7 : Cond := .fieldLink RX0 29 "RentRiver$Cheapest" "towns" "I"
theorem wi_7 : ww_7 ∈ mj_tb := mj_t2 (i := 105) rfl rfl
abbrev ww_8 : Cond := .fieldLink RX0 32 "RentRiver$Cheapest" "move" "I"
theorem wi_8 : ww_8 ∈ mj_tb := mj_t2 (i := 106) rfl rfl
abbrev ww_9 : Cond := .fieldLink RX0 35 "RentRiver$Cheapest" "bridges" "[I"
theorem wi_9 : ww_9 ∈ mj_tb := mj_t2 (i := 107) rfl rfl
abbrev ww_10 : Cond := .fieldLink RX0 38 "RentRiver$Cheapest" "lacks" "[I"
theorem wi_10 : ww_10 ∈ mj_tb := mj_t2 (i := 108) rfl rfl
abbrev ww_11 : Cond := .classLink RX0 41 "[[I"
theorem wi_11 : ww_11 ∈ mj_tb := mj_t2 (i := 96) rfl rfl
abbrev ww_12 : Cond := .fieldLink RX0 43 "RentRiver$Cheapest" "gains" "[[I"
theorem wi_12 : ww_12 ∈ mj_tb := mj_t2 (i := 109) rfl rfl
abbrev ww_13 : Cond := .fieldLink RX0 46 "RentRiver$Cheapest" "rest" "[[I"
theorem wi_13 : ww_13 ∈ mj_tb := mj_t2 (i := 110) rfl rfl
abbrev ww_14 : Cond := .fieldLink RX0 49 "RentRiver$Cheapest" "restBest" "[I"
theorem wi_14 : ww_14 ∈ mj_tb := mj_t2 (i := 111) rfl rfl
abbrev ww_15 : Cond := .fieldLink RX0 52 "RentRiver$Cheapest" "tailGains" "[[I"
theorem wi_15 : ww_15 ∈ mj_tb := mj_t2 (i := 112) rfl rfl
abbrev ww_16 : Cond := .fieldLink RX0 55 "RentRiver$Cheapest" "tailCosts" "[I"
theorem wi_16 : ww_16 ∈ mj_tb := mj_t2 (i := 113) rfl rfl
abbrev ww_17 : Cond := .fieldLink RX0 58 "RentRiver$Cheapest" "tailTowns" "[I"
theorem wi_17 : ww_17 ∈ mj_tb := mj_t2 (i := 114) rfl rfl
abbrev ww_18 : Cond := .fieldLink RX0 61 "RentRiver$Cheapest" "tails" "I"
theorem wi_18 : ww_18 ∈ mj_tb := mj_t2 (i := 115) rfl rfl
abbrev ww_19 : Cond := .fieldLink RX0 64 "RentRiver$Cheapest" "path" "[I"
theorem wi_19 : ww_19 ∈ mj_tb := mj_t2 (i := 116) rfl rfl
abbrev ww_20 : Cond := .fieldLink RX0 67 "RentRiver$Cheapest" "best" "[I"
theorem wi_20 : ww_20 ∈ mj_tb := mj_t2 (i := 117) rfl rfl
abbrev ww_21 : Cond := .fieldLink RX0 70 "RentRiver$Cheapest" "bestPaid" "I"
theorem wi_21 : ww_21 ∈ mj_tb := mj_t2 (i := 118) rfl rfl
abbrev ww_22 : Cond := .fieldLink RX1 9 "RentRiver$Contracts" "first" "[I"
theorem wi_22 : ww_22 ∈ mj_tb := mj_t1 (i := 180) rfl rfl
abbrev ww_23 : Cond := .fieldLink RX1 15 "RentRiver$Contracts" "second" "[I"
theorem wi_23 : ww_23 ∈ mj_tb := mj_t1 (i := 183) rfl rfl
abbrev ww_24 : Cond := .fieldLink RX1 18 "RentRiver$Contracts" "cost" "[I"
theorem wi_24 : ww_24 ∈ mj_tb := mj_t1 (i := 186) rfl rfl
abbrev ww_25 : Cond := .fieldLink RX1 21 "RentRiver$Contracts" "rows" "I"
theorem wi_25 : ww_25 ∈ mj_tb := mj_t1 (i := 189) rfl rfl
abbrev ww_26 : Cond := .methodLink RX1 28 arraycopyName
theorem wi_26 : ww_26 ∈ mj_tb := mj_t5 (i := 231) rfl rfl
abbrev ww_27 : Cond := .methodLink RX1 3 objectInit
theorem wi_27 : ww_27 ∈ mj_tb := mj_t1 (i := 175) rfl rfl
abbrev ww_28 : Cond := .methodLink RX1 25 yX1_clear
theorem wi_28 : ww_28 ∈ mj_tb := mj_t1 (i := 176) rfl rfl
abbrev ww_29 : Cond := .methodLink RX1 34 yX7_advance
theorem wi_29 : ww_29 ∈ mj_tb := mj_t4 (i := 0) rfl rfl
abbrev ww_30 : Cond := .fieldLink RX1 39 "RentRiver$Tape" "kind" "I"
theorem wi_30 : ww_30 ∈ mj_tb := mj_t1 (i := 44) rfl rfl
abbrev ww_31 : Cond := .methodLink RX1 50 yX7_finish
theorem wi_31 : ww_31 ∈ mj_tb := mj_t4 (i := 27) rfl rfl
abbrev ww_32 : Cond := .methodLink RX2 3 objectInit
theorem wi_32 : ww_32 ∈ mj_tb := mj_t2 (i := 185) rfl rfl
abbrev ww_33 : Cond := .classLink RX2 11 "[[I"
theorem wi_33 : ww_33 ∈ mj_tb := mj_t2 (i := 186) rfl rfl
abbrev ww_34 : Cond := .fieldLink RX2 13 "RentRiver$Leaks" "found" "[[I"
theorem wi_34 : ww_34 ∈ mj_tb := mj_t2 (i := 189) rfl rfl
abbrev ww_35 : Cond := .fieldLink RX2 16 "RentRiver$Leaks" "kept" "I"
theorem wi_35 : ww_35 ∈ mj_tb := mj_t2 (i := 191) rfl rfl
abbrev ww_36 : Cond := .fieldLink RX2 20 "RentRiver$Leaks" "all" "I"
theorem wi_36 : ww_36 ∈ mj_tb := mj_t2 (i := 193) rfl rfl
abbrev ww_37 : Cond := .arrayClass .boolean
theorem wi_37 : ww_37 ∈ mj_tb := mj_t1 (i := 228) rfl rfl
abbrev ww_38 : Cond := .fieldLink RX2 23 "RentRiver$Leaks" "levelsTold" "[Z"
theorem wi_38 : ww_38 ∈ mj_tb := mj_t2 (i := 194) rfl rfl
abbrev ww_39 : Cond := .fieldLink RX2 27 "RentRiver$Leaks" "levels" "[[I"
theorem wi_39 : ww_39 ∈ mj_tb := mj_t2 (i := 195) rfl rfl
abbrev ww_40 : Cond := .fieldLink RX2 30 "RentRiver$Leaks" "last" "I"
theorem wi_40 : ww_40 ∈ mj_tb := mj_t2 (i := 196) rfl rfl
abbrev ww_41 : Cond := .classLink RX2 33 RX10
theorem wi_41 : ww_41 ∈ mj_tb := mj_t2 (i := 187) rfl rfl
abbrev ww_42 : Cond := .instantiable RX10 15
theorem wi_42 : ww_42 ∈ mj_tb := mj_t1 (i := 230) rfl rfl
abbrev ww_43 : Cond := .initialized RX10
theorem wi_43 : ww_43 ∈ mj_tb := mj_t1 (i := 7) rfl rfl
abbrev ww_44 : Cond := .methodLink RX2 35 yX10_init
theorem wi_44 : ww_44 ∈ mj_tb := mj_t2 (i := 188) rfl rfl
abbrev ww_45 : Cond := .fieldLink RX2 36 "RentRiver$Leaks" "tight" "LRentRiver$Year;"
theorem wi_45 : ww_45 ∈ mj_tb := mj_t2 (i := 197) rfl rfl
abbrev ww_46 : Cond := .fieldLink RX2 40 "RentRiver$Leaks" "leaking" "LRentRiver$Year;"
theorem wi_46 : ww_46 ∈ mj_tb := mj_t2 (i := 198) rfl rfl
abbrev ww_47 : Cond := .methodLink RX10 3 objectInit
theorem wi_47 : ww_47 ∈ mj_tb := mj_t1 (i := 234) rfl rfl
abbrev ww_48 : Cond := .fieldLink RX10 9 "RentRiver$Year" "running" "Z"
theorem wi_48 : ww_48 ∈ mj_tb := mj_t1 (i := 236) rfl rfl
abbrev ww_49 : Cond := .fieldLink RX10 15 "RentRiver$Year" "months" "I"
theorem wi_49 : ww_49 ∈ mj_tb := mj_t1 (i := 238) rfl rfl
abbrev ww_50 : Cond := .fieldLink RX10 19 "RentRiver$Year" "treasury" "I"
theorem wi_50 : ww_50 ∈ mj_tb := mj_t2 (i := 1) rfl rfl
abbrev ww_51 : Cond := .fieldLink RX10 22 "RentRiver$Year" "letTo" "[I"
theorem wi_51 : ww_51 ∈ mj_tb := mj_t2 (i := 3) rfl rfl
abbrev ww_52 : Cond := .fieldLink RX10 26 "RentRiver$Year" "letAlso" "[I"
theorem wi_52 : ww_52 ∈ mj_tb := mj_t2 (i := 5) rfl rfl
abbrev ww_53 : Cond := .fieldLink RX10 29 "RentRiver$Year" "letFor" "[I"
theorem wi_53 : ww_53 ∈ mj_tb := mj_t2 (i := 7) rfl rfl
abbrev ww_54 : Cond := .classLink RX10 32 "[[I"
theorem wi_54 : ww_54 ∈ mj_tb := mj_t1 (i := 235) rfl rfl
abbrev ww_55 : Cond := .fieldLink RX10 34 "RentRiver$Year" "of" "[[I"
theorem wi_55 : ww_55 ∈ mj_tb := mj_t2 (i := 9) rfl rfl
abbrev ww_56 : Cond := .fieldLink RX10 37 "RentRiver$Year" "lies" "I"
theorem wi_56 : ww_56 ∈ mj_tb := mj_t2 (i := 13) rfl rfl
abbrev ww_57 : Cond := .fieldLink RX10 40 "RentRiver$Year" "fish" "I"
theorem wi_57 : ww_57 ∈ mj_tb := mj_t2 (i := 14) rfl rfl
abbrev ww_58 : Cond := .fieldLink RX10 43 "RentRiver$Year" "rained" "I"
theorem wi_58 : ww_58 ∈ mj_tb := mj_t2 (i := 15) rfl rfl
abbrev ww_59 : Cond := .fieldLink RX10 46 "RentRiver$Year" "used" "I"
theorem wi_59 : ww_59 ∈ mj_tb := mj_t2 (i := 16) rfl rfl
abbrev ww_60 : Cond := .fieldLink RX10 49 "RentRiver$Year" "seeped" "I"
theorem wi_60 : ww_60 ∈ mj_tb := mj_t2 (i := 17) rfl rfl
abbrev ww_61 : Cond := .fieldLink RX10 52 "RentRiver$Year" "atSea" "I"
theorem wi_61 : ww_61 ∈ mj_tb := mj_t2 (i := 18) rfl rfl
abbrev ww_62 : Cond := .fieldLink RX10 55 "RentRiver$Year" "lettings" "I"
theorem wi_62 : ww_62 ∈ mj_tb := mj_t2 (i := 19) rfl rfl
abbrev ww_63 : Cond := .fieldLink RX10 58 "RentRiver$Year" "moves" "I"
theorem wi_63 : ww_63 ∈ mj_tb := mj_t2 (i := 20) rfl rfl
abbrev ww_64 : Cond := .fieldLink RX2 43 "RentRiver$Tape" "size" "I"
theorem wi_64 : ww_64 ∈ mj_tb := mj_t1 (i := 37) rfl rfl
abbrev ww_65 : Cond := .fieldLink RX3 9 "RentRiver$Plain" "names" "[J"
theorem wi_65 : ww_65 ∈ mj_tb := mj_t1 (i := 98) rfl rfl
abbrev ww_66 : Cond := .fieldLink RX3 46 "RentRiver$Plain" "toldOf" "[I"
theorem wi_66 : ww_66 ∈ mj_tb := mj_t1 (i := 132) rfl rfl
abbrev ww_67 : Cond := .fieldLink RX3 17 "RentRiver$Plain" "told" "[[I"
theorem wi_67 : ww_67 ∈ mj_tb := mj_t1 (i := 100) rfl rfl
abbrev ww_68 : Cond := .fieldLink RX3 20 "RentRiver$Plain" "bids" "[[I"
theorem wi_68 : ww_68 ∈ mj_tb := mj_t1 (i := 104) rfl rfl
abbrev ww_69 : Cond := .fieldLink RX3 23 "RentRiver$Plain" "water" "[I"
theorem wi_69 : ww_69 ∈ mj_tb := mj_t1 (i := 108) rfl rfl
abbrev ww_70 : Cond := .fieldLink RX3 27 "RentRiver$Plain" "towns" "I"
theorem wi_70 : ww_70 ∈ mj_tb := mj_t1 (i := 111) rfl rfl
abbrev ww_71 : Cond := .fieldLink RX3 31 "RentRiver$Plain" "bidCount" "I"
theorem wi_71 : ww_71 ∈ mj_tb := mj_t1 (i := 117) rfl rfl
abbrev ww_72 : Cond := .fieldLink RX3 34 "RentRiver$Plain" "move" "I"
theorem wi_72 : ww_72 ∈ mj_tb := mj_t1 (i := 119) rfl rfl
abbrev ww_73 : Cond := .fieldLink RX3 37 "RentRiver$Plain" "fish" "I"
theorem wi_73 : ww_73 ∈ mj_tb := mj_t1 (i := 123) rfl rfl
abbrev ww_74 : Cond := .fieldLink RX3 40 "RentRiver$Plain" "patience" "I"
theorem wi_74 : ww_74 ∈ mj_tb := mj_t1 (i := 126) rfl rfl
abbrev ww_75 : Cond := .fieldLink RX3 49 "RentRiver$Plain" "toldWater" "I"
theorem wi_75 : ww_75 ∈ mj_tb := mj_t1 (i := 133) rfl rfl
abbrev ww_76 : Cond := .fieldLink RX3 52 "RentRiver$Plain" "toldMove" "Z"
theorem wi_76 : ww_76 ∈ mj_tb := mj_t1 (i := 134) rfl rfl
abbrev ww_77 : Cond := .fieldLink RX3 56 "RentRiver$Plain" "toldFish" "Z"
theorem wi_77 : ww_77 ∈ mj_tb := mj_t1 (i := 135) rfl rfl
abbrev ww_78 : Cond := .fieldLink RX3 59 "RentRiver$Plain" "toldPatience" "Z"
theorem wi_78 : ww_78 ∈ mj_tb := mj_t1 (i := 136) rfl rfl
abbrev ww_79 : Cond := .methodLink RX3 62 arraycopyName
theorem wi_79 : ww_79 ∈ mj_tb := mj_t5 (i := 114) rfl rfl
abbrev ww_80 : Cond := .fieldLink RX3 43 "RentRiver$Plain" "serial" "I"
theorem wi_80 : ww_80 ∈ mj_tb := mj_t1 (i := 129) rfl rfl
abbrev ww_81 : Cond := .methodLink RX3 3 objectInit
theorem wi_81 : ww_81 ∈ mj_tb := mj_t1 (i := 95) rfl rfl
abbrev ww_82 : Cond := .arrayClass .long
theorem wi_82 : ww_82 ∈ mj_tb := mj_t1 (i := 168) rfl rfl
abbrev ww_83 : Cond := .classLink RX3 15 "[[I"
theorem wi_83 : ww_83 ∈ mj_tb := mj_t1 (i := 96) rfl rfl
abbrev ww_84 : Cond := .methodLink RX3 74 yX7_advance
theorem wi_84 : ww_84 ∈ mj_tb := mj_t3 (i := 53) rfl rfl
abbrev ww_85 : Cond := .fieldLink RX3 79 "RentRiver$Tape" "kind" "I"
theorem wi_85 : ww_85 ∈ mj_tb := mj_t1 (i := 45) rfl rfl
abbrev ww_86 : Cond := .methodLink RX3 90 yX7_finish
theorem wi_86 : ww_86 ∈ mj_tb := mj_t3 (i := 179) rfl rfl
abbrev ww_87 : Cond := .methodLink RX4 3 objectInit
theorem wi_87 : ww_87 ∈ mj_tb := mj_t2 (i := 163) rfl rfl
abbrev ww_88 : Cond := .fieldLink RX4 9 "RentRiver$Rounds" "done" "Z"
theorem wi_88 : ww_88 ∈ mj_tb := mj_t2 (i := 164) rfl rfl
abbrev ww_89 : Cond := .fieldLink RX4 15 "RentRiver$Rounds" "monthOf" "[I"
theorem wi_89 : ww_89 ∈ mj_tb := mj_t2 (i := 166) rfl rfl
abbrev ww_90 : Cond := .fieldLink RX4 19 "RentRiver$Rounds" "prices" "[I"
theorem wi_90 : ww_90 ∈ mj_tb := mj_t2 (i := 168) rfl rfl
abbrev ww_91 : Cond := .fieldLink RX4 22 "RentRiver$Rounds" "owner" "[I"
theorem wi_91 : ww_91 ∈ mj_tb := mj_t2 (i := 170) rfl rfl
abbrev ww_92 : Cond := .fieldLink RX5 28 "RentRiver$Sentence" "size" "I"
theorem wi_92 : ww_92 ∈ mj_tb := mj_t1 (i := 212) rfl rfl
abbrev ww_93 : Cond := .fieldLink RX5 32 "RentRiver$Sentence" "ones" "I"
theorem wi_93 : ww_93 ∈ mj_tb := mj_t1 (i := 213) rfl rfl
abbrev ww_94 : Cond := .fieldLink RX5 13 "RentRiver$Sentence" "steps" "[LRentRiver$Word;"
theorem wi_94 : ww_94 ∈ mj_tb := mj_t1 (i := 208) rfl rfl
abbrev ww_95 : Cond := .fieldLink RX5 17 "RentRiver$Sentence" "signs" "[I"
theorem wi_95 : ww_95 ∈ mj_tb := mj_t1 (i := 209) rfl rfl
abbrev ww_96 : Cond := .fieldLink RX5 21 "RentRiver$Sentence" "numbers" "[I"
theorem wi_96 : ww_96 ∈ mj_tb := mj_t1 (i := 210) rfl rfl
abbrev ww_97 : Cond := .methodLink RX5 5 objectInit
theorem wi_97 : ww_97 ∈ mj_tb := mj_t1 (i := 205) rfl rfl
abbrev ww_98 : Cond := .classLink RX5 11 "RentRiver$Word"
theorem wi_98 : ww_98 ∈ mj_tb := mj_t1 (i := 206) rfl rfl
abbrev ww_99 : Cond := .fieldLink RX5 24 "RentRiver$Sentence" "stack" "[Z"
theorem wi_99 : ww_99 ∈ mj_tb := mj_t1 (i := 211) rfl rfl
abbrev ww_100 : Cond := .methodLink RX5 62 yX5_readOne
theorem wi_100 : ww_100 ∈ mj_tb := mj_t5 (i := 154) rfl rfl
abbrev ww_101 : Cond := .fieldLink RX5 51 "RentRiver$Tape" "word" "LRentRiver$Word;"
theorem wi_101 : ww_101 ∈ mj_tb := mj_t1 (i := 53) rfl rfl
abbrev ww_102 : Cond := .methodLink RX5 35 yX7_advance
theorem wi_102 : ww_102 ∈ mj_tb := mj_t5 (i := 145) rfl rfl
abbrev ww_103 : Cond := .methodLink RX5 48 yX5_readAll
theorem wi_103 : ww_103 ∈ mj_tb := mj_t5 (i := 150) rfl rfl
abbrev ww_104 : Cond := .methodLink RX5 68 yX7_isSign
theorem wi_104 : ww_104 ∈ mj_tb := mj_t5 (i := 158) rfl rfl
abbrev ww_105 : Cond := .methodLink RX5 72 yX5_begins
theorem wi_105 : ww_105 ∈ mj_tb := mj_t5 (i := 159) rfl rfl
abbrev ww_106 : Cond := .methodLink RX5 76 yX7_refuse
theorem wi_106 : ww_106 ∈ mj_tb := mj_t5 (i := 186) rfl rfl
abbrev ww_107 : Cond := .methodLink RX5 40 yX5_readCond
theorem wi_107 : ww_107 ∈ mj_tb := mj_t5 (i := 146) rfl rfl
abbrev ww_108 : Cond := .methodLink RX5 44 yX7_finish
theorem wi_108 : ww_108 ∈ mj_tb := mj_t5 (i := 204) rfl rfl
abbrev ww_109 : Cond := .fieldLink RX6 10 "RentRiver$State" "plain" "LRentRiver$Plain;"
theorem wi_109 : ww_109 ∈ mj_tb := mj_t2 (i := 52) rfl rfl
abbrev ww_110 : Cond := .methodLink RX6 37 yX3_copy
theorem wi_110 : ww_110 ∈ mj_tb := mj_t5 (i := 226) rfl rfl
abbrev ww_111 : Cond := .fieldLink RX6 19 "RentRiver$State" "deals" "LRentRiver$Contracts;"
theorem wi_111 : ww_111 ∈ mj_tb := mj_t2 (i := 54) rfl rfl
abbrev ww_112 : Cond := .methodLink RX6 41 yX1_copy
theorem wi_112 : ww_112 ∈ mj_tb := mj_t5 (i := 227) rfl rfl
abbrev ww_113 : Cond := .fieldLink RX6 26 "RentRiver$State" "sentence" "LRentRiver$Sentence;"
theorem wi_113 : ww_113 ∈ mj_tb := mj_t2 (i := 56) rfl rfl
abbrev ww_114 : Cond := .methodLink RX6 44 yX5_copy
theorem wi_114 : ww_114 ∈ mj_tb := mj_t5 (i := 232) rfl rfl
abbrev ww_115 : Cond := .fieldLink RX6 33 "RentRiver$State" "year" "LRentRiver$Year;"
theorem wi_115 : ww_115 ∈ mj_tb := mj_t2 (i := 58) rfl rfl
abbrev ww_116 : Cond := .methodLink RX6 47 yX10_copy
theorem wi_116 : ww_116 ∈ mj_tb := mj_t5 (i := 236) rfl rfl
abbrev ww_117 : Cond := .methodLink RX6 1 objectInit
theorem wi_117 : ww_117 ∈ mj_tb := mj_t1 (i := 89) rfl rfl
abbrev ww_118 : Cond := .classLink RX6 7 RX3
theorem wi_118 : ww_118 ∈ mj_tb := mj_t1 (i := 90) rfl rfl
abbrev ww_119 : Cond := .instantiable RX3 15
theorem wi_119 : ww_119 ∈ mj_tb := mj_t1 (i := 91) rfl rfl
abbrev ww_120 : Cond := .initialized RX3
theorem wi_120 : ww_120 ∈ mj_tb := mj_t1 (i := 4) rfl rfl
abbrev ww_121 : Cond := .methodLink RX6 9 yX3_init
theorem wi_121 : ww_121 ∈ mj_tb := mj_t1 (i := 92) rfl rfl
abbrev ww_122 : Cond := .classLink RX6 16 RX1
theorem wi_122 : ww_122 ∈ mj_tb := mj_t1 (i := 170) rfl rfl
abbrev ww_123 : Cond := .instantiable RX1 4
theorem wi_123 : ww_123 ∈ mj_tb := mj_t1 (i := 171) rfl rfl
abbrev ww_124 : Cond := .initialized RX1
theorem wi_124 : ww_124 ∈ mj_tb := mj_t1 (i := 5) rfl rfl
abbrev ww_125 : Cond := .methodLink RX6 18 yX1_init
theorem wi_125 : ww_125 ∈ mj_tb := mj_t1 (i := 172) rfl rfl
abbrev ww_126 : Cond := .classLink RX6 23 RX5
theorem wi_126 : ww_126 ∈ mj_tb := mj_t1 (i := 200) rfl rfl
abbrev ww_127 : Cond := .instantiable RX5 6
theorem wi_127 : ww_127 ∈ mj_tb := mj_t1 (i := 201) rfl rfl
abbrev ww_128 : Cond := .initialized RX5
theorem wi_128 : ww_128 ∈ mj_tb := mj_t1 (i := 6) rfl rfl
abbrev ww_129 : Cond := .methodLink RX6 25 yX5_init
theorem wi_129 : ww_129 ∈ mj_tb := mj_t1 (i := 202) rfl rfl
abbrev ww_130 : Cond := .classLink RX6 30 RX10
theorem wi_130 : ww_130 ∈ mj_tb := mj_t1 (i := 229) rfl rfl
abbrev ww_131 : Cond := .methodLink RX6 32 yX10_init
theorem wi_131 : ww_131 ∈ mj_tb := mj_t1 (i := 231) rfl rfl
abbrev ww_132 : Cond := .fieldLink RX7 15 "RentRiver$Tape" "size" "I"
theorem wi_132 : ww_132 ∈ mj_tb := mj_t1 (i := 36) rfl rfl
abbrev ww_133 : Cond := .fieldLink RX7 45 "RentRiver$Tape" "most" "I"
theorem wi_133 : ww_133 ∈ mj_tb := mj_t1 (i := 56) rfl rfl
abbrev ww_134 : Cond := .methodLink RX7 51 Lib.Math.min.name
theorem wi_134 : ww_134 ∈ mj_tb := mj_t3 (i := 57) rfl rfl
abbrev ww_135 : Cond := .fieldLink RX7 48 "RentRiver$Tape" "here" "I"
theorem wi_135 : ww_135 ∈ mj_tb := mj_t1 (i := 57) rfl rfl
abbrev ww_136 : Cond := .fieldLink RX7 41 "RentRiver$Tape" "word" "LRentRiver$Word;"
theorem wi_136 : ww_136 ∈ mj_tb := mj_t1 (i := 52) rfl rfl
abbrev ww_137 : Cond := .fieldLink RX7 37 "RentRiver$Tape" "code" "J"
theorem wi_137 : ww_137 ∈ mj_tb := mj_t1 (i := 50) rfl rfl
abbrev ww_138 : Cond := .fieldLink RX7 31 "RentRiver$Tape" "number" "I"
theorem wi_138 : ww_138 ∈ mj_tb := mj_t1 (i := 47) rfl rfl
abbrev ww_139 : Cond := .fieldLink RX7 34 "RentRiver$Tape" "sign" "I"
theorem wi_139 : ww_139 ∈ mj_tb := mj_t1 (i := 48) rfl rfl
abbrev ww_140 : Cond := .fieldLink RX7 25 "RentRiver$Tape" "kind" "I"
theorem wi_140 : ww_140 ∈ mj_tb := mj_t1 (i := 43) rfl rfl
abbrev ww_141 : Cond := .fieldLink RX7 28 "RentRiver$Tape" "start" "I"
theorem wi_141 : ww_141 ∈ mj_tb := mj_t1 (i := 46) rfl rfl
abbrev ww_142 : Cond := .methodLink RX7 77 yX7_refuse
theorem wi_142 : ww_142 ∈ mj_tb := mj_t3 (i := 97) rfl rfl
abbrev ww_143 : Cond := .methodLink RX7 3 objectInit
theorem wi_143 : ww_143 ∈ mj_tb := mj_t1 (i := 34) rfl rfl
abbrev ww_144 : Cond := .arrayClass .byte
theorem wi_144 : ww_144 ∈ mj_tb := mj_t1 (i := 83) rfl rfl
abbrev ww_145 : Cond := .fieldLink RX7 11 "RentRiver$Tape" "bytes" "[B"
theorem wi_145 : ww_145 ∈ mj_tb := mj_t1 (i := 35) rfl rfl
abbrev ww_146 : Cond := .fieldLink RX7 19 "RentRiver$Tape" "fault" "I"
theorem wi_146 : ww_146 ∈ mj_tb := mj_t1 (i := 39) rfl rfl
abbrev ww_147 : Cond := .fieldLink RX7 22 "RentRiver$Tape" "faultAt" "I"
theorem wi_147 : ww_147 ∈ mj_tb := mj_t1 (i := 41) rfl rfl
abbrev ww_148 : Cond := .fieldLink RX8 21 "RentRiver$Undo" "size" "I"
theorem wi_148 : ww_148 ∈ mj_tb := mj_t2 (i := 79) rfl rfl
abbrev ww_149 : Cond := .fieldLink RX8 11 "RentRiver$Undo" "towns" "[I"
theorem wi_149 : ww_149 ∈ mj_tb := mj_t2 (i := 76) rfl rfl
abbrev ww_150 : Cond := .fieldLink RX8 15 "RentRiver$Undo" "months" "[I"
theorem wi_150 : ww_150 ∈ mj_tb := mj_t2 (i := 77) rfl rfl
abbrev ww_151 : Cond := .fieldLink RX8 18 "RentRiver$Undo" "before" "[I"
theorem wi_151 : ww_151 ∈ mj_tb := mj_t2 (i := 78) rfl rfl
abbrev ww_152 : Cond := .methodLink RX8 3 objectInit
theorem wi_152 : ww_152 ∈ mj_tb := mj_t2 (i := 75) rfl rfl
abbrev ww_153 : Cond := .methodLink RX10 67 arraycopyName
theorem wi_153 : ww_153 ∈ mj_tb := mj_t5 (i := 29) rfl rfl
abbrev ww_154 : Cond := .fieldLink RX11 19 "RentRiver" "now" "LRentRiver$State;"
theorem wi_154 : ww_154 ∈ mj_tb := mj_t2 (i := 219) rfl rfl
abbrev ww_155 : Cond := .fieldLink RX11 94 "RentRiver$State" "plain" "LRentRiver$Plain;"
theorem wi_155 : ww_155 ∈ mj_tb := mj_t2 (i := 53) rfl rfl
abbrev ww_156 : Cond := .fieldLink RX11 160 "RentRiver$Plain" "towns" "I"
theorem wi_156 : ww_156 ∈ mj_tb := mj_t1 (i := 115) rfl rfl
abbrev ww_157 : Cond := .fieldLink RX11 130 "RentRiver$State" "year" "LRentRiver$Year;"
theorem wi_157 : ww_157 ∈ mj_tb := mj_t2 (i := 59) rfl rfl
abbrev ww_158 : Cond := .methodLink RX11 145 yX11_isTown
theorem wi_158 : ww_158 ∈ mj_tb := mj_t3 (i := 200) rfl rfl
abbrev ww_159 : Cond := .methodLink RX11 163 yX11_isMonth
theorem wi_159 : ww_159 ∈ mj_tb := mj_t3 (i := 204) rfl rfl
abbrev ww_160 : Cond := .fieldLink RX11 166 "RentRiver$Plain" "bids" "[[I"
theorem wi_160 : ww_160 ∈ mj_tb := mj_t1 (i := 106) rfl rfl
abbrev ww_161 : Cond := .fieldLink RX11 73 "RentRiver" "textSize" "I"
theorem wi_161 : ww_161 ∈ mj_tb := mj_t2 (i := 229) rfl rfl
abbrev ww_162 : Cond := .fieldLink RX11 69 "RentRiver" "text" "[B"
theorem wi_162 : ww_162 ∈ mj_tb := mj_t2 (i := 228) rfl rfl
abbrev ww_163 : Cond := .fieldLink RX11 44 "RentRiver" "planner" "LRentRiver$Cheapest;"
theorem wi_163 : ww_163 ∈ mj_tb := mj_t2 (i := 224) rfl rfl
abbrev ww_164 : Cond := .fieldLink RX11 10 "RentRiver" "tape" "LRentRiver$Tape;"
theorem wi_164 : ww_164 ∈ mj_tb := mj_t2 (i := 218) rfl rfl
abbrev ww_165 : Cond := .fieldLink RX11 91 "RentRiver$Tape" "size" "I"
theorem wi_165 : ww_165 ∈ mj_tb := mj_t1 (i := 38) rfl rfl
abbrev ww_166 : Cond := .fieldLink RX11 110 "RentRiver$Tape" "fault" "I"
theorem wi_166 : ww_166 ∈ mj_tb := mj_t1 (i := 40) rfl rfl
abbrev ww_167 : Cond := .fieldLink RX11 77 "RentRiver" "latestFault" "I"
theorem wi_167 : ww_167 ∈ mj_tb := mj_t2 (i := 230) rfl rfl
abbrev ww_168 : Cond := .fieldLink RX11 142 "RentRiver$Tape" "faultAt" "I"
theorem wi_168 : ww_168 ∈ mj_tb := mj_t1 (i := 42) rfl rfl
abbrev ww_169 : Cond := .fieldLink RX11 116 "RentRiver$State" "deals" "LRentRiver$Contracts;"
theorem wi_169 : ww_169 ∈ mj_tb := mj_t2 (i := 55) rfl rfl
abbrev ww_170 : Cond := .methodLink RX11 193 yX1_tells
theorem wi_170 : ww_170 ∈ mj_tb := mj_t4 (i := 32) rfl rfl
abbrev ww_171 : Cond := .fieldLink RX11 196 "RentRiver$Contracts" "first" "[I"
theorem wi_171 : ww_171 ∈ mj_tb := mj_t1 (i := 182) rfl rfl
abbrev ww_172 : Cond := .fieldLink RX11 199 "RentRiver$Contracts" "second" "[I"
theorem wi_172 : ww_172 ∈ mj_tb := mj_t1 (i := 185) rfl rfl
abbrev ww_173 : Cond := .fieldLink RX11 202 "RentRiver$Contracts" "cost" "[I"
theorem wi_173 : ww_173 ∈ mj_tb := mj_t1 (i := 188) rfl rfl
abbrev ww_174 : Cond := .fieldLink RX11 23 "RentRiver" "spare" "LRentRiver$State;"
theorem wi_174 : ww_174 ∈ mj_tb := mj_t2 (i := 220) rfl rfl
abbrev ww_175 : Cond := .methodLink RX11 120 yX1_clear
theorem wi_175 : ww_175 ∈ mj_tb := mj_t3 (i := 183) rfl rfl
abbrev ww_176 : Cond := .methodLink RX11 103 yX7_open
theorem wi_176 : ww_176 ∈ mj_tb := mj_t3 (i := 45) rfl rfl
abbrev ww_177 : Cond := .methodLink RX11 187 yX1_readRows
theorem wi_177 : ww_177 ∈ mj_tb := mj_t3 (i := 236) rfl rfl
abbrev ww_178 : Cond := .fieldLink RX11 190 "RentRiver$Contracts" "rows" "I"
theorem wi_178 : ww_178 ∈ mj_tb := mj_t1 (i := 190) rfl rfl
abbrev ww_179 : Cond := .methodLink RX11 138 yX11_closeTape
theorem wi_179 : ww_179 ∈ mj_tb := mj_t3 (i := 188) rfl rfl
abbrev ww_180 : Cond := .fieldLink RX11 169 "RentRiver$Plain" "bidCount" "I"
theorem wi_180 : ww_180 ∈ mj_tb := mj_t1 (i := 118) rfl rfl
abbrev ww_181 : Cond := .fieldLink RX11 340 "RentRiver$Plain" "move" "I"
theorem wi_181 : ww_181 ∈ mj_tb := mj_t1 (i := 122) rfl rfl
abbrev ww_182 : Cond := .fieldLink RX11 343 "RentRiver$Plain" "fish" "I"
theorem wi_182 : ww_182 ∈ mj_tb := mj_t1 (i := 125) rfl rfl
abbrev ww_183 : Cond := .fieldLink RX11 346 "RentRiver$Plain" "patience" "I"
theorem wi_183 : ww_183 ∈ mj_tb := mj_t1 (i := 128) rfl rfl
abbrev ww_184 : Cond := .fieldLink RX11 65 "RentRiver" "trial" "LRentRiver$Year;"
theorem wi_184 : ww_184 ∈ mj_tb := mj_t2 (i := 227) rfl rfl
abbrev ww_185 : Cond := .fieldLink RX11 309 "RentRiver$Year" "treasury" "I"
theorem wi_185 : ww_185 ∈ mj_tb := mj_t2 (i := 2) rfl rfl
abbrev ww_186 : Cond := .fieldLink RX11 133 "RentRiver$Year" "running" "Z"
theorem wi_186 : ww_186 ∈ mj_tb := mj_t1 (i := 237) rfl rfl
abbrev ww_187 : Cond := .fieldLink RX11 209 "RentRiver$Year" "months" "I"
theorem wi_187 : ww_187 ∈ mj_tb := mj_t2 (i := 0) rfl rfl
abbrev ww_188 : Cond := .fieldLink RX11 222 "RentRiver$Year" "letTo" "[I"
theorem wi_188 : ww_188 ∈ mj_tb := mj_t2 (i := 4) rfl rfl
abbrev ww_189 : Cond := .fieldLink RX11 156 "RentRiver$Plain" "told" "[[I"
theorem wi_189 : ww_189 ∈ mj_tb := mj_t1 (i := 103) rfl rfl
abbrev ww_190 : Cond := .methodLink RX11 83 yX7_hasRoom
theorem wi_190 : ww_190 ∈ mj_tb := mj_t3 (i := 25) rfl rfl
abbrev ww_191 : Cond := .methodLink RX11 87 yX7_put
theorem wi_191 : ww_191 ∈ mj_tb := mj_t3 (i := 29) rfl rfl
abbrev ww_192 : Cond := .fieldLink RX11 51 "RentRiver" "auction" "LRentRiver$Rounds;"
theorem wi_192 : ww_192 ∈ mj_tb := mj_t2 (i := 225) rfl rfl
abbrev ww_193 : Cond := .fieldLink RX11 251 "RentRiver$Rounds" "done" "Z"
theorem wi_193 : ww_193 ∈ mj_tb := mj_t2 (i := 165) rfl rfl
abbrev ww_194 : Cond := .fieldLink RX11 252 "RentRiver$Rounds" "monthOf" "[I"
theorem wi_194 : ww_194 ∈ mj_tb := mj_t2 (i := 167) rfl rfl
abbrev ww_195 : Cond := .fieldLink RX11 26 "RentRiver" "images" "[LRentRiver$State;"
theorem wi_195 : ww_195 ∈ mj_tb := mj_t2 (i := 221) rfl rfl
abbrev ww_196 : Cond := .methodLink RX11 337 yX6_copy
theorem wi_196 : ww_196 ∈ mj_tb := mj_t5 (i := 222) rfl rfl
abbrev ww_197 : Cond := .fieldLink RX11 30 "RentRiver" "kept" "[Z"
theorem wi_197 : ww_197 ∈ mj_tb := mj_t2 (i := 222) rfl rfl
abbrev ww_198 : Cond := .methodLink RX11 1 objectInit
theorem wi_198 : ww_198 ∈ mj_tb := mj_t1 (i := 26) rfl rfl
abbrev ww_199 : Cond := .classLink RX11 7 RX7
theorem wi_199 : ww_199 ∈ mj_tb := mj_t1 (i := 29) rfl rfl
abbrev ww_200 : Cond := .instantiable RX7 12
theorem wi_200 : ww_200 ∈ mj_tb := mj_t1 (i := 30) rfl rfl
abbrev ww_201 : Cond := .initialized RX7
theorem wi_201 : ww_201 ∈ mj_tb := mj_t1 (i := 2) rfl rfl
abbrev ww_202 : Cond := .methodLink RX11 9 yX7_init
theorem wi_202 : ww_202 ∈ mj_tb := mj_t1 (i := 31) rfl rfl
abbrev ww_203 : Cond := .classLink RX11 16 RX6
theorem wi_203 : ww_203 ∈ mj_tb := mj_t1 (i := 84) rfl rfl
abbrev ww_204 : Cond := .instantiable RX6 4
theorem wi_204 : ww_204 ∈ mj_tb := mj_t1 (i := 85) rfl rfl
abbrev ww_205 : Cond := .initialized RX6
theorem wi_205 : ww_205 ∈ mj_tb := mj_t1 (i := 3) rfl rfl
abbrev ww_206 : Cond := .methodLink RX11 18 yX6_init
theorem wi_206 : ww_206 ∈ mj_tb := mj_t1 (i := 86) rfl rfl
abbrev ww_207 : Cond := .classLink RX11 34 RX8
theorem wi_207 : ww_207 ∈ mj_tb := mj_t2 (i := 70) rfl rfl
abbrev ww_208 : Cond := .instantiable RX8 4
theorem wi_208 : ww_208 ∈ mj_tb := mj_t2 (i := 71) rfl rfl
abbrev ww_209 : Cond := .initialized RX8
theorem wi_209 : ww_209 ∈ mj_tb := mj_t1 (i := 8) rfl rfl
abbrev ww_210 : Cond := .methodLink RX11 36 yX8_init
theorem wi_210 : ww_210 ∈ mj_tb := mj_t2 (i := 72) rfl rfl
abbrev ww_211 : Cond := .fieldLink RX11 37 "RentRiver" "undone" "LRentRiver$Undo;"
theorem wi_211 : ww_211 ∈ mj_tb := mj_t2 (i := 223) rfl rfl
abbrev ww_212 : Cond := .classLink RX11 41 RX0
theorem wi_212 : ww_212 ∈ mj_tb := mj_t2 (i := 90) rfl rfl
abbrev ww_213 : Cond := .instantiable RX0 19
theorem wi_213 : ww_213 ∈ mj_tb := mj_t2 (i := 91) rfl rfl
abbrev ww_214 : Cond := .initialized RX0
theorem wi_214 : ww_214 ∈ mj_tb := mj_t1 (i := 9) rfl rfl
abbrev ww_215 : Cond := .methodLink RX11 43 yX0_init
theorem wi_215 : ww_215 ∈ mj_tb := mj_t2 (i := 92) rfl rfl
abbrev ww_216 : Cond := .classLink RX11 48 RX4
theorem wi_216 : ww_216 ∈ mj_tb := mj_t2 (i := 158) rfl rfl
abbrev ww_217 : Cond := .instantiable RX4 4
theorem wi_217 : ww_217 ∈ mj_tb := mj_t2 (i := 159) rfl rfl
abbrev ww_218 : Cond := .initialized RX4
theorem wi_218 : ww_218 ∈ mj_tb := mj_t1 (i := 10) rfl rfl
abbrev ww_219 : Cond := .methodLink RX11 50 yX4_init
theorem wi_219 : ww_219 ∈ mj_tb := mj_t2 (i := 160) rfl rfl
abbrev ww_220 : Cond := .classLink RX11 55 RX2
theorem wi_220 : ww_220 ∈ mj_tb := mj_t2 (i := 180) rfl rfl
abbrev ww_221 : Cond := .instantiable RX2 8
theorem wi_221 : ww_221 ∈ mj_tb := mj_t2 (i := 181) rfl rfl
abbrev ww_222 : Cond := .initialized RX2
theorem wi_222 : ww_222 ∈ mj_tb := mj_t1 (i := 11) rfl rfl
abbrev ww_223 : Cond := .methodLink RX11 57 yX2_init
theorem wi_223 : ww_223 ∈ mj_tb := mj_t2 (i := 182) rfl rfl
abbrev ww_224 : Cond := .fieldLink RX11 58 "RentRiver" "search" "LRentRiver$Leaks;"
theorem wi_224 : ww_224 ∈ mj_tb := mj_t2 (i := 226) rfl rfl
abbrev ww_225 : Cond := .classLink RX11 62 RX10
theorem wi_225 : ww_225 ∈ mj_tb := mj_t2 (i := 216) rfl rfl
abbrev ww_226 : Cond := .methodLink RX11 64 yX10_init
theorem wi_226 : ww_226 ∈ mj_tb := mj_t2 (i := 217) rfl rfl
abbrev ww_227 : Cond := .fieldLink RX11 80 "RentRiver" "plains" "I"
theorem wi_227 : ww_227 ∈ mj_tb := mj_t2 (i := 231) rfl rfl
abbrev ww_228 : Cond := .fieldLink RX11 265 "RentRiver$Leaks" "kept" "I"
theorem wi_228 : ww_228 ∈ mj_tb := mj_t2 (i := 192) rfl rfl
abbrev ww_229 : Cond := .fieldLink RX11 267 "RentRiver$Leaks" "found" "[[I"
theorem wi_229 : ww_229 ∈ mj_tb := mj_t2 (i := 190) rfl rfl
abbrev ww_230 : Cond := .methodLink RX11 258 yX2_readLevels
theorem wi_230 : ww_230 ∈ mj_tb := mj_t5 (i := 11) rfl rfl
abbrev ww_231 : Cond := .fieldLink RX11 225 "RentRiver$Year" "letAlso" "[I"
theorem wi_231 : ww_231 ∈ mj_tb := mj_t2 (i := 6) rfl rfl
abbrev ww_232 : Cond := .fieldLink RX11 228 "RentRiver$Year" "letFor" "[I"
theorem wi_232 : ww_232 ∈ mj_tb := mj_t2 (i := 8) rfl rfl
abbrev ww_233 : Cond := .methodLink RX11 98 yX3_clear
theorem wi_233 : ww_233 ∈ mj_tb := mj_t3 (i := 41) rfl rfl
abbrev ww_234 : Cond := .methodLink RX11 106 yX3_readRows
theorem wi_234 : ww_234 ∈ mj_tb := mj_t3 (i := 49) rfl rfl
abbrev ww_235 : Cond := .fieldLink RX11 113 "RentRiver$Plain" "serial" "I"
theorem wi_235 : ww_235 ∈ mj_tb := mj_t1 (i := 131) rfl rfl
abbrev ww_236 : Cond := .fieldLink RX11 123 "RentRiver$State" "sentence" "LRentRiver$Sentence;"
theorem wi_236 : ww_236 ∈ mj_tb := mj_t2 (i := 57) rfl rfl
abbrev ww_237 : Cond := .methodLink RX11 127 yX5_clear
theorem wi_237 : ww_237 ∈ mj_tb := mj_t3 (i := 184) rfl rfl
abbrev ww_238 : Cond := .fieldLink RX11 137 "RentRiver$Undo" "size" "I"
theorem wi_238 : ww_238 ∈ mj_tb := mj_t2 (i := 80) rfl rfl
abbrev ww_239 : Cond := .fieldLink RX11 234 "RentRiver$Cheapest" "done" "Z"
theorem wi_239 : ww_239 ∈ mj_tb := mj_t2 (i := 100) rfl rfl
abbrev ww_240 : Cond := .fieldLink RX11 237 "RentRiver$Cheapest" "plan" "[I"
theorem wi_240 : ww_240 ∈ mj_tb := mj_t2 (i := 98) rfl rfl
abbrev ww_241 : Cond := .fieldLink RX11 255 "RentRiver$Rounds" "prices" "[I"
theorem wi_241 : ww_241 ∈ mj_tb := mj_t2 (i := 169) rfl rfl
abbrev ww_242 : Cond := .fieldLink RX11 330 "RentRiver$Sentence" "ones" "I"
theorem wi_242 : ww_242 ∈ mj_tb := mj_t1 (i := 214) rfl rfl
abbrev ww_243 : Cond := .methodLink RX11 326 yX5_readText
theorem wi_243 : ww_243 ∈ mj_tb := mj_t5 (i := 141) rfl rfl
abbrev ww_244 : Cond := .fieldLink RX11 219 "RentRiver$Year" "of" "[[I"
theorem wi_244 : ww_244 ∈ mj_tb := mj_t2 (i := 12) rfl rfl
abbrev ww_245 : Cond := .fieldLink RX11 240 "RentRiver$Cheapest" "planned" "I"
theorem wi_245 : ww_245 ∈ mj_tb := mj_t2 (i := 102) rfl rfl
abbrev ww_246 : Cond := .methodLink RX11 179 yX8_back
theorem wi_246 : ww_246 ∈ mj_tb := mj_t3 (i := 223) rfl rfl
abbrev ww_247 : Cond := .fieldLink RX11 183 "RentRiver$Plain" "water" "[I"
theorem wi_247 : ww_247 ∈ mj_tb := mj_t1 (i := 110) rfl rfl
abbrev ww_248 : Cond := .methodLink RX11 312 yX3_copy
theorem wi_248 : ww_248 ∈ mj_tb := mj_t5 (i := 110) rfl rfl
abbrev ww_249 : Cond := .fieldLink RX12 180 "RentRiverModel" "fault" "I"
theorem wi_249 : ww_249 ∈ mj_tb := mj_t6 (i := 139) rfl rfl
abbrev ww_250 : Cond := .fieldLink RX12 157 "RentRiverModel" "at" "I"
theorem wi_250 : ww_250 ∈ mj_tb := mj_t6 (i := 136) rfl rfl
abbrev ww_251 : Cond := .fieldLink RX12 183 "RentRiverModel" "faultAt" "I"
theorem wi_251 : ww_251 ∈ mj_tb := mj_t6 (i := 140) rfl rfl
abbrev ww_252 : Cond := .fieldLink RX12 1 "RentRiverModel" "thrown" "I"
theorem wi_252 : ww_252 ∈ mj_tb := mj_t6 (i := 124) rfl rfl
abbrev ww_253 : Cond := .fieldLink RX12 33 "RentRiverModel" "s" "[I"
theorem wi_253 : ww_253 ∈ mj_tb := mj_t6 (i := 130) rfl rfl
abbrev ww_254 : Cond := .methodLink RX12 263 yX12_isTown
theorem wi_254 : ww_254 ∈ mj_tb := mj_t7 (i := 151) rfl rfl
abbrev ww_255 : Cond := .methodLink RX12 273 yX12_isMonth
theorem wi_255 : ww_255 ∈ mj_tb := mj_t7 (i := 167) rfl rfl
abbrev ww_256 : Cond := .fieldLink RX12 391 "RentRiverModel" "textMany" "I"
theorem wi_256 : ww_256 ∈ mj_tb := mj_t6 (i := 175) rfl rfl
abbrev ww_257 : Cond := .methodLink RX12 195 yX12_isIn
theorem wi_257 : ww_257 ∈ mj_tb := mj_t7 (i := 121) rfl rfl
abbrev ww_258 : Cond := .fieldLink RX12 86 "RentRiverModel" "text" "[B"
theorem wi_258 : ww_258 ∈ mj_tb := mj_t6 (i := 174) rfl rfl
abbrev ww_259 : Cond := .fieldLink RX12 62 "RentRiverModel" "costs" "[I"
theorem wi_259 : ww_259 ∈ mj_tb := mj_t6 (i := 160) rfl rfl
abbrev ww_260 : Cond := .fieldLink RX12 65 "RentRiverModel" "havings" "[I"
theorem wi_260 : ww_260 ∈ mj_tb := mj_t6 (i := 161) rfl rfl
abbrev ww_261 : Cond := .fieldLink RX12 59 "RentRiverModel" "tried" "[I"
theorem wi_261 : ww_261 ∈ mj_tb := mj_t6 (i := 159) rfl rfl
abbrev ww_262 : Cond := .fieldLink RX12 68 "RentRiverModel" "plan" "[I"
theorem wi_262 : ww_262 ∈ mj_tb := mj_t6 (i := 162) rfl rfl
abbrev ww_263 : Cond := .fieldLink RX12 349 "RentRiverModel" "hasPlan" "Z"
theorem wi_263 : ww_263 ∈ mj_tb := mj_t6 (i := 163) rfl rfl
abbrev ww_264 : Cond := .fieldLink RX12 260 "RentRiverModel" "plainNumber" "I"
theorem wi_264 : ww_264 ∈ mj_tb := mj_t6 (i := 149) rfl rfl
abbrev ww_265 : Cond := .fieldLink RX12 353 "RentRiverModel" "planNumber" "I"
theorem wi_265 : ww_265 ∈ mj_tb := mj_t6 (i := 164) rfl rfl
abbrev ww_266 : Cond := .methodLink RX12 242 yX12_taken
theorem wi_266 : ww_266 ∈ mj_tb := mj_t7 (i := 75) rfl rfl
abbrev ww_267 : Cond := .fieldLink RX12 40 "RentRiverModel" "read" "[I"
theorem wi_267 : ww_267 ∈ mj_tb := mj_t6 (i := 132) rfl rfl
abbrev ww_268 : Cond := .methodLink RX12 192 yX12_next
theorem wi_268 : ww_268 ∈ mj_tb := mj_t7 (i := 79) rfl rfl
abbrev ww_269 : Cond := .fieldLink RX12 163 "RentRiverModel" "token" "I"
theorem wi_269 : ww_269 ∈ mj_tb := mj_t6 (i := 135) rfl rfl
abbrev ww_270 : Cond := .methodLink RX12 279 yX12_bidMany
theorem wi_270 : ww_270 ∈ mj_tb := mj_t7 (i := 182) rfl rfl
abbrev ww_271 : Cond := .fieldLink RX12 7 "RentRiverModel" "length" "I"
theorem wi_271 : ww_271 ∈ mj_tb := mj_t6 (i := 126) rfl rfl
abbrev ww_272 : Cond := .fieldLink RX12 368 "RentRiverModel" "seed" "I"
theorem wi_272 : ww_272 ∈ mj_tb := mj_t6 (i := 171) rfl rfl
abbrev ww_273 : Cond := .methodLink RX12 10 yX12_four
theorem wi_273 : ww_273 ∈ mj_tb := mj_t6 (i := 86) rfl rfl
abbrev ww_274 : Cond := .fieldLink RX12 14 "RentRiverModel" "tape" "[B"
theorem wi_274 : ww_274 ∈ mj_tb := mj_t6 (i := 125) rfl rfl
abbrev ww_275 : Cond := .fieldLink RX12 356 "RentRiverModel" "hasRounds" "Z"
theorem wi_275 : ww_275 ∈ mj_tb := mj_t6 (i := 168) rfl rfl
abbrev ww_276 : Cond := .fieldLink RX12 359 "RentRiverModel" "roundTowns" "I"
theorem wi_276 : ww_276 ∈ mj_tb := mj_t6 (i := 167) rfl rfl
abbrev ww_277 : Cond := .fieldLink RX12 71 "RentRiverModel" "hasMonth" "[I"
theorem wi_277 : ww_277 ∈ mj_tb := mj_t6 (i := 165) rfl rfl
abbrev ww_278 : Cond := .fieldLink RX12 96 "RentRiverModel" "kept" "[I"
theorem wi_278 : ww_278 ∈ mj_tb := mj_t6 (i := 183) rfl rfl
abbrev ww_279 : Cond := .fieldLink RX12 99 "RentRiverModel" "namesKept" "[J"
theorem wi_279 : ww_279 ∈ mj_tb := mj_t6 (i := 184) rfl rfl
abbrev ww_280 : Cond := .fieldLink RX12 43 "RentRiverModel" "names" "[J"
theorem wi_280 : ww_280 ∈ mj_tb := mj_t6 (i := 133) rfl rfl
abbrev ww_281 : Cond := .fieldLink RX12 102 "RentRiverModel" "isKept" "[Z"
theorem wi_281 : ww_281 ∈ mj_tb := mj_t6 (i := 185) rfl rfl
abbrev ww_282 : Cond := .methodLink RX12 27 objectInit
theorem wi_282 : ww_282 ∈ mj_tb := mj_t6 (i := 99) rfl rfl
abbrev ww_283 : Cond := .fieldLink RX12 37 "RentRiverModel" "h" "[I"
theorem wi_283 : ww_283 ∈ mj_tb := mj_t6 (i := 131) rfl rfl
abbrev ww_284 : Cond := .fieldLink RX12 47 "RentRiverModel" "reserved" "[J"
theorem wi_284 : ww_284 ∈ mj_tb := mj_t6 (i := 134) rfl rfl
abbrev ww_285 : Cond := .fieldLink RX12 50 "RentRiverModel" "had" "[I"
theorem wi_285 : ww_285 ∈ mj_tb := mj_t6 (i := 147) rfl rfl
abbrev ww_286 : Cond := .fieldLink RX12 53 "RentRiverModel" "undone" "[I"
theorem wi_286 : ww_286 ∈ mj_tb := mj_t6 (i := 151) rfl rfl
abbrev ww_287 : Cond := .fieldLink RX12 56 "RentRiverModel" "leakTown" "I"
theorem wi_287 : ww_287 ∈ mj_tb := mj_t6 (i := 156) rfl rfl
abbrev ww_288 : Cond := .fieldLink RX12 74 "RentRiverModel" "prices" "[I"
theorem wi_288 : ww_288 ∈ mj_tb := mj_t6 (i := 166) rfl rfl
abbrev ww_289 : Cond := .fieldLink RX12 77 "RentRiverModel" "before" "[I"
theorem wi_289 : ww_289 ∈ mj_tb := mj_t6 (i := 169) rfl rfl
abbrev ww_290 : Cond := .fieldLink RX12 80 "RentRiverModel" "bidsKept" "[I"
theorem wi_290 : ww_290 ∈ mj_tb := mj_t6 (i := 170) rfl rfl
abbrev ww_291 : Cond := .fieldLink RX12 83 "RentRiverModel" "leaksFound" "[I"
theorem wi_291 : ww_291 ∈ mj_tb := mj_t6 (i := 172) rfl rfl
abbrev ww_292 : Cond := .fieldLink RX12 89 "RentRiverModel" "stack" "[I"
theorem wi_292 : ww_292 ∈ mj_tb := mj_t6 (i := 176) rfl rfl
abbrev ww_293 : Cond := .fieldLink RX12 92 "RentRiverModel" "values" "[Z"
theorem wi_293 : ww_293 ∈ mj_tb := mj_t6 (i := 182) rfl rfl
abbrev ww_294 : Cond := .constantLong RX12 105 (1953462126)
theorem wi_294 : ww_294 ∈ mj_tb := mj_t6 (i := 100) rfl rfl
abbrev ww_295 : Cond := .constantLong RX12 107 (512736126322)
theorem wi_295 : ww_295 ∈ mj_tb := mj_t6 (i := 101) rfl rfl
abbrev ww_296 : Cond := .constantLong RX12 109 (6449508)
theorem wi_296 : ww_296 ∈ mj_tb := mj_t6 (i := 102) rfl rfl
abbrev ww_297 : Cond := .constantLong RX12 111 (1852138852)
theorem wi_297 : ww_297 ∈ mj_tb := mj_t6 (i := 103) rfl rfl
abbrev ww_298 : Cond := .constantLong RX12 113 (1835625580)
theorem wi_298 : ww_298 ∈ mj_tb := mj_t6 (i := 104) rfl rfl
abbrev ww_299 : Cond := .constantLong RX12 115 (108243533981541)
theorem wi_299 : ww_299 ∈ mj_tb := mj_t6 (i := 105) rfl rfl
abbrev ww_300 : Cond := .constantLong RX12 117 (439854918756)
theorem wi_300 : ww_300 ∈ mj_tb := mj_t6 (i := 106) rfl rfl
abbrev ww_301 : Cond := .constantLong RX12 119 (1836021349)
theorem wi_301 : ww_301 ∈ mj_tb := mj_t6 (i := 107) rfl rfl
abbrev ww_302 : Cond := .constantLong RX12 121 (1718186856)
theorem wi_302 : ww_302 ∈ mj_tb := mj_t6 (i := 108) rfl rfl
abbrev ww_303 : Cond := .constantLong RX12 123 (8097881601010983781)
theorem wi_303 : ww_303 ∈ mj_tb := mj_t6 (i := 109) rfl rfl
abbrev ww_304 : Cond := .constantLong RX12 125 (7103860)
theorem wi_304 : ww_304 ∈ mj_tb := mj_t6 (i := 110) rfl rfl
abbrev ww_305 : Cond := .constantLong RX12 127 (7562593)
theorem wi_305 : ww_305 ∈ mj_tb := mj_t6 (i := 111) rfl rfl
abbrev ww_306 : Cond := .constantLong RX12 129 (28530)
theorem wi_306 : ww_306 ∈ mj_tb := mj_t6 (i := 112) rfl rfl
abbrev ww_307 : Cond := .constantLong RX12 131 (6385252)
theorem wi_307 : ww_307 ∈ mj_tb := mj_t6 (i := 113) rfl rfl
abbrev ww_308 : Cond := .constantLong RX12 133 (7237492)
theorem wi_308 : ww_308 ∈ mj_tb := mj_t6 (i := 114) rfl rfl
abbrev ww_309 : Cond := .constantLong RX12 135 (495673373285)
theorem wi_309 : ww_309 ∈ mj_tb := mj_t6 (i := 115) rfl rfl
abbrev ww_310 : Cond := .constantLong RX12 137 (32765899399459961)
theorem wi_310 : ww_310 ∈ mj_tb := mj_t6 (i := 116) rfl rfl
abbrev ww_311 : Cond := .constantLong RX12 139 (1886350948)
theorem wi_311 : ww_311 ∈ mj_tb := mj_t6 (i := 117) rfl rfl
abbrev ww_312 : Cond := .constantLong RX12 141 (483006772069)
theorem wi_312 : ww_312 ∈ mj_tb := mj_t6 (i := 118) rfl rfl
abbrev ww_313 : Cond := .constantLong RX12 143 (1885432164)
theorem wi_313 : ww_313 ∈ mj_tb := mj_t6 (i := 119) rfl rfl
abbrev ww_314 : Cond := .constantLong RX12 145 (6582905)
theorem wi_314 : ww_314 ∈ mj_tb := mj_t6 (i := 120) rfl rfl
abbrev ww_315 : Cond := .constantLong RX12 147 (1818588275)
theorem wi_315 : ww_315 ∈ mj_tb := mj_t6 (i := 121) rfl rfl
abbrev ww_316 : Cond := .constantLong RX12 149 (444300879214)
theorem wi_316 : ww_316 ∈ mj_tb := mj_t6 (i := 122) rfl rfl
abbrev ww_317 : Cond := .constantLong RX12 151 (482854658917)
theorem wi_317 : ww_317 ∈ mj_tb := mj_t6 (i := 123) rfl rfl
abbrev ww_318 : Cond := .fieldLink RX12 173 "RentRiverModel" "number" "I"
theorem wi_318 : ww_318 ∈ mj_tb := mj_t6 (i := 138) rfl rfl
abbrev ww_319 : Cond := .fieldLink RX12 176 "RentRiverModel" "word" "J"
theorem wi_319 : ww_319 ∈ mj_tb := mj_t6 (i := 141) rfl rfl
abbrev ww_320 : Cond := .methodLink RX12 202 yX12_isWord
theorem wi_320 : ww_320 ∈ mj_tb := mj_t7 (i := 97) rfl rfl
abbrev ww_321 : Cond := .fieldLink RX12 378 "RentRiverModel" "leakMany" "I"
theorem wi_321 : ww_321 ∈ mj_tb := mj_t6 (i := 173) rfl rfl
abbrev ww_322 : Cond := .fieldLink RX12 18 "RentRiverModel" "size" "I"
theorem wi_322 : ww_322 ∈ mj_tb := mj_t6 (i := 127) rfl rfl
abbrev ww_323 : Cond := .fieldLink RX12 327 "RentRiverModel" "leakMonth" "I"
theorem wi_323 : ww_323 ∈ mj_tb := mj_t6 (i := 157) rfl rfl
abbrev ww_324 : Cond := .fieldLink RX12 330 "RentRiverModel" "leakMuch" "I"
theorem wi_324 : ww_324 ∈ mj_tb := mj_t6 (i := 158) rfl rfl
abbrev ww_325 : Cond := .methodLink RX12 153 yX12_peek
theorem wi_325 : ww_325 ∈ mj_tb := mj_t7 (i := 83) rfl rfl
abbrev ww_326 : Cond := .fieldLink RX12 21 "RentRiverModel" "p" "I"
theorem wi_326 : ww_326 ∈ mj_tb := mj_t6 (i := 128) rfl rfl
abbrev ww_327 : Cond := .fieldLink RX12 160 "RentRiverModel" "span" "I"
theorem wi_327 : ww_327 ∈ mj_tb := mj_t6 (i := 137) rfl rfl
abbrev ww_328 : Cond := .fieldLink RX12 24 "RentRiverModel" "limit" "I"
theorem wi_328 : ww_328 ∈ mj_tb := mj_t6 (i := 129) rfl rfl
abbrev ww_329 : Cond := .fieldLink RX12 254 "RentRiverModel" "undoMany" "I"
theorem wi_329 : ww_329 ∈ mj_tb := mj_t6 (i := 152) rfl rfl
abbrev ww_330 : Cond := .methodLink RX12 186 yX12_isSign
theorem wi_330 : ww_330 ∈ mj_tb := mj_t7 (i := 139) rfl rfl
abbrev ww_331 : Cond := .methodLink RX12 418 yX12_leafOf
theorem wi_331 : ww_331 ∈ mj_tb := mj_t8 (i := 192) rfl rfl
abbrev ww_332 : Cond := .methodLink RX12 189 yX12_bad
theorem wi_332 : ww_332 ∈ mj_tb := mj_t7 (i := 105) rfl rfl
abbrev ww_333 : Cond := .fieldLink RX12 421 "RentRiverModel" "ones" "I"
theorem wi_333 : ww_333 ∈ mj_tb := mj_t6 (i := 178) rfl rfl
abbrev ww_334 : Cond := .fieldLink RX12 415 "RentRiverModel" "deep" "I"
theorem wi_334 : ww_334 ∈ mj_tb := mj_t6 (i := 180) rfl rfl
abbrev ww_335 : Cond := .fieldLink RX12 409 "RentRiverModel" "top" "I"
theorem wi_335 : ww_335 ∈ mj_tb := mj_t6 (i := 179) rfl rfl
abbrev ww_336 : Cond := .fieldLink RX12 424 "RentRiverModel" "isWhole" "Z"
theorem wi_336 : ww_336 ∈ mj_tb := mj_t6 (i := 181) rfl rfl
abbrev ww_337 : Cond := .fieldLink RX12 245 "RentRiverModel" "rows" "I"
theorem wi_337 : ww_337 ∈ mj_tb := mj_t6 (i := 143) rfl rfl
abbrev ww_338 : Cond := .fieldLink RX12 229 "RentRiverModel" "onces" "I"
theorem wi_338 : ww_338 ∈ mj_tb := mj_t6 (i := 144) rfl rfl
abbrev ww_339 : Cond := .fieldLink RX12 239 "RentRiverModel" "bids" "I"
theorem wi_339 : ww_339 ∈ mj_tb := mj_t6 (i := 145) rfl rfl
abbrev ww_340 : Cond := .fieldLink RX12 210 "RentRiverModel" "rain" "I"
theorem wi_340 : ww_340 ∈ mj_tb := mj_t6 (i := 146) rfl rfl
abbrev ww_341 : Cond := .fieldLink RX12 257 "RentRiverModel" "plainsRead" "I"
theorem wi_341 : ww_341 ∈ mj_tb := mj_t6 (i := 150) rfl rfl
abbrev ww_342 : Cond := .fieldLink RX12 406 "RentRiverModel" "codes" "I"
theorem wi_342 : ww_342 ∈ mj_tb := mj_t6 (i := 177) rfl rfl
abbrev ww_343 : Cond := .methodLink RX12 436 yX12_operand
theorem wi_343 : ww_343 ∈ mj_tb := mj_t8 (i := 188) rfl rfl
abbrev ww_344 : Cond := .methodLink RX12 266 yX12_throwsIf
theorem wi_344 : ww_344 ∈ mj_tb := mj_t7 (i := 155) rfl rfl
abbrev ww_345 : Cond := .code yX0_init cX0_init 1 none
theorem wi_345 : ww_345 ∈ mj_tb := mj_t2 (i := 94) rfl rfl
abbrev ww_346 : Cond := .instanceMethod yX0_init
theorem wi_346 : ww_346 ∈ mj_tb := mj_t2 (i := 93) rfl rfl
abbrev ww_347 : Cond := .code yX1_clear cX1_clear 2 none
theorem wi_347 : ww_347 ∈ mj_tb := mj_t1 (i := 179) rfl rfl
abbrev ww_348 : Cond := .instanceMethod yX1_clear
theorem wi_348 : ww_348 ∈ mj_tb := mj_t1 (i := 177) rfl rfl
abbrev ww_349 : Cond := .selects RX1 yX1_clear yX1_clear
theorem wi_349 : ww_349 ∈ mj_tb := mj_t1 (i := 178) rfl rfl
abbrev ww_350 : Cond := .code yX1_copy cX1_copy 2 none
theorem wi_350 : ww_350 ∈ mj_tb := mj_t5 (i := 230) rfl rfl
abbrev ww_351 : Cond := .instanceMethod yX1_copy
theorem wi_351 : ww_351 ∈ mj_tb := mj_t5 (i := 228) rfl rfl
abbrev ww_352 : Cond := .selects RX1 yX1_copy yX1_copy
theorem wi_352 : ww_352 ∈ mj_tb := mj_t5 (i := 229) rfl rfl
abbrev ww_353 : Cond := .code yX1_init cX1_init 1 none
theorem wi_353 : ww_353 ∈ mj_tb := mj_t1 (i := 174) rfl rfl
abbrev ww_354 : Cond := .instanceMethod yX1_init
theorem wi_354 : ww_354 ∈ mj_tb := mj_t1 (i := 173) rfl rfl
abbrev ww_355 : Cond := .code yX1_readRows cX1_readRows 4 none
theorem wi_355 : ww_355 ∈ mj_tb := mj_t3 (i := 239) rfl rfl
abbrev ww_356 : Cond := .instanceMethod yX1_readRows
theorem wi_356 : ww_356 ∈ mj_tb := mj_t3 (i := 237) rfl rfl
abbrev ww_357 : Cond := .selects RX1 yX1_readRows yX1_readRows
theorem wi_357 : ww_357 ∈ mj_tb := mj_t3 (i := 238) rfl rfl
abbrev ww_358 : Cond := .code yX1_tells cX1_tells 2 (some .boolean)
theorem wi_358 : ww_358 ∈ mj_tb := mj_t4 (i := 14) rfl rfl
abbrev ww_359 : Cond := .instanceMethod yX1_tells
theorem wi_359 : ww_359 ∈ mj_tb := mj_t4 (i := 12) rfl rfl
abbrev ww_360 : Cond := .selects RX1 yX1_tells yX1_tells
theorem wi_360 : ww_360 ∈ mj_tb := mj_t4 (i := 13) rfl rfl
abbrev ww_361 : Cond := .code yX2_init cX2_init 1 none
theorem wi_361 : ww_361 ∈ mj_tb := mj_t2 (i := 184) rfl rfl
abbrev ww_362 : Cond := .instanceMethod yX2_init
theorem wi_362 : ww_362 ∈ mj_tb := mj_t2 (i := 183) rfl rfl
abbrev ww_363 : Cond := .code yX2_readLevels cX2_readLevels 8 (some .boolean)
theorem wi_363 : ww_363 ∈ mj_tb := mj_t5 (i := 14) rfl rfl
abbrev ww_364 : Cond := .instanceMethod yX2_readLevels
theorem wi_364 : ww_364 ∈ mj_tb := mj_t5 (i := 12) rfl rfl
abbrev ww_365 : Cond := .selects RX2 yX2_readLevels yX2_readLevels
theorem wi_365 : ww_365 ∈ mj_tb := mj_t5 (i := 13) rfl rfl
abbrev ww_366 : Cond := .code yX3_clear cX3_clear 3 none
theorem wi_366 : ww_366 ∈ mj_tb := mj_t3 (i := 44) rfl rfl
abbrev ww_367 : Cond := .instanceMethod yX3_clear
theorem wi_367 : ww_367 ∈ mj_tb := mj_t3 (i := 42) rfl rfl
abbrev ww_368 : Cond := .selects RX3 yX3_clear yX3_clear
theorem wi_368 : ww_368 ∈ mj_tb := mj_t3 (i := 43) rfl rfl
abbrev ww_369 : Cond := .code yX3_copy cX3_copy 3 none
theorem wi_369 : ww_369 ∈ mj_tb := mj_t5 (i := 113) rfl rfl
abbrev ww_370 : Cond := .instanceMethod yX3_copy
theorem wi_370 : ww_370 ∈ mj_tb := mj_t5 (i := 111) rfl rfl
abbrev ww_371 : Cond := .selects RX3 yX3_copy yX3_copy
theorem wi_371 : ww_371 ∈ mj_tb := mj_t5 (i := 112) rfl rfl
abbrev ww_372 : Cond := .code yX3_init cX3_init 1 none
theorem wi_372 : ww_372 ∈ mj_tb := mj_t1 (i := 94) rfl rfl
abbrev ww_373 : Cond := .instanceMethod yX3_init
theorem wi_373 : ww_373 ∈ mj_tb := mj_t1 (i := 93) rfl rfl
abbrev ww_374 : Cond := .code yX3_readRows cX3_readRows 3 (some .int)
theorem wi_374 : ww_374 ∈ mj_tb := mj_t3 (i := 52) rfl rfl
abbrev ww_375 : Cond := .instanceMethod yX3_readRows
theorem wi_375 : ww_375 ∈ mj_tb := mj_t3 (i := 50) rfl rfl
abbrev ww_376 : Cond := .selects RX3 yX3_readRows yX3_readRows
theorem wi_376 : ww_376 ∈ mj_tb := mj_t3 (i := 51) rfl rfl
abbrev ww_377 : Cond := .code yX4_init cX4_init 1 none
theorem wi_377 : ww_377 ∈ mj_tb := mj_t2 (i := 162) rfl rfl
abbrev ww_378 : Cond := .instanceMethod yX4_init
theorem wi_378 : ww_378 ∈ mj_tb := mj_t2 (i := 161) rfl rfl
abbrev ww_379 : Cond := .code yX5_begins cX5_begins 1 (some .boolean)
theorem wi_379 : ww_379 ∈ mj_tb := mj_t5 (i := 161) rfl rfl
abbrev ww_380 : Cond := .static yX5_begins
theorem wi_380 : ww_380 ∈ mj_tb := mj_t5 (i := 160) rfl rfl
abbrev ww_381 : Cond := .code yX5_clear cX5_clear 1 none
theorem wi_381 : ww_381 ∈ mj_tb := mj_t3 (i := 187) rfl rfl
abbrev ww_382 : Cond := .instanceMethod yX5_clear
theorem wi_382 : ww_382 ∈ mj_tb := mj_t3 (i := 185) rfl rfl
abbrev ww_383 : Cond := .selects RX5 yX5_clear yX5_clear
theorem wi_383 : ww_383 ∈ mj_tb := mj_t3 (i := 186) rfl rfl
abbrev ww_384 : Cond := .code yX5_copy cX5_copy 3 none
theorem wi_384 : ww_384 ∈ mj_tb := mj_t5 (i := 235) rfl rfl
abbrev ww_385 : Cond := .instanceMethod yX5_copy
theorem wi_385 : ww_385 ∈ mj_tb := mj_t5 (i := 233) rfl rfl
abbrev ww_386 : Cond := .selects RX5 yX5_copy yX5_copy
theorem wi_386 : ww_386 ∈ mj_tb := mj_t5 (i := 234) rfl rfl
abbrev ww_387 : Cond := .code yX5_init cX5_init 1 none
theorem wi_387 : ww_387 ∈ mj_tb := mj_t1 (i := 204) rfl rfl
abbrev ww_388 : Cond := .instanceMethod yX5_init
theorem wi_388 : ww_388 ∈ mj_tb := mj_t1 (i := 203) rfl rfl
abbrev ww_389 : Cond := .code yX5_readAll cX5_readAll 4 (some .boolean)
theorem wi_389 : ww_389 ∈ mj_tb := mj_t5 (i := 153) rfl rfl
abbrev ww_390 : Cond := .instanceMethod yX5_readAll
theorem wi_390 : ww_390 ∈ mj_tb := mj_t5 (i := 152) rfl rfl
abbrev ww_391 : Cond := .selects RX5 yX5_readAll yX5_readAll
theorem wi_391 : ww_391 ∈ mj_tb := mj_q4 (i := 4) rfl rfl rfl
abbrev ww_392 : Cond := .code yX5_readCond cX5_readCond 4 (some .boolean)
theorem wi_392 : ww_392 ∈ mj_tb := mj_t5 (i := 149) rfl rfl
abbrev ww_393 : Cond := .instanceMethod yX5_readCond
theorem wi_393 : ww_393 ∈ mj_tb := mj_t5 (i := 148) rfl rfl
abbrev ww_394 : Cond := .selects RX5 yX5_readCond yX5_readCond
theorem wi_394 : ww_394 ∈ mj_tb := mj_q4 (i := 3) rfl rfl rfl
abbrev ww_395 : Cond := .code yX5_readOne cX5_readOne 5 (some .boolean)
theorem wi_395 : ww_395 ∈ mj_tb := mj_t5 (i := 157) rfl rfl
abbrev ww_396 : Cond := .instanceMethod yX5_readOne
theorem wi_396 : ww_396 ∈ mj_tb := mj_t5 (i := 156) rfl rfl
abbrev ww_397 : Cond := .selects RX5 yX5_readOne yX5_readOne
theorem wi_397 : ww_397 ∈ mj_tb := mj_q4 (i := 5) rfl rfl rfl
abbrev ww_398 : Cond := .code yX5_readText cX5_readText 2 none
theorem wi_398 : ww_398 ∈ mj_tb := mj_t5 (i := 144) rfl rfl
abbrev ww_399 : Cond := .instanceMethod yX5_readText
theorem wi_399 : ww_399 ∈ mj_tb := mj_t5 (i := 142) rfl rfl
abbrev ww_400 : Cond := .selects RX5 yX5_readText yX5_readText
theorem wi_400 : ww_400 ∈ mj_tb := mj_t5 (i := 143) rfl rfl
abbrev ww_401 : Cond := .code yX6_copy cX6_copy 2 none
theorem wi_401 : ww_401 ∈ mj_tb := mj_t5 (i := 225) rfl rfl
abbrev ww_402 : Cond := .instanceMethod yX6_copy
theorem wi_402 : ww_402 ∈ mj_tb := mj_t5 (i := 223) rfl rfl
abbrev ww_403 : Cond := .selects RX6 yX6_copy yX6_copy
theorem wi_403 : ww_403 ∈ mj_tb := mj_t5 (i := 224) rfl rfl
abbrev ww_404 : Cond := .code yX6_init cX6_init 1 none
theorem wi_404 : ww_404 ∈ mj_tb := mj_t1 (i := 88) rfl rfl
abbrev ww_405 : Cond := .instanceMethod yX6_init
theorem wi_405 : ww_405 ∈ mj_tb := mj_t1 (i := 87) rfl rfl
abbrev ww_406 : Cond := .code yX7_advance cX7_advance 2 none
theorem wi_406 : ww_406 ∈ mj_tb := mj_t3 (i := 56) rfl rfl
abbrev ww_407 : Cond := .instanceMethod yX7_advance
theorem wi_407 : ww_407 ∈ mj_tb := mj_t3 (i := 54) rfl rfl
abbrev ww_408 : Cond := .selects RX7 yX7_advance yX7_advance
theorem wi_408 : ww_408 ∈ mj_tb := mj_t3 (i := 55) rfl rfl
abbrev ww_409 : Cond := .code yX7_finish cX7_finish 1 (some .boolean)
theorem wi_409 : ww_409 ∈ mj_tb := mj_t3 (i := 182) rfl rfl
abbrev ww_410 : Cond := .instanceMethod yX7_finish
theorem wi_410 : ww_410 ∈ mj_tb := mj_t3 (i := 180) rfl rfl
abbrev ww_411 : Cond := .selects RX7 yX7_finish yX7_finish
theorem wi_411 : ww_411 ∈ mj_tb := mj_t3 (i := 181) rfl rfl
abbrev ww_412 : Cond := .code yX7_hasRoom cX7_hasRoom 1 (some .boolean)
theorem wi_412 : ww_412 ∈ mj_tb := mj_t3 (i := 28) rfl rfl
abbrev ww_413 : Cond := .instanceMethod yX7_hasRoom
theorem wi_413 : ww_413 ∈ mj_tb := mj_t3 (i := 26) rfl rfl
abbrev ww_414 : Cond := .selects RX7 yX7_hasRoom yX7_hasRoom
theorem wi_414 : ww_414 ∈ mj_tb := mj_t3 (i := 27) rfl rfl
abbrev ww_415 : Cond := .code yX7_init cX7_init 1 none
theorem wi_415 : ww_415 ∈ mj_tb := mj_t1 (i := 33) rfl rfl
abbrev ww_416 : Cond := .instanceMethod yX7_init
theorem wi_416 : ww_416 ∈ mj_tb := mj_t1 (i := 32) rfl rfl
abbrev ww_417 : Cond := .code yX7_isSign cX7_isSign 2 (some .boolean)
theorem wi_417 : ww_417 ∈ mj_tb := mj_t3 (i := 178) rfl rfl
abbrev ww_418 : Cond := .instanceMethod yX7_isSign
theorem wi_418 : ww_418 ∈ mj_tb := mj_t3 (i := 176) rfl rfl
abbrev ww_419 : Cond := .selects RX7 yX7_isSign yX7_isSign
theorem wi_419 : ww_419 ∈ mj_tb := mj_t3 (i := 177) rfl rfl
abbrev ww_420 : Cond := .code yX7_open cX7_open 2 none
theorem wi_420 : ww_420 ∈ mj_tb := mj_t3 (i := 48) rfl rfl
abbrev ww_421 : Cond := .instanceMethod yX7_open
theorem wi_421 : ww_421 ∈ mj_tb := mj_t3 (i := 46) rfl rfl
abbrev ww_422 : Cond := .selects RX7 yX7_open yX7_open
theorem wi_422 : ww_422 ∈ mj_tb := mj_t3 (i := 47) rfl rfl
abbrev ww_423 : Cond := .code yX7_put cX7_put 3 none
theorem wi_423 : ww_423 ∈ mj_tb := mj_t3 (i := 32) rfl rfl
abbrev ww_424 : Cond := .instanceMethod yX7_put
theorem wi_424 : ww_424 ∈ mj_tb := mj_t3 (i := 30) rfl rfl
abbrev ww_425 : Cond := .selects RX7 yX7_put yX7_put
theorem wi_425 : ww_425 ∈ mj_tb := mj_t3 (i := 31) rfl rfl
abbrev ww_426 : Cond := .code yX7_refuse cX7_refuse 2 (some .boolean)
theorem wi_426 : ww_426 ∈ mj_tb := mj_t3 (i := 86) rfl rfl
abbrev ww_427 : Cond := .instanceMethod yX7_refuse
theorem wi_427 : ww_427 ∈ mj_tb := mj_t3 (i := 84) rfl rfl
abbrev ww_428 : Cond := .selects RX7 yX7_refuse yX7_refuse
theorem wi_428 : ww_428 ∈ mj_tb := mj_t3 (i := 85) rfl rfl
abbrev ww_429 : Cond := .code yX8_back cX8_back 2 (some .int)
theorem wi_429 : ww_429 ∈ mj_tb := mj_t3 (i := 226) rfl rfl
abbrev ww_430 : Cond := .instanceMethod yX8_back
theorem wi_430 : ww_430 ∈ mj_tb := mj_t3 (i := 224) rfl rfl
abbrev ww_431 : Cond := .selects RX8 yX8_back yX8_back
theorem wi_431 : ww_431 ∈ mj_tb := mj_t3 (i := 225) rfl rfl
abbrev ww_432 : Cond := .code yX8_init cX8_init 1 none
theorem wi_432 : ww_432 ∈ mj_tb := mj_t2 (i := 74) rfl rfl
abbrev ww_433 : Cond := .instanceMethod yX8_init
theorem wi_433 : ww_433 ∈ mj_tb := mj_t2 (i := 73) rfl rfl
abbrev ww_434 : Cond := .code yX10_copy cX10_copy 3 none
theorem wi_434 : ww_434 ∈ mj_tb := mj_t5 (i := 28) rfl rfl
abbrev ww_435 : Cond := .instanceMethod yX10_copy
theorem wi_435 : ww_435 ∈ mj_tb := mj_t5 (i := 26) rfl rfl
abbrev ww_436 : Cond := .selects RX10 yX10_copy yX10_copy
theorem wi_436 : ww_436 ∈ mj_tb := mj_t5 (i := 27) rfl rfl
abbrev ww_437 : Cond := .code yX10_init cX10_init 1 none
theorem wi_437 : ww_437 ∈ mj_tb := mj_t1 (i := 233) rfl rfl
abbrev ww_438 : Cond := .instanceMethod yX10_init
theorem wi_438 : ww_438 ∈ mj_tb := mj_t1 (i := 232) rfl rfl
abbrev ww_439 : Cond := .code yX11_begin cX11_begin 1 (some .boolean)
theorem wi_439 : ww_439 ∈ mj_tb := mj_t4 (i := 36) rfl rfl
abbrev ww_440 : Cond := .initialized RX11
theorem wi_440 : ww_440 ∈ mj_tb := mj_t1 (i := 1) rfl rfl
abbrev ww_441 : Cond := .instanceMethod yX11_begin
theorem wi_441 : ww_441 ∈ mj_tb := mj_t4 (i := 34) rfl rfl
abbrev ww_442 : Cond := .selects RX11 yX11_begin yX11_begin
theorem wi_442 : ww_442 ∈ mj_tb := mj_t4 (i := 35) rfl rfl
abbrev ww_443 : Cond := .code yX11_bid cX11_bid 3 (some .int)
theorem wi_443 : ww_443 ∈ mj_tb := mj_t3 (i := 199) rfl rfl
abbrev ww_444 : Cond := .instanceMethod yX11_bid
theorem wi_444 : ww_444 ∈ mj_tb := mj_t3 (i := 197) rfl rfl
abbrev ww_445 : Cond := .selects RX11 yX11_bid yX11_bid
theorem wi_445 : ww_445 ∈ mj_tb := mj_t3 (i := 198) rfl rfl
abbrev ww_446 : Cond := .code yX11_bidsOf cX11_bidsOf 4 (some .int)
theorem wi_446 : ww_446 ∈ mj_tb := mj_t5 (i := 79) rfl rfl
abbrev ww_447 : Cond := .instanceMethod yX11_bidsOf
theorem wi_447 : ww_447 ∈ mj_tb := mj_t5 (i := 77) rfl rfl
abbrev ww_448 : Cond := .selects RX11 yX11_bidsOf yX11_bidsOf
theorem wi_448 : ww_448 ∈ mj_tb := mj_t5 (i := 78) rfl rfl
abbrev ww_449 : Cond := .code yX11_byteAt cX11_byteAt 2 (some .int)
theorem wi_449 : ww_449 ∈ mj_tb := mj_t5 (i := 105) rfl rfl
abbrev ww_450 : Cond := .instanceMethod yX11_byteAt
theorem wi_450 : ww_450 ∈ mj_tb := mj_t5 (i := 103) rfl rfl
abbrev ww_451 : Cond := .selects RX11 yX11_byteAt yX11_byteAt
theorem wi_451 : ww_451 ∈ mj_tb := mj_t5 (i := 104) rfl rfl
abbrev ww_452 : Cond := .code yX11_cheapest cX11_cheapest 1 (some .int)
theorem wi_452 : ww_452 ∈ mj_tb := mj_t4 (i := 136) rfl rfl
abbrev ww_453 : Cond := .instanceMethod yX11_cheapest
theorem wi_453 : ww_453 ∈ mj_tb := mj_t4 (i := 134) rfl rfl
abbrev ww_454 : Cond := .selects RX11 yX11_cheapest yX11_cheapest
theorem wi_454 : ww_454 ∈ mj_tb := mj_t4 (i := 135) rfl rfl
abbrev ww_455 : Cond := .code yX11_closeTape cX11_closeTape 2 (some .int)
theorem wi_455 : ww_455 ∈ mj_tb := mj_t3 (i := 191) rfl rfl
abbrev ww_456 : Cond := .instanceMethod yX11_closeTape
theorem wi_456 : ww_456 ∈ mj_tb := mj_t3 (i := 190) rfl rfl
abbrev ww_457 : Cond := .selects RX11 yX11_closeTape yX11_closeTape
theorem wi_457 : ww_457 ∈ mj_tb := mj_q1 (i := 10) rfl rfl rfl
abbrev ww_458 : Cond := .code yX11_contract cX11_contract 3 (some .int)
theorem wi_458 : ww_458 ∈ mj_tb := mj_t4 (i := 31) rfl rfl
abbrev ww_459 : Cond := .instanceMethod yX11_contract
theorem wi_459 : ww_459 ∈ mj_tb := mj_t4 (i := 29) rfl rfl
abbrev ww_460 : Cond := .selects RX11 yX11_contract yX11_contract
theorem wi_460 : ww_460 ∈ mj_tb := mj_t4 (i := 30) rfl rfl
abbrev ww_461 : Cond := .code yX11_contracts cX11_contracts 2 (some .int)
theorem wi_461 : ww_461 ∈ mj_tb := mj_t3 (i := 235) rfl rfl
abbrev ww_462 : Cond := .instanceMethod yX11_contracts
theorem wi_462 : ww_462 ∈ mj_tb := mj_t3 (i := 233) rfl rfl
abbrev ww_463 : Cond := .selects RX11 yX11_contracts yX11_contracts
theorem wi_463 : ww_463 ∈ mj_tb := mj_t3 (i := 234) rfl rfl
abbrev ww_464 : Cond := .code yX11_count cX11_count 2 (some .int)
theorem wi_464 : ww_464 ∈ mj_tb := mj_t6 (i := 4) rfl rfl
abbrev ww_465 : Cond := .instanceMethod yX11_count
theorem wi_465 : ww_465 ∈ mj_tb := mj_t6 (i := 2) rfl rfl
abbrev ww_466 : Cond := .selects RX11 yX11_count yX11_count
theorem wi_466 : ww_466 ∈ mj_tb := mj_t6 (i := 3) rfl rfl
abbrev ww_467 : Cond := .code yX11_drawn cX11_drawn 2 (some .int)
theorem wi_467 : ww_467 ∈ mj_tb := mj_t5 (i := 118) rfl rfl
abbrev ww_468 : Cond := .instanceMethod yX11_drawn
theorem wi_468 : ww_468 ∈ mj_tb := mj_t5 (i := 116) rfl rfl
abbrev ww_469 : Cond := .selects RX11 yX11_drawn yX11_drawn
theorem wi_469 : ww_469 ∈ mj_tb := mj_t5 (i := 117) rfl rfl
abbrev ww_470 : Cond := .code yX11_droughts cX11_droughts 3 (some .int)
theorem wi_470 : ww_470 ∈ mj_tb := mj_t4 (i := 132) rfl rfl
abbrev ww_471 : Cond := .instanceMethod yX11_droughts
theorem wi_471 : ww_471 ∈ mj_tb := mj_t4 (i := 130) rfl rfl
abbrev ww_472 : Cond := .selects RX11 yX11_droughts yX11_droughts
theorem wi_472 : ww_472 ∈ mj_tb := mj_t4 (i := 131) rfl rfl
abbrev ww_473 : Cond := .code yX11_end cX11_end 2 (some .boolean)
theorem wi_473 : ww_473 ∈ mj_tb := mj_t3 (i := 36) rfl rfl
abbrev ww_474 : Cond := .instanceMethod yX11_end
theorem wi_474 : ww_474 ∈ mj_tb := mj_t3 (i := 34) rfl rfl
abbrev ww_475 : Cond := .selects RX11 yX11_end yX11_end
theorem wi_475 : ww_475 ∈ mj_tb := mj_t3 (i := 35) rfl rfl
abbrev ww_476 : Cond := .code yX11_enough cX11_enough 6 (some .int)
theorem wi_476 : ww_476 ∈ mj_tb := mj_t5 (i := 54) rfl rfl
abbrev ww_477 : Cond := .instanceMethod yX11_enough
theorem wi_477 : ww_477 ∈ mj_tb := mj_t5 (i := 52) rfl rfl
abbrev ww_478 : Cond := .selects RX11 yX11_enough yX11_enough
theorem wi_478 : ww_478 ∈ mj_tb := mj_t5 (i := 53) rfl rfl
abbrev ww_479 : Cond := .code yX11_fault cX11_fault 1 (some .int)
theorem wi_479 : ww_479 ∈ mj_tb := mj_t3 (i := 195) rfl rfl
abbrev ww_480 : Cond := .instanceMethod yX11_fault
theorem wi_480 : ww_480 ∈ mj_tb := mj_t3 (i := 193) rfl rfl
abbrev ww_481 : Cond := .selects RX11 yX11_fault yX11_fault
theorem wi_481 : ww_481 ∈ mj_tb := mj_t3 (i := 194) rfl rfl
abbrev ww_482 : Cond := .code yX11_feed cX11_feed 6 (some .int)
theorem wi_482 : ww_482 ∈ mj_tb := mj_t3 (i := 24) rfl rfl
abbrev ww_483 : Cond := .instanceMethod yX11_feed
theorem wi_483 : ww_483 ∈ mj_tb := mj_t3 (i := 22) rfl rfl
abbrev ww_484 : Cond := .selects RX11 yX11_feed yX11_feed
theorem wi_484 : ww_484 ∈ mj_tb := mj_t3 (i := 23) rfl rfl
abbrev ww_485 : Cond := .code yX11_greatest cX11_greatest 5 (some .int)
theorem wi_485 : ww_485 ∈ mj_tb := mj_t5 (i := 83) rfl rfl
abbrev ww_486 : Cond := .instanceMethod yX11_greatest
theorem wi_486 : ww_486 ∈ mj_tb := mj_t5 (i := 81) rfl rfl
abbrev ww_487 : Cond := .selects RX11 yX11_greatest yX11_greatest
theorem wi_487 : ww_487 ∈ mj_tb := mj_t5 (i := 82) rfl rfl
abbrev ww_488 : Cond := .code yX11_has cX11_has 2 (some .int)
theorem wi_488 : ww_488 ∈ mj_tb := mj_t5 (i := 2) rfl rfl
abbrev ww_489 : Cond := .instanceMethod yX11_has
theorem wi_489 : ww_489 ∈ mj_tb := mj_t5 (i := 0) rfl rfl
abbrev ww_490 : Cond := .selects RX11 yX11_has yX11_has
theorem wi_490 : ww_490 ∈ mj_tb := mj_t5 (i := 1) rfl rfl
abbrev ww_491 : Cond := .code yX11_image cX11_image 2 (some .boolean)
theorem wi_491 : ww_491 ∈ mj_tb := mj_t5 (i := 221) rfl rfl
abbrev ww_492 : Cond := .instanceMethod yX11_image
theorem wi_492 : ww_492 ∈ mj_tb := mj_t5 (i := 219) rfl rfl
abbrev ww_493 : Cond := .selects RX11 yX11_image yX11_image
theorem wi_493 : ww_493 ∈ mj_tb := mj_t5 (i := 220) rfl rfl
abbrev ww_494 : Cond := .code yX11_init cX11_init 2 none
theorem wi_494 : ww_494 ∈ mj_tb := mj_t1 (i := 25) rfl rfl
abbrev ww_495 : Cond := .instanceMethod yX11_init
theorem wi_495 : ww_495 ∈ mj_tb := mj_t1 (i := 24) rfl rfl
abbrev ww_496 : Cond := .code yX11_isMonth cX11_isMonth 1 (some .boolean)
theorem wi_496 : ww_496 ∈ mj_tb := mj_t3 (i := 206) rfl rfl
abbrev ww_497 : Cond := .static yX11_isMonth
theorem wi_497 : ww_497 ∈ mj_tb := mj_t3 (i := 205) rfl rfl
abbrev ww_498 : Cond := .code yX11_isTown cX11_isTown 2 (some .boolean)
theorem wi_498 : ww_498 ∈ mj_tb := mj_t3 (i := 203) rfl rfl
abbrev ww_499 : Cond := .instanceMethod yX11_isTown
theorem wi_499 : ww_499 ∈ mj_tb := mj_t3 (i := 202) rfl rfl
abbrev ww_500 : Cond := .selects RX11 yX11_isTown yX11_isTown
theorem wi_500 : ww_500 ∈ mj_tb := mj_q1 (i := 11) rfl rfl rfl
abbrev ww_501 : Cond := .code yX11_leak cX11_leak 3 (some .int)
theorem wi_501 : ww_501 ∈ mj_tb := mj_t5 (i := 46) rfl rfl
abbrev ww_502 : Cond := .instanceMethod yX11_leak
theorem wi_502 : ww_502 ∈ mj_tb := mj_t5 (i := 44) rfl rfl
abbrev ww_503 : Cond := .selects RX11 yX11_leak yX11_leak
theorem wi_503 : ww_503 ∈ mj_tb := mj_t5 (i := 45) rfl rfl
abbrev ww_504 : Cond := .code yX11_leaks cX11_leaks 2 (some .int)
theorem wi_504 : ww_504 ∈ mj_tb := mj_t5 (i := 10) rfl rfl
abbrev ww_505 : Cond := .instanceMethod yX11_leaks
theorem wi_505 : ww_505 ∈ mj_tb := mj_t5 (i := 8) rfl rfl
abbrev ww_506 : Cond := .selects RX11 yX11_leaks yX11_leaks
theorem wi_506 : ww_506 ∈ mj_tb := mj_t5 (i := 9) rfl rfl
abbrev ww_507 : Cond := .code yX11_let cX11_let 3 (some .int)
theorem wi_507 : ww_507 ∈ mj_tb := mj_t4 (i := 128) rfl rfl
abbrev ww_508 : Cond := .instanceMethod yX11_let
theorem wi_508 : ww_508 ∈ mj_tb := mj_t4 (i := 126) rfl rfl
abbrev ww_509 : Cond := .selects RX11 yX11_let yX11_let
theorem wi_509 : ww_509 ∈ mj_tb := mj_t4 (i := 127) rfl rfl
abbrev ww_510 : Cond := .code yX11_must cX11_must 4 (some .int)
theorem wi_510 : ww_510 ∈ mj_tb := mj_t5 (i := 131) rfl rfl
abbrev ww_511 : Cond := .instanceMethod yX11_must
theorem wi_511 : ww_511 ∈ mj_tb := mj_t5 (i := 129) rfl rfl
abbrev ww_512 : Cond := .selects RX11 yX11_must yX11_must
theorem wi_512 : ww_512 ∈ mj_tb := mj_t5 (i := 130) rfl rfl
abbrev ww_513 : Cond := .code yX11_offer cX11_offer 5 (some .boolean)
theorem wi_513 : ww_513 ∈ mj_tb := mj_t3 (i := 210) rfl rfl
abbrev ww_514 : Cond := .instanceMethod yX11_offer
theorem wi_514 : ww_514 ∈ mj_tb := mj_t3 (i := 208) rfl rfl
abbrev ww_515 : Cond := .selects RX11 yX11_offer yX11_offer
theorem wi_515 : ww_515 ∈ mj_tb := mj_t3 (i := 209) rfl rfl
abbrev ww_516 : Cond := .code yX11_on cX11_on 3 (some .int)
theorem wi_516 : ww_516 ∈ mj_tb := mj_t4 (i := 44) rfl rfl
abbrev ww_517 : Cond := .instanceMethod yX11_on
theorem wi_517 : ww_517 ∈ mj_tb := mj_t4 (i := 42) rfl rfl
abbrev ww_518 : Cond := .selects RX11 yX11_on yX11_on
theorem wi_518 : ww_518 ∈ mj_tb := mj_t4 (i := 43) rfl rfl
abbrev ww_519 : Cond := .code yX11_plain cX11_plain 3 (some .int)
theorem wi_519 : ww_519 ∈ mj_tb := mj_t3 (i := 40) rfl rfl
abbrev ww_520 : Cond := .instanceMethod yX11_plain
theorem wi_520 : ww_520 ∈ mj_tb := mj_t3 (i := 38) rfl rfl
abbrev ww_521 : Cond := .selects RX11 yX11_plain yX11_plain
theorem wi_521 : ww_521 ∈ mj_tb := mj_t3 (i := 39) rfl rfl
abbrev ww_522 : Cond := .code yX11_plan cX11_plan 2 (some .int)
theorem wi_522 : ww_522 ∈ mj_tb := mj_t4 (i := 213) rfl rfl
abbrev ww_523 : Cond := .instanceMethod yX11_plan
theorem wi_523 : ww_523 ∈ mj_tb := mj_t4 (i := 211) rfl rfl
abbrev ww_524 : Cond := .selects RX11 yX11_plan yX11_plan
theorem wi_524 : ww_524 ∈ mj_tb := mj_t4 (i := 212) rfl rfl
abbrev ww_525 : Cond := .code yX11_price cX11_price 2 (some .int)
theorem wi_525 : ww_525 ∈ mj_tb := mj_t5 (i := 6) rfl rfl
abbrev ww_526 : Cond := .instanceMethod yX11_price
theorem wi_526 : ww_526 ∈ mj_tb := mj_t5 (i := 4) rfl rfl
abbrev ww_527 : Cond := .selects RX11 yX11_price yX11_price
theorem wi_527 : ww_527 ∈ mj_tb := mj_t5 (i := 5) rfl rfl
abbrev ww_528 : Cond := .code yX11_restore cX11_restore 2 (some .boolean)
theorem wi_528 : ww_528 ∈ mj_tb := mj_t6 (i := 0) rfl rfl
abbrev ww_529 : Cond := .instanceMethod yX11_restore
theorem wi_529 : ww_529 ∈ mj_tb := mj_t5 (i := 238) rfl rfl
abbrev ww_530 : Cond := .selects RX11 yX11_restore yX11_restore
theorem wi_530 : ww_530 ∈ mj_tb := mj_t5 (i := 239) rfl rfl
abbrev ww_531 : Cond := .code yX11_rounds cX11_rounds 2 (some .int)
theorem wi_531 : ww_531 ∈ mj_tb := mj_t4 (i := 222) rfl rfl
abbrev ww_532 : Cond := .instanceMethod yX11_rounds
theorem wi_532 : ww_532 ∈ mj_tb := mj_t4 (i := 220) rfl rfl
abbrev ww_533 : Cond := .selects RX11 yX11_rounds yX11_rounds
theorem wi_533 : ww_533 ∈ mj_tb := mj_t4 (i := 221) rfl rfl
abbrev ww_534 : Cond := .code yX11_said cX11_said 4 (some .int)
theorem wi_534 : ww_534 ∈ mj_tb := mj_t5 (i := 208) rfl rfl
abbrev ww_535 : Cond := .instanceMethod yX11_said
theorem wi_535 : ww_535 ∈ mj_tb := mj_t5 (i := 206) rfl rfl
abbrev ww_536 : Cond := .selects RX11 yX11_said yX11_said
theorem wi_536 : ww_536 ∈ mj_tb := mj_t5 (i := 207) rfl rfl
abbrev ww_537 : Cond := .code yX11_sentence cX11_sentence 2 (some .int)
theorem wi_537 : ww_537 ∈ mj_tb := mj_t5 (i := 140) rfl rfl
abbrev ww_538 : Cond := .instanceMethod yX11_sentence
theorem wi_538 : ww_538 ∈ mj_tb := mj_t5 (i := 138) rfl rfl
abbrev ww_539 : Cond := .selects RX11 yX11_sentence yX11_sentence
theorem wi_539 : ww_539 ∈ mj_tb := mj_t5 (i := 139) rfl rfl
abbrev ww_540 : Cond := .code yX11_shores cX11_shores 6 (some .int)
theorem wi_540 : ww_540 ∈ mj_tb := mj_t5 (i := 127) rfl rfl
abbrev ww_541 : Cond := .instanceMethod yX11_shores
theorem wi_541 : ww_541 ∈ mj_tb := mj_t5 (i := 125) rfl rfl
abbrev ww_542 : Cond := .selects RX11 yX11_shores yX11_shores
theorem wi_542 : ww_542 ∈ mj_tb := mj_t5 (i := 126) rfl rfl
abbrev ww_543 : Cond := .code yX11_shoresOf cX11_shoresOf 3 (some .int)
theorem wi_543 : ww_543 ∈ mj_tb := mj_t5 (i := 63) rfl rfl
abbrev ww_544 : Cond := .instanceMethod yX11_shoresOf
theorem wi_544 : ww_544 ∈ mj_tb := mj_t5 (i := 61) rfl rfl
abbrev ww_545 : Cond := .selects RX11 yX11_shoresOf yX11_shoresOf
theorem wi_545 : ww_545 ∈ mj_tb := mj_t5 (i := 62) rfl rfl
abbrev ww_546 : Cond := .code yX11_take cX11_take 3 (some .boolean)
theorem wi_546 : ww_546 ∈ mj_tb := mj_t4 (i := 217) rfl rfl
abbrev ww_547 : Cond := .instanceMethod yX11_take
theorem wi_547 : ww_547 ∈ mj_tb := mj_t4 (i := 215) rfl rfl
abbrev ww_548 : Cond := .selects RX11 yX11_take yX11_take
theorem wi_548 : ww_548 ∈ mj_tb := mj_t4 (i := 216) rfl rfl
abbrev ww_549 : Cond := .code yX11_thirsty cX11_thirsty 3 (some .int)
theorem wi_549 : ww_549 ∈ mj_tb := mj_t5 (i := 71) rfl rfl
abbrev ww_550 : Cond := .instanceMethod yX11_thirsty
theorem wi_550 : ww_550 ∈ mj_tb := mj_t5 (i := 69) rfl rfl
abbrev ww_551 : Cond := .selects RX11 yX11_thirsty yX11_thirsty
theorem wi_551 : ww_551 ∈ mj_tb := mj_t5 (i := 70) rfl rfl
abbrev ww_552 : Cond := .code yX11_town cX11_town 3 (some .int)
theorem wi_552 : ww_552 ∈ mj_tb := mj_t4 (i := 124) rfl rfl
abbrev ww_553 : Cond := .instanceMethod yX11_town
theorem wi_553 : ww_553 ∈ mj_tb := mj_t4 (i := 122) rfl rfl
abbrev ww_554 : Cond := .selects RX11 yX11_town yX11_town
theorem wi_554 : ww_554 ∈ mj_tb := mj_t4 (i := 123) rfl rfl
abbrev ww_555 : Cond := .code yX11_undo cX11_undo 1 (some .int)
theorem wi_555 : ww_555 ∈ mj_tb := mj_t3 (i := 222) rfl rfl
abbrev ww_556 : Cond := .instanceMethod yX11_undo
theorem wi_556 : ww_556 ∈ mj_tb := mj_t3 (i := 220) rfl rfl
abbrev ww_557 : Cond := .selects RX11 yX11_undo yX11_undo
theorem wi_557 : ww_557 ∈ mj_tb := mj_t3 (i := 221) rfl rfl
abbrev ww_558 : Cond := .code yX11_water cX11_water 2 (some .int)
theorem wi_558 : ww_558 ∈ mj_tb := mj_t3 (i := 231) rfl rfl
abbrev ww_559 : Cond := .instanceMethod yX11_water
theorem wi_559 : ww_559 ∈ mj_tb := mj_t3 (i := 229) rfl rfl
abbrev ww_560 : Cond := .selects RX11 yX11_water yX11_water
theorem wi_560 : ww_560 ∈ mj_tb := mj_t3 (i := 230) rfl rfl
abbrev ww_561 : Cond := .code yX11_wettest cX11_wettest 4 (some .int)
theorem wi_561 : ww_561 ∈ mj_tb := mj_t5 (i := 50) rfl rfl
abbrev ww_562 : Cond := .instanceMethod yX11_wettest
theorem wi_562 : ww_562 ∈ mj_tb := mj_t5 (i := 48) rfl rfl
abbrev ww_563 : Cond := .selects RX11 yX11_wettest yX11_wettest
theorem wi_563 : ww_563 ∈ mj_tb := mj_t5 (i := 49) rfl rfl
abbrev ww_564 : Cond := .code yX11_worth cX11_worth 4 (some .int)
theorem wi_564 : ww_564 ∈ mj_tb := mj_t5 (i := 109) rfl rfl
abbrev ww_565 : Cond := .instanceMethod yX11_worth
theorem wi_565 : ww_565 ∈ mj_tb := mj_t5 (i := 107) rfl rfl
abbrev ww_566 : Cond := .selects RX11 yX11_worth yX11_worth
theorem wi_566 : ww_566 ∈ mj_tb := mj_t5 (i := 108) rfl rfl
abbrev ww_567 : Cond := .code yX11_write cX11_write 2 (some .int)
theorem wi_567 : ww_567 ∈ mj_tb := mj_t5 (i := 87) rfl rfl
abbrev ww_568 : Cond := .instanceMethod yX11_write
theorem wi_568 : ww_568 ∈ mj_tb := mj_t5 (i := 85) rfl rfl
abbrev ww_569 : Cond := .selects RX11 yX11_write yX11_write
theorem wi_569 : ww_569 ∈ mj_tb := mj_t5 (i := 86) rfl rfl
abbrev ww_570 : Cond := .code yX11_year cX11_year 2 (some .int)
theorem wi_570 : ww_570 ∈ mj_tb := mj_t4 (i := 112) rfl rfl
abbrev ww_571 : Cond := .instanceMethod yX11_year
theorem wi_571 : ww_571 ∈ mj_tb := mj_t4 (i := 110) rfl rfl
abbrev ww_572 : Cond := .selects RX11 yX11_year yX11_year
theorem wi_572 : ww_572 ∈ mj_tb := mj_t4 (i := 111) rfl rfl
abbrev ww_573 : Cond := .code yX12_bad cX12_bad 2 (some .boolean)
theorem wi_573 : ww_573 ∈ mj_tb := mj_t7 (i := 108) rfl rfl
abbrev ww_574 : Cond := .initialized RX12
theorem wi_574 : ww_574 ∈ mj_tb := mj_t1 (i := 12) rfl rfl
abbrev ww_575 : Cond := .instanceMethod yX12_bad
theorem wi_575 : ww_575 ∈ mj_tb := mj_t7 (i := 107) rfl rfl
abbrev ww_576 : Cond := .selects RX12 yX12_bad yX12_bad
theorem wi_576 : ww_576 ∈ mj_tb := mj_q5 (i := 2) rfl rfl rfl
abbrev ww_577 : Cond := .code yX12_begin cX12_begin 1 (some .boolean)
theorem wi_577 : ww_577 ∈ mj_tb := mj_t7 (i := 205) rfl rfl
abbrev ww_578 : Cond := .instanceMethod yX12_begin
theorem wi_578 : ww_578 ∈ mj_tb := mj_t7 (i := 203) rfl rfl
abbrev ww_579 : Cond := .selects RX12 yX12_begin yX12_begin
theorem wi_579 : ww_579 ∈ mj_tb := mj_t7 (i := 204) rfl rfl
abbrev ww_580 : Cond := .code yX12_bid cX12_bid 3 (some .int)
theorem wi_580 : ww_580 ∈ mj_tb := mj_t7 (i := 166) rfl rfl
abbrev ww_581 : Cond := .instanceMethod yX12_bid
theorem wi_581 : ww_581 ∈ mj_tb := mj_t7 (i := 164) rfl rfl
abbrev ww_582 : Cond := .selects RX12 yX12_bid yX12_bid
theorem wi_582 : ww_582 ∈ mj_tb := mj_t7 (i := 165) rfl rfl
abbrev ww_583 : Cond := .code yX12_bidMany cX12_bidMany 3 (some .int)
theorem wi_583 : ww_583 ∈ mj_tb := mj_t7 (i := 185) rfl rfl
abbrev ww_584 : Cond := .instanceMethod yX12_bidMany
theorem wi_584 : ww_584 ∈ mj_tb := mj_t7 (i := 184) rfl rfl
abbrev ww_585 : Cond := .selects RX12 yX12_bidMany yX12_bidMany
theorem wi_585 : ww_585 ∈ mj_tb := mj_q5 (i := 14) rfl rfl rfl
abbrev ww_586 : Cond := .code yX12_bidsOf cX12_bidsOf 4 (some .int)
theorem wi_586 : ww_586 ∈ mj_tb := mj_t8 (i := 126) rfl rfl
abbrev ww_587 : Cond := .instanceMethod yX12_bidsOf
theorem wi_587 : ww_587 ∈ mj_tb := mj_t8 (i := 124) rfl rfl
abbrev ww_588 : Cond := .selects RX12 yX12_bidsOf yX12_bidsOf
theorem wi_588 : ww_588 ∈ mj_tb := mj_t8 (i := 125) rfl rfl
abbrev ww_589 : Cond := .code yX12_byteAt cX12_byteAt 2 (some .int)
theorem wi_589 : ww_589 ∈ mj_tb := mj_t8 (i := 151) rfl rfl
abbrev ww_590 : Cond := .instanceMethod yX12_byteAt
theorem wi_590 : ww_590 ∈ mj_tb := mj_t8 (i := 149) rfl rfl
abbrev ww_591 : Cond := .selects RX12 yX12_byteAt yX12_byteAt
theorem wi_591 : ww_591 ∈ mj_tb := mj_t8 (i := 150) rfl rfl
abbrev ww_592 : Cond := .code yX12_cheapest cX12_cheapest 5 (some .int)
theorem wi_592 : ww_592 ∈ mj_tb := mj_t8 (i := 36) rfl rfl
abbrev ww_593 : Cond := .instanceMethod yX12_cheapest
theorem wi_593 : ww_593 ∈ mj_tb := mj_t8 (i := 34) rfl rfl
abbrev ww_594 : Cond := .selects RX12 yX12_cheapest yX12_cheapest
theorem wi_594 : ww_594 ∈ mj_tb := mj_t8 (i := 35) rfl rfl
abbrev ww_595 : Cond := .code yX12_contract cX12_contract 3 (some .int)
theorem wi_595 : ww_595 ∈ mj_tb := mj_t7 (i := 201) rfl rfl
abbrev ww_596 : Cond := .instanceMethod yX12_contract
theorem wi_596 : ww_596 ∈ mj_tb := mj_t7 (i := 199) rfl rfl
abbrev ww_597 : Cond := .selects RX12 yX12_contract yX12_contract
theorem wi_597 : ww_597 ∈ mj_tb := mj_t7 (i := 200) rfl rfl
abbrev ww_598 : Cond := .code yX12_contracts cX12_contracts 3 (some .int)
theorem wi_598 : ww_598 ∈ mj_tb := mj_t7 (i := 193) rfl rfl
abbrev ww_599 : Cond := .instanceMethod yX12_contracts
theorem wi_599 : ww_599 ∈ mj_tb := mj_t7 (i := 191) rfl rfl
abbrev ww_600 : Cond := .selects RX12 yX12_contracts yX12_contracts
theorem wi_600 : ww_600 ∈ mj_tb := mj_t7 (i := 192) rfl rfl
abbrev ww_601 : Cond := .code yX12_count cX12_count 2 (some .int)
theorem wi_601 : ww_601 ∈ mj_tb := mj_t8 (i := 219) rfl rfl
abbrev ww_602 : Cond := .instanceMethod yX12_count
theorem wi_602 : ww_602 ∈ mj_tb := mj_t8 (i := 217) rfl rfl
abbrev ww_603 : Cond := .selects RX12 yX12_count yX12_count
theorem wi_603 : ww_603 ∈ mj_tb := mj_t8 (i := 218) rfl rfl
abbrev ww_604 : Cond := .code yX12_drawn cX12_drawn 3 (some .int)
theorem wi_604 : ww_604 ∈ mj_tb := mj_t8 (i := 159) rfl rfl
abbrev ww_605 : Cond := .instanceMethod yX12_drawn
theorem wi_605 : ww_605 ∈ mj_tb := mj_t8 (i := 157) rfl rfl
abbrev ww_606 : Cond := .selects RX12 yX12_drawn yX12_drawn
theorem wi_606 : ww_606 ∈ mj_tb := mj_t8 (i := 158) rfl rfl
abbrev ww_607 : Cond := .code yX12_droughts cX12_droughts 3 (some .int)
theorem wi_607 : ww_607 ∈ mj_tb := mj_t8 (i := 32) rfl rfl
abbrev ww_608 : Cond := .instanceMethod yX12_droughts
theorem wi_608 : ww_608 ∈ mj_tb := mj_t8 (i := 30) rfl rfl
abbrev ww_609 : Cond := .selects RX12 yX12_droughts yX12_droughts
theorem wi_609 : ww_609 ∈ mj_tb := mj_t8 (i := 31) rfl rfl
abbrev ww_610 : Cond := .code yX12_end cX12_end 2 (some .boolean)
theorem wi_610 : ww_610 ∈ mj_tb := mj_t6 (i := 94) rfl rfl
abbrev ww_611 : Cond := .instanceMethod yX12_end
theorem wi_611 : ww_611 ∈ mj_tb := mj_t6 (i := 92) rfl rfl
abbrev ww_612 : Cond := .selects RX12 yX12_end yX12_end
theorem wi_612 : ww_612 ∈ mj_tb := mj_t6 (i := 93) rfl rfl
abbrev ww_613 : Cond := .code yX12_enough cX12_enough 7 (some .int)
theorem wi_613 : ww_613 ∈ mj_tb := mj_t8 (i := 105) rfl rfl
abbrev ww_614 : Cond := .instanceMethod yX12_enough
theorem wi_614 : ww_614 ∈ mj_tb := mj_t8 (i := 103) rfl rfl
abbrev ww_615 : Cond := .selects RX12 yX12_enough yX12_enough
theorem wi_615 : ww_615 ∈ mj_tb := mj_t8 (i := 104) rfl rfl
abbrev ww_616 : Cond := .code yX12_fault cX12_fault 1 (some .int)
theorem wi_616 : ww_616 ∈ mj_tb := mj_t7 (i := 146) rfl rfl
abbrev ww_617 : Cond := .instanceMethod yX12_fault
theorem wi_617 : ww_617 ∈ mj_tb := mj_t7 (i := 144) rfl rfl
abbrev ww_618 : Cond := .selects RX12 yX12_fault yX12_fault
theorem wi_618 : ww_618 ∈ mj_tb := mj_t7 (i := 145) rfl rfl
abbrev ww_619 : Cond := .code yX12_feed cX12_feed 6 (some .int)
theorem wi_619 : ww_619 ∈ mj_tb := mj_t6 (i := 85) rfl rfl
abbrev ww_620 : Cond := .instanceMethod yX12_feed
theorem wi_620 : ww_620 ∈ mj_tb := mj_t6 (i := 83) rfl rfl
abbrev ww_621 : Cond := .selects RX12 yX12_feed yX12_feed
theorem wi_621 : ww_621 ∈ mj_tb := mj_t6 (i := 84) rfl rfl
abbrev ww_622 : Cond := .code yX12_four cX12_four 3 none
theorem wi_622 : ww_622 ∈ mj_tb := mj_t6 (i := 90) rfl rfl
abbrev ww_623 : Cond := .instanceMethod yX12_four
theorem wi_623 : ww_623 ∈ mj_tb := mj_t6 (i := 88) rfl rfl
abbrev ww_624 : Cond := .selects RX12 yX12_four yX12_four
theorem wi_624 : ww_624 ∈ mj_tb := mj_q4 (i := 11) rfl rfl rfl
abbrev ww_625 : Cond := .code yX12_greatest cX12_greatest 4 (some .int)
theorem wi_625 : ww_625 ∈ mj_tb := mj_t8 (i := 130) rfl rfl
abbrev ww_626 : Cond := .instanceMethod yX12_greatest
theorem wi_626 : ww_626 ∈ mj_tb := mj_t8 (i := 128) rfl rfl
abbrev ww_627 : Cond := .selects RX12 yX12_greatest yX12_greatest
theorem wi_627 : ww_627 ∈ mj_tb := mj_t8 (i := 129) rfl rfl
abbrev ww_628 : Cond := .code yX12_has cX12_has 2 (some .int)
theorem wi_628 : ww_628 ∈ mj_tb := mj_t8 (i := 69) rfl rfl
abbrev ww_629 : Cond := .instanceMethod yX12_has
theorem wi_629 : ww_629 ∈ mj_tb := mj_t8 (i := 67) rfl rfl
abbrev ww_630 : Cond := .selects RX12 yX12_has yX12_has
theorem wi_630 : ww_630 ∈ mj_tb := mj_t8 (i := 68) rfl rfl
abbrev ww_631 : Cond := .code yX12_image cX12_image 3 (some .boolean)
theorem wi_631 : ww_631 ∈ mj_tb := mj_t8 (i := 211) rfl rfl
abbrev ww_632 : Cond := .instanceMethod yX12_image
theorem wi_632 : ww_632 ∈ mj_tb := mj_t8 (i := 209) rfl rfl
abbrev ww_633 : Cond := .selects RX12 yX12_image yX12_image
theorem wi_633 : ww_633 ∈ mj_tb := mj_t8 (i := 210) rfl rfl
abbrev ww_634 : Cond := .code yX12_init cX12_init 1 none
theorem wi_634 : ww_634 ∈ mj_tb := mj_t6 (i := 98) rfl rfl
abbrev ww_635 : Cond := .instanceMethod yX12_init
theorem wi_635 : ww_635 ∈ mj_tb := mj_t6 (i := 97) rfl rfl
abbrev ww_636 : Cond := .code yX12_isIn cX12_isIn 3 (some .boolean)
theorem wi_636 : ww_636 ∈ mj_tb := mj_t7 (i := 123) rfl rfl
abbrev ww_637 : Cond := .static yX12_isIn
theorem wi_637 : ww_637 ∈ mj_tb := mj_t7 (i := 122) rfl rfl
abbrev ww_638 : Cond := .code yX12_isMonth cX12_isMonth 1 (some .boolean)
theorem wi_638 : ww_638 ∈ mj_tb := mj_t7 (i := 169) rfl rfl
abbrev ww_639 : Cond := .static yX12_isMonth
theorem wi_639 : ww_639 ∈ mj_tb := mj_t7 (i := 168) rfl rfl
abbrev ww_640 : Cond := .code yX12_isSign cX12_isSign 2 (some .boolean)
theorem wi_640 : ww_640 ∈ mj_tb := mj_t7 (i := 142) rfl rfl
abbrev ww_641 : Cond := .instanceMethod yX12_isSign
theorem wi_641 : ww_641 ∈ mj_tb := mj_t7 (i := 141) rfl rfl
abbrev ww_642 : Cond := .selects RX12 yX12_isSign yX12_isSign
theorem wi_642 : ww_642 ∈ mj_tb := mj_q5 (i := 9) rfl rfl rfl
abbrev ww_643 : Cond := .code yX12_isTown cX12_isTown 2 (some .boolean)
theorem wi_643 : ww_643 ∈ mj_tb := mj_t7 (i := 154) rfl rfl
abbrev ww_644 : Cond := .instanceMethod yX12_isTown
theorem wi_644 : ww_644 ∈ mj_tb := mj_t7 (i := 153) rfl rfl
abbrev ww_645 : Cond := .selects RX12 yX12_isTown yX12_isTown
theorem wi_645 : ww_645 ∈ mj_tb := mj_q5 (i := 10) rfl rfl rfl
abbrev ww_646 : Cond := .code yX12_isWord cX12_isWord 3 (some .boolean)
theorem wi_646 : ww_646 ∈ mj_tb := mj_t7 (i := 100) rfl rfl
abbrev ww_647 : Cond := .instanceMethod yX12_isWord
theorem wi_647 : ww_647 ∈ mj_tb := mj_t7 (i := 99) rfl rfl
abbrev ww_648 : Cond := .selects RX12 yX12_isWord yX12_isWord
theorem wi_648 : ww_648 ∈ mj_tb := mj_q5 (i := 0) rfl rfl rfl
abbrev ww_649 : Cond := .code yX12_leafOf cX12_leafOf 1 (some .int)
theorem wi_649 : ww_649 ∈ mj_tb := mj_t8 (i := 195) rfl rfl
abbrev ww_650 : Cond := .instanceMethod yX12_leafOf
theorem wi_650 : ww_650 ∈ mj_tb := mj_t8 (i := 194) rfl rfl
abbrev ww_651 : Cond := .selects RX12 yX12_leafOf yX12_leafOf
theorem wi_651 : ww_651 ∈ mj_tb := mj_q7 (i := 13) rfl rfl rfl
abbrev ww_652 : Cond := .code yX12_leak cX12_leak 3 (some .int)
theorem wi_652 : ww_652 ∈ mj_tb := mj_t8 (i := 97) rfl rfl
abbrev ww_653 : Cond := .instanceMethod yX12_leak
theorem wi_653 : ww_653 ∈ mj_tb := mj_t8 (i := 95) rfl rfl
abbrev ww_654 : Cond := .selects RX12 yX12_leak yX12_leak
theorem wi_654 : ww_654 ∈ mj_tb := mj_t8 (i := 96) rfl rfl
abbrev ww_655 : Cond := .code yX12_leaks cX12_leaks 7 (some .int)
theorem wi_655 : ww_655 ∈ mj_tb := mj_t8 (i := 77) rfl rfl
abbrev ww_656 : Cond := .instanceMethod yX12_leaks
theorem wi_656 : ww_656 ∈ mj_tb := mj_t8 (i := 75) rfl rfl
abbrev ww_657 : Cond := .selects RX12 yX12_leaks yX12_leaks
theorem wi_657 : ww_657 ∈ mj_tb := mj_t8 (i := 76) rfl rfl
abbrev ww_658 : Cond := .code yX12_let cX12_let 3 (some .int)
theorem wi_658 : ww_658 ∈ mj_tb := mj_t8 (i := 28) rfl rfl
abbrev ww_659 : Cond := .instanceMethod yX12_let
theorem wi_659 : ww_659 ∈ mj_tb := mj_t8 (i := 26) rfl rfl
abbrev ww_660 : Cond := .selects RX12 yX12_let yX12_let
theorem wi_660 : ww_660 ∈ mj_tb := mj_t8 (i := 27) rfl rfl
abbrev ww_661 : Cond := .code yX12_must cX12_must 7 (some .int)
theorem wi_661 : ww_661 ∈ mj_tb := mj_t8 (i := 167) rfl rfl
abbrev ww_662 : Cond := .instanceMethod yX12_must
theorem wi_662 : ww_662 ∈ mj_tb := mj_t8 (i := 165) rfl rfl
abbrev ww_663 : Cond := .selects RX12 yX12_must yX12_must
theorem wi_663 : ww_663 ∈ mj_tb := mj_t8 (i := 166) rfl rfl
abbrev ww_664 : Cond := .code yX12_next cX12_next 4 none
theorem wi_664 : ww_664 ∈ mj_tb := mj_t7 (i := 82) rfl rfl
abbrev ww_665 : Cond := .instanceMethod yX12_next
theorem wi_665 : ww_665 ∈ mj_tb := mj_t7 (i := 81) rfl rfl
abbrev ww_666 : Cond := .selects RX12 yX12_next yX12_next
theorem wi_666 : ww_666 ∈ mj_tb := mj_q4 (i := 13) rfl rfl rfl
abbrev ww_667 : Cond := .code yX12_offer cX12_offer 5 (some .boolean)
theorem wi_667 : ww_667 ∈ mj_tb := mj_t7 (i := 181) rfl rfl
abbrev ww_668 : Cond := .instanceMethod yX12_offer
theorem wi_668 : ww_668 ∈ mj_tb := mj_t7 (i := 179) rfl rfl
abbrev ww_669 : Cond := .selects RX12 yX12_offer yX12_offer
theorem wi_669 : ww_669 ∈ mj_tb := mj_t7 (i := 180) rfl rfl
abbrev ww_670 : Cond := .code yX12_on cX12_on 4 (some .int)
theorem wi_670 : ww_670 ∈ mj_tb := mj_t7 (i := 213) rfl rfl
abbrev ww_671 : Cond := .instanceMethod yX12_on
theorem wi_671 : ww_671 ∈ mj_tb := mj_t7 (i := 211) rfl rfl
abbrev ww_672 : Cond := .selects RX12 yX12_on yX12_on
theorem wi_672 : ww_672 ∈ mj_tb := mj_t7 (i := 212) rfl rfl
abbrev ww_673 : Cond := .code yX12_operand cX12_operand 5 (some .boolean)
theorem wi_673 : ww_673 ∈ mj_tb := mj_t8 (i := 191) rfl rfl
abbrev ww_674 : Cond := .instanceMethod yX12_operand
theorem wi_674 : ww_674 ∈ mj_tb := mj_t8 (i := 190) rfl rfl
abbrev ww_675 : Cond := .selects RX12 yX12_operand yX12_operand
theorem wi_675 : ww_675 ∈ mj_tb := mj_q7 (i := 12) rfl rfl rfl
abbrev ww_676 : Cond := .code yX12_peek cX12_peek 1 (some .int)
theorem wi_676 : ww_676 ∈ mj_tb := mj_t7 (i := 86) rfl rfl
abbrev ww_677 : Cond := .instanceMethod yX12_peek
theorem wi_677 : ww_677 ∈ mj_tb := mj_t7 (i := 85) rfl rfl
abbrev ww_678 : Cond := .selects RX12 yX12_peek yX12_peek
theorem wi_678 : ww_678 ∈ mj_tb := mj_q4 (i := 14) rfl rfl rfl
abbrev ww_679 : Cond := .code yX12_plain cX12_plain 2 (some .int)
theorem wi_679 : ww_679 ∈ mj_tb := mj_t7 (i := 74) rfl rfl
abbrev ww_680 : Cond := .instanceMethod yX12_plain
theorem wi_680 : ww_680 ∈ mj_tb := mj_t7 (i := 72) rfl rfl
abbrev ww_681 : Cond := .selects RX12 yX12_plain yX12_plain
theorem wi_681 : ww_681 ∈ mj_tb := mj_t7 (i := 73) rfl rfl
abbrev ww_682 : Cond := .code yX12_plan cX12_plan 2 (some .int)
theorem wi_682 : ww_682 ∈ mj_tb := mj_t8 (i := 53) rfl rfl
abbrev ww_683 : Cond := .instanceMethod yX12_plan
theorem wi_683 : ww_683 ∈ mj_tb := mj_t8 (i := 51) rfl rfl
abbrev ww_684 : Cond := .selects RX12 yX12_plan yX12_plan
theorem wi_684 : ww_684 ∈ mj_tb := mj_t8 (i := 52) rfl rfl
abbrev ww_685 : Cond := .code yX12_price cX12_price 2 (some .int)
theorem wi_685 : ww_685 ∈ mj_tb := mj_t8 (i := 73) rfl rfl
abbrev ww_686 : Cond := .instanceMethod yX12_price
theorem wi_686 : ww_686 ∈ mj_tb := mj_t8 (i := 71) rfl rfl
abbrev ww_687 : Cond := .selects RX12 yX12_price yX12_price
theorem wi_687 : ww_687 ∈ mj_tb := mj_t8 (i := 72) rfl rfl
abbrev ww_688 : Cond := .code yX12_restore cX12_restore 3 (some .boolean)
theorem wi_688 : ww_688 ∈ mj_tb := mj_t8 (i := 215) rfl rfl
abbrev ww_689 : Cond := .instanceMethod yX12_restore
theorem wi_689 : ww_689 ∈ mj_tb := mj_t8 (i := 213) rfl rfl
abbrev ww_690 : Cond := .selects RX12 yX12_restore yX12_restore
theorem wi_690 : ww_690 ∈ mj_tb := mj_t8 (i := 214) rfl rfl
abbrev ww_691 : Cond := .code yX12_rounds cX12_rounds 9 (some .int)
theorem wi_691 : ww_691 ∈ mj_tb := mj_t8 (i := 61) rfl rfl
abbrev ww_692 : Cond := .instanceMethod yX12_rounds
theorem wi_692 : ww_692 ∈ mj_tb := mj_t8 (i := 59) rfl rfl
abbrev ww_693 : Cond := .selects RX12 yX12_rounds yX12_rounds
theorem wi_693 : ww_693 ∈ mj_tb := mj_t8 (i := 60) rfl rfl
abbrev ww_694 : Cond := .code yX12_said cX12_said 4 (some .int)
theorem wi_694 : ww_694 ∈ mj_tb := mj_t8 (i := 199) rfl rfl
abbrev ww_695 : Cond := .instanceMethod yX12_said
theorem wi_695 : ww_695 ∈ mj_tb := mj_t8 (i := 197) rfl rfl
abbrev ww_696 : Cond := .selects RX12 yX12_said yX12_said
theorem wi_696 : ww_696 ∈ mj_tb := mj_t8 (i := 198) rfl rfl
abbrev ww_697 : Cond := .code yX12_sentence cX12_sentence 3 (some .int)
theorem wi_697 : ww_697 ∈ mj_tb := mj_t8 (i := 171) rfl rfl
abbrev ww_698 : Cond := .instanceMethod yX12_sentence
theorem wi_698 : ww_698 ∈ mj_tb := mj_t8 (i := 169) rfl rfl
abbrev ww_699 : Cond := .selects RX12 yX12_sentence yX12_sentence
theorem wi_699 : ww_699 ∈ mj_tb := mj_t8 (i := 170) rfl rfl
abbrev ww_700 : Cond := .code yX12_shores cX12_shores 6 (some .int)
theorem wi_700 : ww_700 ∈ mj_tb := mj_t8 (i := 163) rfl rfl
abbrev ww_701 : Cond := .instanceMethod yX12_shores
theorem wi_701 : ww_701 ∈ mj_tb := mj_t8 (i := 161) rfl rfl
abbrev ww_702 : Cond := .selects RX12 yX12_shores yX12_shores
theorem wi_702 : ww_702 ∈ mj_tb := mj_t8 (i := 162) rfl rfl
abbrev ww_703 : Cond := .code yX12_shoresOf cX12_shoresOf 3 (some .int)
theorem wi_703 : ww_703 ∈ mj_tb := mj_t8 (i := 109) rfl rfl
abbrev ww_704 : Cond := .instanceMethod yX12_shoresOf
theorem wi_704 : ww_704 ∈ mj_tb := mj_t8 (i := 107) rfl rfl
abbrev ww_705 : Cond := .selects RX12 yX12_shoresOf yX12_shoresOf
theorem wi_705 : ww_705 ∈ mj_tb := mj_t8 (i := 108) rfl rfl
abbrev ww_706 : Cond := .code yX12_take cX12_take 2 (some .boolean)
theorem wi_706 : ww_706 ∈ mj_tb := mj_t8 (i := 57) rfl rfl
abbrev ww_707 : Cond := .instanceMethod yX12_take
theorem wi_707 : ww_707 ∈ mj_tb := mj_t8 (i := 55) rfl rfl
abbrev ww_708 : Cond := .selects RX12 yX12_take yX12_take
theorem wi_708 : ww_708 ∈ mj_tb := mj_t8 (i := 56) rfl rfl
abbrev ww_709 : Cond := .code yX12_taken cX12_taken 2 none
theorem wi_709 : ww_709 ∈ mj_tb := mj_t7 (i := 78) rfl rfl
abbrev ww_710 : Cond := .instanceMethod yX12_taken
theorem wi_710 : ww_710 ∈ mj_tb := mj_t7 (i := 77) rfl rfl
abbrev ww_711 : Cond := .selects RX12 yX12_taken yX12_taken
theorem wi_711 : ww_711 ∈ mj_tb := mj_q4 (i := 12) rfl rfl rfl
abbrev ww_712 : Cond := .code yX12_thirsty cX12_thirsty 3 (some .int)
theorem wi_712 : ww_712 ∈ mj_tb := mj_t8 (i := 122) rfl rfl
abbrev ww_713 : Cond := .instanceMethod yX12_thirsty
theorem wi_713 : ww_713 ∈ mj_tb := mj_t8 (i := 120) rfl rfl
abbrev ww_714 : Cond := .selects RX12 yX12_thirsty yX12_thirsty
theorem wi_714 : ww_714 ∈ mj_tb := mj_t8 (i := 121) rfl rfl
abbrev ww_715 : Cond := .code yX12_thrown cX12_thrown 1 (some .int)
theorem wi_715 : ww_715 ∈ mj_tb := mj_t6 (i := 81) rfl rfl
abbrev ww_716 : Cond := .instanceMethod yX12_thrown
theorem wi_716 : ww_716 ∈ mj_tb := mj_t6 (i := 79) rfl rfl
abbrev ww_717 : Cond := .selects RX12 yX12_thrown yX12_thrown
theorem wi_717 : ww_717 ∈ mj_tb := mj_t6 (i := 80) rfl rfl
abbrev ww_718 : Cond := .code yX12_throwsIf cX12_throwsIf 2 (some .boolean)
theorem wi_718 : ww_718 ∈ mj_tb := mj_t7 (i := 158) rfl rfl
abbrev ww_719 : Cond := .instanceMethod yX12_throwsIf
theorem wi_719 : ww_719 ∈ mj_tb := mj_t7 (i := 157) rfl rfl
abbrev ww_720 : Cond := .selects RX12 yX12_throwsIf yX12_throwsIf
theorem wi_720 : ww_720 ∈ mj_tb := mj_q5 (i := 11) rfl rfl rfl
abbrev ww_721 : Cond := .code yX12_told cX12_told 3 (some .int)
theorem wi_721 : ww_721 ∈ mj_tb := mj_t7 (i := 150) rfl rfl
abbrev ww_722 : Cond := .instanceMethod yX12_told
theorem wi_722 : ww_722 ∈ mj_tb := mj_t7 (i := 148) rfl rfl
abbrev ww_723 : Cond := .selects RX12 yX12_told yX12_told
theorem wi_723 : ww_723 ∈ mj_tb := mj_t7 (i := 149) rfl rfl
abbrev ww_724 : Cond := .code yX12_town cX12_town 3 (some .int)
theorem wi_724 : ww_724 ∈ mj_tb := mj_t8 (i := 24) rfl rfl
abbrev ww_725 : Cond := .instanceMethod yX12_town
theorem wi_725 : ww_725 ∈ mj_tb := mj_t8 (i := 22) rfl rfl
abbrev ww_726 : Cond := .selects RX12 yX12_town yX12_town
theorem wi_726 : ww_726 ∈ mj_tb := mj_t8 (i := 23) rfl rfl
abbrev ww_727 : Cond := .code yX12_undo cX12_undo 1 (some .int)
theorem wi_727 : ww_727 ∈ mj_tb := mj_t7 (i := 189) rfl rfl
abbrev ww_728 : Cond := .instanceMethod yX12_undo
theorem wi_728 : ww_728 ∈ mj_tb := mj_t7 (i := 187) rfl rfl
abbrev ww_729 : Cond := .selects RX12 yX12_undo yX12_undo
theorem wi_729 : ww_729 ∈ mj_tb := mj_t7 (i := 188) rfl rfl
abbrev ww_730 : Cond := .code yX12_water cX12_water 2 (some .int)
theorem wi_730 : ww_730 ∈ mj_tb := mj_t7 (i := 177) rfl rfl
abbrev ww_731 : Cond := .instanceMethod yX12_water
theorem wi_731 : ww_731 ∈ mj_tb := mj_t7 (i := 175) rfl rfl
abbrev ww_732 : Cond := .selects RX12 yX12_water yX12_water
theorem wi_732 : ww_732 ∈ mj_tb := mj_t7 (i := 176) rfl rfl
abbrev ww_733 : Cond := .code yX12_wettest cX12_wettest 4 (some .int)
theorem wi_733 : ww_733 ∈ mj_tb := mj_t8 (i := 101) rfl rfl
abbrev ww_734 : Cond := .instanceMethod yX12_wettest
theorem wi_734 : ww_734 ∈ mj_tb := mj_t8 (i := 99) rfl rfl
abbrev ww_735 : Cond := .selects RX12 yX12_wettest yX12_wettest
theorem wi_735 : ww_735 ∈ mj_tb := mj_t8 (i := 100) rfl rfl
abbrev ww_736 : Cond := .code yX12_worth cX12_worth 5 (some .int)
theorem wi_736 : ww_736 ∈ mj_tb := mj_t8 (i := 155) rfl rfl
abbrev ww_737 : Cond := .instanceMethod yX12_worth
theorem wi_737 : ww_737 ∈ mj_tb := mj_t8 (i := 153) rfl rfl
abbrev ww_738 : Cond := .selects RX12 yX12_worth yX12_worth
theorem wi_738 : ww_738 ∈ mj_tb := mj_t8 (i := 154) rfl rfl
abbrev ww_739 : Cond := .code yX12_write cX12_write 2 (some .int)
theorem wi_739 : ww_739 ∈ mj_tb := mj_t8 (i := 134) rfl rfl
abbrev ww_740 : Cond := .instanceMethod yX12_write
theorem wi_740 : ww_740 ∈ mj_tb := mj_t8 (i := 132) rfl rfl
abbrev ww_741 : Cond := .selects RX12 yX12_write yX12_write
theorem wi_741 : ww_741 ∈ mj_tb := mj_t8 (i := 133) rfl rfl
abbrev ww_742 : Cond := .code yX12_year cX12_year 4 (some .int)
theorem wi_742 : ww_742 ∈ mj_tb := mj_t8 (i := 20) rfl rfl
abbrev ww_743 : Cond := .instanceMethod yX12_year
theorem wi_743 : ww_743 ∈ mj_tb := mj_t8 (i := 18) rfl rfl
abbrev ww_744 : Cond := .selects RX12 yX12_year yX12_year
theorem wi_744 : ww_744 ∈ mj_tb := mj_t8 (i := 19) rfl rfl
abbrev ww_745 : Cond := .classLink RL 8 RX11
theorem wi_745 : ww_745 ∈ mj_tb := mj_t1 (i := 21) rfl rfl
abbrev ww_746 : Cond := .instantiable RX11 14
theorem wi_746 : ww_746 ∈ mj_tb := mj_t1 (i := 22) rfl rfl
abbrev ww_747 : Cond := .methodLink RL 15 yX11_init
theorem wi_747 : ww_747 ∈ mj_tb := mj_t1 (i := 23) rfl rfl
abbrev ww_748 : Cond := .classLink RL 16 RX12
theorem wi_748 : ww_748 ∈ mj_tb := mj_t6 (i := 95) rfl rfl
abbrev ww_749 : Cond := .instantiable RX12 62
theorem wi_749 : ww_749 ∈ mj_tb := mj_t6 (i := 89) rfl rfl
abbrev ww_750 : Cond := .methodLink RL 18 yX12_init
theorem wi_750 : ww_750 ∈ mj_tb := mj_t6 (i := 96) rfl rfl
abbrev ww_751 : Cond := .methodLink RL 19 yX11_feed
theorem wi_751 : ww_751 ∈ mj_tb := mj_t3 (i := 21) rfl rfl
abbrev ww_752 : Cond := .methodLink RL 23 yX12_feed
theorem wi_752 : ww_752 ∈ mj_tb := mj_t6 (i := 82) rfl rfl
abbrev ww_753 : Cond := .methodLink RL 24 yX11_end
theorem wi_753 : ww_753 ∈ mj_tb := mj_t3 (i := 33) rfl rfl
abbrev ww_754 : Cond := .methodLink RL 28 yX12_end
theorem wi_754 : ww_754 ∈ mj_tb := mj_t6 (i := 91) rfl rfl
abbrev ww_755 : Cond := .methodLink RL 29 yX11_plain
theorem wi_755 : ww_755 ∈ mj_tb := mj_t3 (i := 37) rfl rfl
abbrev ww_756 : Cond := .methodLink RL 33 yX12_plain
theorem wi_756 : ww_756 ∈ mj_tb := mj_t7 (i := 71) rfl rfl
abbrev ww_757 : Cond := .methodLink RL 34 yX11_fault
theorem wi_757 : ww_757 ∈ mj_tb := mj_t3 (i := 192) rfl rfl
abbrev ww_758 : Cond := .methodLink RL 37 yX12_fault
theorem wi_758 : ww_758 ∈ mj_tb := mj_t7 (i := 143) rfl rfl
abbrev ww_759 : Cond := .methodLink RL 43 yX12_told
theorem wi_759 : ww_759 ∈ mj_tb := mj_t7 (i := 147) rfl rfl
abbrev ww_760 : Cond := .methodLink RL 44 yX12_thrown
theorem wi_760 : ww_760 ∈ mj_tb := mj_t6 (i := 78) rfl rfl
abbrev ww_761 : Cond := .methodLink RL 47 yX11_bid
theorem wi_761 : ww_761 ∈ mj_tb := mj_t3 (i := 196) rfl rfl
abbrev ww_762 : Cond := .methodLink RL 50 yX12_bid
theorem wi_762 : ww_762 ∈ mj_tb := mj_t7 (i := 163) rfl rfl
abbrev ww_763 : Cond := .methodLink RL 51 yX11_offer
theorem wi_763 : ww_763 ∈ mj_tb := mj_t3 (i := 207) rfl rfl
abbrev ww_764 : Cond := .methodLink RL 55 yX12_offer
theorem wi_764 : ww_764 ∈ mj_tb := mj_t7 (i := 178) rfl rfl
abbrev ww_765 : Cond := .methodLink RL 56 yX11_undo
theorem wi_765 : ww_765 ∈ mj_tb := mj_t3 (i := 219) rfl rfl
abbrev ww_766 : Cond := .methodLink RL 59 yX12_undo
theorem wi_766 : ww_766 ∈ mj_tb := mj_t7 (i := 186) rfl rfl
abbrev ww_767 : Cond := .methodLink RL 60 yX11_water
theorem wi_767 : ww_767 ∈ mj_tb := mj_t3 (i := 228) rfl rfl
abbrev ww_768 : Cond := .methodLink RL 64 yX12_water
theorem wi_768 : ww_768 ∈ mj_tb := mj_t7 (i := 174) rfl rfl
abbrev ww_769 : Cond := .methodLink RL 65 yX11_contracts
theorem wi_769 : ww_769 ∈ mj_tb := mj_t3 (i := 232) rfl rfl
abbrev ww_770 : Cond := .methodLink RL 68 yX12_contracts
theorem wi_770 : ww_770 ∈ mj_tb := mj_t7 (i := 190) rfl rfl
abbrev ww_771 : Cond := .methodLink RL 69 yX11_contract
theorem wi_771 : ww_771 ∈ mj_tb := mj_t4 (i := 28) rfl rfl
abbrev ww_772 : Cond := .methodLink RL 72 yX12_contract
theorem wi_772 : ww_772 ∈ mj_tb := mj_t7 (i := 198) rfl rfl
abbrev ww_773 : Cond := .methodLink RL 73 yX11_begin
theorem wi_773 : ww_773 ∈ mj_tb := mj_t4 (i := 33) rfl rfl
abbrev ww_774 : Cond := .methodLink RL 77 yX12_begin
theorem wi_774 : ww_774 ∈ mj_tb := mj_t7 (i := 202) rfl rfl
abbrev ww_775 : Cond := .methodLink RL 78 yX11_on
theorem wi_775 : ww_775 ∈ mj_tb := mj_t4 (i := 41) rfl rfl
abbrev ww_776 : Cond := .methodLink RL 81 yX12_on
theorem wi_776 : ww_776 ∈ mj_tb := mj_t7 (i := 210) rfl rfl
abbrev ww_777 : Cond := .methodLink RL 82 yX11_year
theorem wi_777 : ww_777 ∈ mj_tb := mj_t4 (i := 109) rfl rfl
abbrev ww_778 : Cond := .methodLink RL 85 yX12_year
theorem wi_778 : ww_778 ∈ mj_tb := mj_t8 (i := 17) rfl rfl
abbrev ww_779 : Cond := .methodLink RL 86 yX11_town
theorem wi_779 : ww_779 ∈ mj_tb := mj_t4 (i := 121) rfl rfl
abbrev ww_780 : Cond := .methodLink RL 89 yX12_town
theorem wi_780 : ww_780 ∈ mj_tb := mj_t8 (i := 21) rfl rfl
abbrev ww_781 : Cond := .methodLink RL 90 yX11_let
theorem wi_781 : ww_781 ∈ mj_tb := mj_t4 (i := 125) rfl rfl
abbrev ww_782 : Cond := .methodLink RL 93 yX12_let
theorem wi_782 : ww_782 ∈ mj_tb := mj_t8 (i := 25) rfl rfl
abbrev ww_783 : Cond := .methodLink RL 94 yX11_droughts
theorem wi_783 : ww_783 ∈ mj_tb := mj_t4 (i := 129) rfl rfl
abbrev ww_784 : Cond := .methodLink RL 97 yX12_droughts
theorem wi_784 : ww_784 ∈ mj_tb := mj_t8 (i := 29) rfl rfl
abbrev ww_785 : Cond := .methodLink RL 98 yX11_cheapest
theorem wi_785 : ww_785 ∈ mj_tb := mj_t4 (i := 133) rfl rfl
abbrev ww_786 : Cond := .methodLink RL 101 yX12_cheapest
theorem wi_786 : ww_786 ∈ mj_tb := mj_t8 (i := 33) rfl rfl
abbrev ww_787 : Cond := .methodLink RL 102 yX11_plan
theorem wi_787 : ww_787 ∈ mj_tb := mj_t4 (i := 210) rfl rfl
abbrev ww_788 : Cond := .methodLink RL 105 yX12_plan
theorem wi_788 : ww_788 ∈ mj_tb := mj_t8 (i := 50) rfl rfl
abbrev ww_789 : Cond := .methodLink RL 106 yX11_take
theorem wi_789 : ww_789 ∈ mj_tb := mj_t4 (i := 214) rfl rfl
abbrev ww_790 : Cond := .methodLink RL 109 yX12_take
theorem wi_790 : ww_790 ∈ mj_tb := mj_t8 (i := 54) rfl rfl
abbrev ww_791 : Cond := .methodLink RL 110 yX11_rounds
theorem wi_791 : ww_791 ∈ mj_tb := mj_t4 (i := 219) rfl rfl
abbrev ww_792 : Cond := .methodLink RL 113 yX12_rounds
theorem wi_792 : ww_792 ∈ mj_tb := mj_t8 (i := 58) rfl rfl
abbrev ww_793 : Cond := .methodLink RL 114 yX11_has
theorem wi_793 : ww_793 ∈ mj_tb := mj_t4 (i := 239) rfl rfl
abbrev ww_794 : Cond := .methodLink RL 117 yX12_has
theorem wi_794 : ww_794 ∈ mj_tb := mj_t8 (i := 66) rfl rfl
abbrev ww_795 : Cond := .methodLink RL 118 yX11_price
theorem wi_795 : ww_795 ∈ mj_tb := mj_t5 (i := 3) rfl rfl
abbrev ww_796 : Cond := .methodLink RL 121 yX12_price
theorem wi_796 : ww_796 ∈ mj_tb := mj_t8 (i := 70) rfl rfl
abbrev ww_797 : Cond := .methodLink RL 122 yX11_leaks
theorem wi_797 : ww_797 ∈ mj_tb := mj_t5 (i := 7) rfl rfl
abbrev ww_798 : Cond := .methodLink RL 125 yX12_leaks
theorem wi_798 : ww_798 ∈ mj_tb := mj_t8 (i := 74) rfl rfl
abbrev ww_799 : Cond := .methodLink RL 126 yX11_leak
theorem wi_799 : ww_799 ∈ mj_tb := mj_t5 (i := 43) rfl rfl
abbrev ww_800 : Cond := .methodLink RL 129 yX12_leak
theorem wi_800 : ww_800 ∈ mj_tb := mj_t8 (i := 94) rfl rfl
abbrev ww_801 : Cond := .methodLink RL 130 yX11_wettest
theorem wi_801 : ww_801 ∈ mj_tb := mj_t5 (i := 47) rfl rfl
abbrev ww_802 : Cond := .methodLink RL 133 yX12_wettest
theorem wi_802 : ww_802 ∈ mj_tb := mj_t8 (i := 98) rfl rfl
abbrev ww_803 : Cond := .methodLink RL 134 yX11_enough
theorem wi_803 : ww_803 ∈ mj_tb := mj_t5 (i := 51) rfl rfl
abbrev ww_804 : Cond := .methodLink RL 137 yX12_enough
theorem wi_804 : ww_804 ∈ mj_tb := mj_t8 (i := 102) rfl rfl
abbrev ww_805 : Cond := .methodLink RL 138 yX11_shoresOf
theorem wi_805 : ww_805 ∈ mj_tb := mj_t5 (i := 60) rfl rfl
abbrev ww_806 : Cond := .methodLink RL 141 yX12_shoresOf
theorem wi_806 : ww_806 ∈ mj_tb := mj_t8 (i := 106) rfl rfl
abbrev ww_807 : Cond := .methodLink RL 142 yX11_thirsty
theorem wi_807 : ww_807 ∈ mj_tb := mj_t5 (i := 68) rfl rfl
abbrev ww_808 : Cond := .methodLink RL 145 yX12_thirsty
theorem wi_808 : ww_808 ∈ mj_tb := mj_t8 (i := 119) rfl rfl
abbrev ww_809 : Cond := .methodLink RL 146 yX11_bidsOf
theorem wi_809 : ww_809 ∈ mj_tb := mj_t5 (i := 76) rfl rfl
abbrev ww_810 : Cond := .methodLink RL 149 yX12_bidsOf
theorem wi_810 : ww_810 ∈ mj_tb := mj_t8 (i := 123) rfl rfl
abbrev ww_811 : Cond := .methodLink RL 150 yX11_greatest
theorem wi_811 : ww_811 ∈ mj_tb := mj_t5 (i := 80) rfl rfl
abbrev ww_812 : Cond := .methodLink RL 153 yX12_greatest
theorem wi_812 : ww_812 ∈ mj_tb := mj_t8 (i := 127) rfl rfl
abbrev ww_813 : Cond := .methodLink RL 154 yX11_write
theorem wi_813 : ww_813 ∈ mj_tb := mj_t5 (i := 84) rfl rfl
abbrev ww_814 : Cond := .methodLink RL 157 yX12_write
theorem wi_814 : ww_814 ∈ mj_tb := mj_t8 (i := 131) rfl rfl
abbrev ww_815 : Cond := .methodLink RL 158 yX11_byteAt
theorem wi_815 : ww_815 ∈ mj_tb := mj_t5 (i := 102) rfl rfl
abbrev ww_816 : Cond := .methodLink RL 161 yX12_byteAt
theorem wi_816 : ww_816 ∈ mj_tb := mj_t8 (i := 148) rfl rfl
abbrev ww_817 : Cond := .methodLink RL 162 yX11_worth
theorem wi_817 : ww_817 ∈ mj_tb := mj_t5 (i := 106) rfl rfl
abbrev ww_818 : Cond := .methodLink RL 165 yX12_worth
theorem wi_818 : ww_818 ∈ mj_tb := mj_t8 (i := 152) rfl rfl
abbrev ww_819 : Cond := .methodLink RL 166 yX11_drawn
theorem wi_819 : ww_819 ∈ mj_tb := mj_t5 (i := 115) rfl rfl
abbrev ww_820 : Cond := .methodLink RL 169 yX12_drawn
theorem wi_820 : ww_820 ∈ mj_tb := mj_t8 (i := 156) rfl rfl
abbrev ww_821 : Cond := .methodLink RL 170 yX11_shores
theorem wi_821 : ww_821 ∈ mj_tb := mj_t5 (i := 124) rfl rfl
abbrev ww_822 : Cond := .methodLink RL 174 yX12_shores
theorem wi_822 : ww_822 ∈ mj_tb := mj_t8 (i := 160) rfl rfl
abbrev ww_823 : Cond := .methodLink RL 175 yX11_must
theorem wi_823 : ww_823 ∈ mj_tb := mj_t5 (i := 128) rfl rfl
abbrev ww_824 : Cond := .methodLink RL 178 yX12_must
theorem wi_824 : ww_824 ∈ mj_tb := mj_t8 (i := 164) rfl rfl
abbrev ww_825 : Cond := .methodLink RL 179 yX11_sentence
theorem wi_825 : ww_825 ∈ mj_tb := mj_t5 (i := 137) rfl rfl
abbrev ww_826 : Cond := .methodLink RL 182 yX12_sentence
theorem wi_826 : ww_826 ∈ mj_tb := mj_t8 (i := 168) rfl rfl
abbrev ww_827 : Cond := .methodLink RL 183 yX11_said
theorem wi_827 : ww_827 ∈ mj_tb := mj_t5 (i := 205) rfl rfl
abbrev ww_828 : Cond := .methodLink RL 186 yX12_said
theorem wi_828 : ww_828 ∈ mj_tb := mj_t8 (i := 196) rfl rfl
abbrev ww_829 : Cond := .methodLink RL 187 yX11_image
theorem wi_829 : ww_829 ∈ mj_tb := mj_t5 (i := 218) rfl rfl
abbrev ww_830 : Cond := .methodLink RL 190 yX12_image
theorem wi_830 : ww_830 ∈ mj_tb := mj_t8 (i := 208) rfl rfl
abbrev ww_831 : Cond := .methodLink RL 191 yX11_restore
theorem wi_831 : ww_831 ∈ mj_tb := mj_t5 (i := 237) rfl rfl
abbrev ww_832 : Cond := .methodLink RL 194 yX12_restore
theorem wi_832 : ww_832 ∈ mj_tb := mj_t8 (i := 212) rfl rfl
abbrev ww_833 : Cond := .methodLink RL 195 yX11_count
theorem wi_833 : ww_833 ∈ mj_tb := mj_t6 (i := 1) rfl rfl
abbrev ww_834 : Cond := .methodLink RL 198 yX12_count
theorem wi_834 : ww_834 ∈ mj_tb := mj_t8 (i := 216) rfl rfl
def mj_wi (i : Nat) : Cond := (cond (Nat.blt i 417) (cond (Nat.blt i 208) (cond (Nat.blt i 104) (cond (Nat.blt i 52) (cond (Nat.blt i 26) (cond (Nat.blt i 13) (cond (Nat.blt i 6) (cond (Nat.blt i 3) (cond (Nat.blt i 1) ww_0 (cond (Nat.blt i 2) ww_1 ww_2)) (cond (Nat.blt i 4) ww_3 (cond (Nat.blt i 5) ww_4 ww_5))) (cond (Nat.blt i 9) (cond (Nat.blt i 7) ww_6 (cond (Nat.blt i 8) ww_7 ww_8)) (cond (Nat.blt i 11) (cond (Nat.blt i 10) ww_9 ww_10) (cond (Nat.blt i 12) ww_11 ww_12)))) (cond (Nat.blt i 19) (cond (Nat.blt i 16) (cond (Nat.blt i 14) ww_13 (cond (Nat.blt i 15) ww_14 ww_15)) (cond (Nat.blt i 17) ww_16 (cond (Nat.blt i 18) ww_17 ww_18))) (cond (Nat.blt i 22) (cond (Nat.blt i 20) ww_19 (cond (Nat.blt i 21) ww_20 ww_21)) (cond (Nat.blt i 24) (cond (Nat.blt i 23) ww_22 ww_23) (cond (Nat.blt i 25) ww_24 ww_25))))) (cond (Nat.blt i 39) (cond (Nat.blt i 32) (cond (Nat.blt i 29) (cond (Nat.blt i 27) ww_26 (cond (Nat.blt i 28) ww_27 ww_28)) (cond (Nat.blt i 30) ww_29 (cond (Nat.blt i 31) ww_30 ww_31))) (cond (Nat.blt i 35) (cond (Nat.blt i 33) ww_32 (cond (Nat.blt i 34) ww_33 ww_34)) (cond (Nat.blt i 37) (cond (Nat.blt i 36) ww_35 ww_36) (cond (Nat.blt i 38) ww_37 ww_38)))) (cond (Nat.blt i 45) (cond (Nat.blt i 42) (cond (Nat.blt i 40) ww_39 (cond (Nat.blt i 41) ww_40 ww_41)) (cond (Nat.blt i 43) ww_42 (cond (Nat.blt i 44) ww_43 ww_44))) (cond (Nat.blt i 48) (cond (Nat.blt i 46) ww_45 (cond (Nat.blt i 47) ww_46 ww_47)) (cond (Nat.blt i 50) (cond (Nat.blt i 49) ww_48 ww_49) (cond (Nat.blt i 51) ww_50 ww_51)))))) (cond (Nat.blt i 78) (cond (Nat.blt i 65) (cond (Nat.blt i 58) (cond (Nat.blt i 55) (cond (Nat.blt i 53) ww_52 (cond (Nat.blt i 54) ww_53 ww_54)) (cond (Nat.blt i 56) ww_55 (cond (Nat.blt i 57) ww_56 ww_57))) (cond (Nat.blt i 61) (cond (Nat.blt i 59) ww_58 (cond (Nat.blt i 60) ww_59 ww_60)) (cond (Nat.blt i 63) (cond (Nat.blt i 62) ww_61 ww_62) (cond (Nat.blt i 64) ww_63 ww_64)))) (cond (Nat.blt i 71) (cond (Nat.blt i 68) (cond (Nat.blt i 66) ww_65 (cond (Nat.blt i 67) ww_66 ww_67)) (cond (Nat.blt i 69) ww_68 (cond (Nat.blt i 70) ww_69 ww_70))) (cond (Nat.blt i 74) (cond (Nat.blt i 72) ww_71 (cond (Nat.blt i 73) ww_72 ww_73)) (cond (Nat.blt i 76) (cond (Nat.blt i 75) ww_74 ww_75) (cond (Nat.blt i 77) ww_76 ww_77))))) (cond (Nat.blt i 91) (cond (Nat.blt i 84) (cond (Nat.blt i 81) (cond (Nat.blt i 79) ww_78 (cond (Nat.blt i 80) ww_79 ww_80)) (cond (Nat.blt i 82) ww_81 (cond (Nat.blt i 83) ww_82 ww_83))) (cond (Nat.blt i 87) (cond (Nat.blt i 85) ww_84 (cond (Nat.blt i 86) ww_85 ww_86)) (cond (Nat.blt i 89) (cond (Nat.blt i 88) ww_87 ww_88) (cond (Nat.blt i 90) ww_89 ww_90)))) (cond (Nat.blt i 97) (cond (Nat.blt i 94) (cond (Nat.blt i 92) ww_91 (cond (Nat.blt i 93) ww_92 ww_93)) (cond (Nat.blt i 95) ww_94 (cond (Nat.blt i 96) ww_95 ww_96))) (cond (Nat.blt i 100) (cond (Nat.blt i 98) ww_97 (cond (Nat.blt i 99) ww_98 ww_99)) (cond (Nat.blt i 102) (cond (Nat.blt i 101) ww_100 ww_101) (cond (Nat.blt i 103) ww_102 ww_103))))))) (cond (Nat.blt i 156) (cond (Nat.blt i 130) (cond (Nat.blt i 117) (cond (Nat.blt i 110) (cond (Nat.blt i 107) (cond (Nat.blt i 105) ww_104 (cond (Nat.blt i 106) ww_105 ww_106)) (cond (Nat.blt i 108) ww_107 (cond (Nat.blt i 109) ww_108 ww_109))) (cond (Nat.blt i 113) (cond (Nat.blt i 111) ww_110 (cond (Nat.blt i 112) ww_111 ww_112)) (cond (Nat.blt i 115) (cond (Nat.blt i 114) ww_113 ww_114) (cond (Nat.blt i 116) ww_115 ww_116)))) (cond (Nat.blt i 123) (cond (Nat.blt i 120) (cond (Nat.blt i 118) ww_117 (cond (Nat.blt i 119) ww_118 ww_119)) (cond (Nat.blt i 121) ww_120 (cond (Nat.blt i 122) ww_121 ww_122))) (cond (Nat.blt i 126) (cond (Nat.blt i 124) ww_123 (cond (Nat.blt i 125) ww_124 ww_125)) (cond (Nat.blt i 128) (cond (Nat.blt i 127) ww_126 ww_127) (cond (Nat.blt i 129) ww_128 ww_129))))) (cond (Nat.blt i 143) (cond (Nat.blt i 136) (cond (Nat.blt i 133) (cond (Nat.blt i 131) ww_130 (cond (Nat.blt i 132) ww_131 ww_132)) (cond (Nat.blt i 134) ww_133 (cond (Nat.blt i 135) ww_134 ww_135))) (cond (Nat.blt i 139) (cond (Nat.blt i 137) ww_136 (cond (Nat.blt i 138) ww_137 ww_138)) (cond (Nat.blt i 141) (cond (Nat.blt i 140) ww_139 ww_140) (cond (Nat.blt i 142) ww_141 ww_142)))) (cond (Nat.blt i 149) (cond (Nat.blt i 146) (cond (Nat.blt i 144) ww_143 (cond (Nat.blt i 145) ww_144 ww_145)) (cond (Nat.blt i 147) ww_146 (cond (Nat.blt i 148) ww_147 ww_148))) (cond (Nat.blt i 152) (cond (Nat.blt i 150) ww_149 (cond (Nat.blt i 151) ww_150 ww_151)) (cond (Nat.blt i 154) (cond (Nat.blt i 153) ww_152 ww_153) (cond (Nat.blt i 155) ww_154 ww_155)))))) (cond (Nat.blt i 182) (cond (Nat.blt i 169) (cond (Nat.blt i 162) (cond (Nat.blt i 159) (cond (Nat.blt i 157) ww_156 (cond (Nat.blt i 158) ww_157 ww_158)) (cond (Nat.blt i 160) ww_159 (cond (Nat.blt i 161) ww_160 ww_161))) (cond (Nat.blt i 165) (cond (Nat.blt i 163) ww_162 (cond (Nat.blt i 164) ww_163 ww_164)) (cond (Nat.blt i 167) (cond (Nat.blt i 166) ww_165 ww_166) (cond (Nat.blt i 168) ww_167 ww_168)))) (cond (Nat.blt i 175) (cond (Nat.blt i 172) (cond (Nat.blt i 170) ww_169 (cond (Nat.blt i 171) ww_170 ww_171)) (cond (Nat.blt i 173) ww_172 (cond (Nat.blt i 174) ww_173 ww_174))) (cond (Nat.blt i 178) (cond (Nat.blt i 176) ww_175 (cond (Nat.blt i 177) ww_176 ww_177)) (cond (Nat.blt i 180) (cond (Nat.blt i 179) ww_178 ww_179) (cond (Nat.blt i 181) ww_180 ww_181))))) (cond (Nat.blt i 195) (cond (Nat.blt i 188) (cond (Nat.blt i 185) (cond (Nat.blt i 183) ww_182 (cond (Nat.blt i 184) ww_183 ww_184)) (cond (Nat.blt i 186) ww_185 (cond (Nat.blt i 187) ww_186 ww_187))) (cond (Nat.blt i 191) (cond (Nat.blt i 189) ww_188 (cond (Nat.blt i 190) ww_189 ww_190)) (cond (Nat.blt i 193) (cond (Nat.blt i 192) ww_191 ww_192) (cond (Nat.blt i 194) ww_193 ww_194)))) (cond (Nat.blt i 201) (cond (Nat.blt i 198) (cond (Nat.blt i 196) ww_195 (cond (Nat.blt i 197) ww_196 ww_197)) (cond (Nat.blt i 199) ww_198 (cond (Nat.blt i 200) ww_199 ww_200))) (cond (Nat.blt i 204) (cond (Nat.blt i 202) ww_201 (cond (Nat.blt i 203) ww_202 ww_203)) (cond (Nat.blt i 206) (cond (Nat.blt i 205) ww_204 ww_205) (cond (Nat.blt i 207) ww_206 ww_207)))))))) (cond (Nat.blt i 312) (cond (Nat.blt i 260) (cond (Nat.blt i 234) (cond (Nat.blt i 221) (cond (Nat.blt i 214) (cond (Nat.blt i 211) (cond (Nat.blt i 209) ww_208 (cond (Nat.blt i 210) ww_209 ww_210)) (cond (Nat.blt i 212) ww_211 (cond (Nat.blt i 213) ww_212 ww_213))) (cond (Nat.blt i 217) (cond (Nat.blt i 215) ww_214 (cond (Nat.blt i 216) ww_215 ww_216)) (cond (Nat.blt i 219) (cond (Nat.blt i 218) ww_217 ww_218) (cond (Nat.blt i 220) ww_219 ww_220)))) (cond (Nat.blt i 227) (cond (Nat.blt i 224) (cond (Nat.blt i 222) ww_221 (cond (Nat.blt i 223) ww_222 ww_223)) (cond (Nat.blt i 225) ww_224 (cond (Nat.blt i 226) ww_225 ww_226))) (cond (Nat.blt i 230) (cond (Nat.blt i 228) ww_227 (cond (Nat.blt i 229) ww_228 ww_229)) (cond (Nat.blt i 232) (cond (Nat.blt i 231) ww_230 ww_231) (cond (Nat.blt i 233) ww_232 ww_233))))) (cond (Nat.blt i 247) (cond (Nat.blt i 240) (cond (Nat.blt i 237) (cond (Nat.blt i 235) ww_234 (cond (Nat.blt i 236) ww_235 ww_236)) (cond (Nat.blt i 238) ww_237 (cond (Nat.blt i 239) ww_238 ww_239))) (cond (Nat.blt i 243) (cond (Nat.blt i 241) ww_240 (cond (Nat.blt i 242) ww_241 ww_242)) (cond (Nat.blt i 245) (cond (Nat.blt i 244) ww_243 ww_244) (cond (Nat.blt i 246) ww_245 ww_246)))) (cond (Nat.blt i 253) (cond (Nat.blt i 250) (cond (Nat.blt i 248) ww_247 (cond (Nat.blt i 249) ww_248 ww_249)) (cond (Nat.blt i 251) ww_250 (cond (Nat.blt i 252) ww_251 ww_252))) (cond (Nat.blt i 256) (cond (Nat.blt i 254) ww_253 (cond (Nat.blt i 255) ww_254 ww_255)) (cond (Nat.blt i 258) (cond (Nat.blt i 257) ww_256 ww_257) (cond (Nat.blt i 259) ww_258 ww_259)))))) (cond (Nat.blt i 286) (cond (Nat.blt i 273) (cond (Nat.blt i 266) (cond (Nat.blt i 263) (cond (Nat.blt i 261) ww_260 (cond (Nat.blt i 262) ww_261 ww_262)) (cond (Nat.blt i 264) ww_263 (cond (Nat.blt i 265) ww_264 ww_265))) (cond (Nat.blt i 269) (cond (Nat.blt i 267) ww_266 (cond (Nat.blt i 268) ww_267 ww_268)) (cond (Nat.blt i 271) (cond (Nat.blt i 270) ww_269 ww_270) (cond (Nat.blt i 272) ww_271 ww_272)))) (cond (Nat.blt i 279) (cond (Nat.blt i 276) (cond (Nat.blt i 274) ww_273 (cond (Nat.blt i 275) ww_274 ww_275)) (cond (Nat.blt i 277) ww_276 (cond (Nat.blt i 278) ww_277 ww_278))) (cond (Nat.blt i 282) (cond (Nat.blt i 280) ww_279 (cond (Nat.blt i 281) ww_280 ww_281)) (cond (Nat.blt i 284) (cond (Nat.blt i 283) ww_282 ww_283) (cond (Nat.blt i 285) ww_284 ww_285))))) (cond (Nat.blt i 299) (cond (Nat.blt i 292) (cond (Nat.blt i 289) (cond (Nat.blt i 287) ww_286 (cond (Nat.blt i 288) ww_287 ww_288)) (cond (Nat.blt i 290) ww_289 (cond (Nat.blt i 291) ww_290 ww_291))) (cond (Nat.blt i 295) (cond (Nat.blt i 293) ww_292 (cond (Nat.blt i 294) ww_293 ww_294)) (cond (Nat.blt i 297) (cond (Nat.blt i 296) ww_295 ww_296) (cond (Nat.blt i 298) ww_297 ww_298)))) (cond (Nat.blt i 305) (cond (Nat.blt i 302) (cond (Nat.blt i 300) ww_299 (cond (Nat.blt i 301) ww_300 ww_301)) (cond (Nat.blt i 303) ww_302 (cond (Nat.blt i 304) ww_303 ww_304))) (cond (Nat.blt i 308) (cond (Nat.blt i 306) ww_305 (cond (Nat.blt i 307) ww_306 ww_307)) (cond (Nat.blt i 310) (cond (Nat.blt i 309) ww_308 ww_309) (cond (Nat.blt i 311) ww_310 ww_311))))))) (cond (Nat.blt i 364) (cond (Nat.blt i 338) (cond (Nat.blt i 325) (cond (Nat.blt i 318) (cond (Nat.blt i 315) (cond (Nat.blt i 313) ww_312 (cond (Nat.blt i 314) ww_313 ww_314)) (cond (Nat.blt i 316) ww_315 (cond (Nat.blt i 317) ww_316 ww_317))) (cond (Nat.blt i 321) (cond (Nat.blt i 319) ww_318 (cond (Nat.blt i 320) ww_319 ww_320)) (cond (Nat.blt i 323) (cond (Nat.blt i 322) ww_321 ww_322) (cond (Nat.blt i 324) ww_323 ww_324)))) (cond (Nat.blt i 331) (cond (Nat.blt i 328) (cond (Nat.blt i 326) ww_325 (cond (Nat.blt i 327) ww_326 ww_327)) (cond (Nat.blt i 329) ww_328 (cond (Nat.blt i 330) ww_329 ww_330))) (cond (Nat.blt i 334) (cond (Nat.blt i 332) ww_331 (cond (Nat.blt i 333) ww_332 ww_333)) (cond (Nat.blt i 336) (cond (Nat.blt i 335) ww_334 ww_335) (cond (Nat.blt i 337) ww_336 ww_337))))) (cond (Nat.blt i 351) (cond (Nat.blt i 344) (cond (Nat.blt i 341) (cond (Nat.blt i 339) ww_338 (cond (Nat.blt i 340) ww_339 ww_340)) (cond (Nat.blt i 342) ww_341 (cond (Nat.blt i 343) ww_342 ww_343))) (cond (Nat.blt i 347) (cond (Nat.blt i 345) ww_344 (cond (Nat.blt i 346) ww_345 ww_346)) (cond (Nat.blt i 349) (cond (Nat.blt i 348) ww_347 ww_348) (cond (Nat.blt i 350) ww_349 ww_350)))) (cond (Nat.blt i 357) (cond (Nat.blt i 354) (cond (Nat.blt i 352) ww_351 (cond (Nat.blt i 353) ww_352 ww_353)) (cond (Nat.blt i 355) ww_354 (cond (Nat.blt i 356) ww_355 ww_356))) (cond (Nat.blt i 360) (cond (Nat.blt i 358) ww_357 (cond (Nat.blt i 359) ww_358 ww_359)) (cond (Nat.blt i 362) (cond (Nat.blt i 361) ww_360 ww_361) (cond (Nat.blt i 363) ww_362 ww_363)))))) (cond (Nat.blt i 390) (cond (Nat.blt i 377) (cond (Nat.blt i 370) (cond (Nat.blt i 367) (cond (Nat.blt i 365) ww_364 (cond (Nat.blt i 366) ww_365 ww_366)) (cond (Nat.blt i 368) ww_367 (cond (Nat.blt i 369) ww_368 ww_369))) (cond (Nat.blt i 373) (cond (Nat.blt i 371) ww_370 (cond (Nat.blt i 372) ww_371 ww_372)) (cond (Nat.blt i 375) (cond (Nat.blt i 374) ww_373 ww_374) (cond (Nat.blt i 376) ww_375 ww_376)))) (cond (Nat.blt i 383) (cond (Nat.blt i 380) (cond (Nat.blt i 378) ww_377 (cond (Nat.blt i 379) ww_378 ww_379)) (cond (Nat.blt i 381) ww_380 (cond (Nat.blt i 382) ww_381 ww_382))) (cond (Nat.blt i 386) (cond (Nat.blt i 384) ww_383 (cond (Nat.blt i 385) ww_384 ww_385)) (cond (Nat.blt i 388) (cond (Nat.blt i 387) ww_386 ww_387) (cond (Nat.blt i 389) ww_388 ww_389))))) (cond (Nat.blt i 403) (cond (Nat.blt i 396) (cond (Nat.blt i 393) (cond (Nat.blt i 391) ww_390 (cond (Nat.blt i 392) ww_391 ww_392)) (cond (Nat.blt i 394) ww_393 (cond (Nat.blt i 395) ww_394 ww_395))) (cond (Nat.blt i 399) (cond (Nat.blt i 397) ww_396 (cond (Nat.blt i 398) ww_397 ww_398)) (cond (Nat.blt i 401) (cond (Nat.blt i 400) ww_399 ww_400) (cond (Nat.blt i 402) ww_401 ww_402)))) (cond (Nat.blt i 410) (cond (Nat.blt i 406) (cond (Nat.blt i 404) ww_403 (cond (Nat.blt i 405) ww_404 ww_405)) (cond (Nat.blt i 408) (cond (Nat.blt i 407) ww_406 ww_407) (cond (Nat.blt i 409) ww_408 ww_409))) (cond (Nat.blt i 413) (cond (Nat.blt i 411) ww_410 (cond (Nat.blt i 412) ww_411 ww_412)) (cond (Nat.blt i 415) (cond (Nat.blt i 414) ww_413 ww_414) (cond (Nat.blt i 416) ww_415 ww_416))))))))) (cond (Nat.blt i 626) (cond (Nat.blt i 521) (cond (Nat.blt i 469) (cond (Nat.blt i 443) (cond (Nat.blt i 430) (cond (Nat.blt i 423) (cond (Nat.blt i 420) (cond (Nat.blt i 418) ww_417 (cond (Nat.blt i 419) ww_418 ww_419)) (cond (Nat.blt i 421) ww_420 (cond (Nat.blt i 422) ww_421 ww_422))) (cond (Nat.blt i 426) (cond (Nat.blt i 424) ww_423 (cond (Nat.blt i 425) ww_424 ww_425)) (cond (Nat.blt i 428) (cond (Nat.blt i 427) ww_426 ww_427) (cond (Nat.blt i 429) ww_428 ww_429)))) (cond (Nat.blt i 436) (cond (Nat.blt i 433) (cond (Nat.blt i 431) ww_430 (cond (Nat.blt i 432) ww_431 ww_432)) (cond (Nat.blt i 434) ww_433 (cond (Nat.blt i 435) ww_434 ww_435))) (cond (Nat.blt i 439) (cond (Nat.blt i 437) ww_436 (cond (Nat.blt i 438) ww_437 ww_438)) (cond (Nat.blt i 441) (cond (Nat.blt i 440) ww_439 ww_440) (cond (Nat.blt i 442) ww_441 ww_442))))) (cond (Nat.blt i 456) (cond (Nat.blt i 449) (cond (Nat.blt i 446) (cond (Nat.blt i 444) ww_443 (cond (Nat.blt i 445) ww_444 ww_445)) (cond (Nat.blt i 447) ww_446 (cond (Nat.blt i 448) ww_447 ww_448))) (cond (Nat.blt i 452) (cond (Nat.blt i 450) ww_449 (cond (Nat.blt i 451) ww_450 ww_451)) (cond (Nat.blt i 454) (cond (Nat.blt i 453) ww_452 ww_453) (cond (Nat.blt i 455) ww_454 ww_455)))) (cond (Nat.blt i 462) (cond (Nat.blt i 459) (cond (Nat.blt i 457) ww_456 (cond (Nat.blt i 458) ww_457 ww_458)) (cond (Nat.blt i 460) ww_459 (cond (Nat.blt i 461) ww_460 ww_461))) (cond (Nat.blt i 465) (cond (Nat.blt i 463) ww_462 (cond (Nat.blt i 464) ww_463 ww_464)) (cond (Nat.blt i 467) (cond (Nat.blt i 466) ww_465 ww_466) (cond (Nat.blt i 468) ww_467 ww_468)))))) (cond (Nat.blt i 495) (cond (Nat.blt i 482) (cond (Nat.blt i 475) (cond (Nat.blt i 472) (cond (Nat.blt i 470) ww_469 (cond (Nat.blt i 471) ww_470 ww_471)) (cond (Nat.blt i 473) ww_472 (cond (Nat.blt i 474) ww_473 ww_474))) (cond (Nat.blt i 478) (cond (Nat.blt i 476) ww_475 (cond (Nat.blt i 477) ww_476 ww_477)) (cond (Nat.blt i 480) (cond (Nat.blt i 479) ww_478 ww_479) (cond (Nat.blt i 481) ww_480 ww_481)))) (cond (Nat.blt i 488) (cond (Nat.blt i 485) (cond (Nat.blt i 483) ww_482 (cond (Nat.blt i 484) ww_483 ww_484)) (cond (Nat.blt i 486) ww_485 (cond (Nat.blt i 487) ww_486 ww_487))) (cond (Nat.blt i 491) (cond (Nat.blt i 489) ww_488 (cond (Nat.blt i 490) ww_489 ww_490)) (cond (Nat.blt i 493) (cond (Nat.blt i 492) ww_491 ww_492) (cond (Nat.blt i 494) ww_493 ww_494))))) (cond (Nat.blt i 508) (cond (Nat.blt i 501) (cond (Nat.blt i 498) (cond (Nat.blt i 496) ww_495 (cond (Nat.blt i 497) ww_496 ww_497)) (cond (Nat.blt i 499) ww_498 (cond (Nat.blt i 500) ww_499 ww_500))) (cond (Nat.blt i 504) (cond (Nat.blt i 502) ww_501 (cond (Nat.blt i 503) ww_502 ww_503)) (cond (Nat.blt i 506) (cond (Nat.blt i 505) ww_504 ww_505) (cond (Nat.blt i 507) ww_506 ww_507)))) (cond (Nat.blt i 514) (cond (Nat.blt i 511) (cond (Nat.blt i 509) ww_508 (cond (Nat.blt i 510) ww_509 ww_510)) (cond (Nat.blt i 512) ww_511 (cond (Nat.blt i 513) ww_512 ww_513))) (cond (Nat.blt i 517) (cond (Nat.blt i 515) ww_514 (cond (Nat.blt i 516) ww_515 ww_516)) (cond (Nat.blt i 519) (cond (Nat.blt i 518) ww_517 ww_518) (cond (Nat.blt i 520) ww_519 ww_520))))))) (cond (Nat.blt i 573) (cond (Nat.blt i 547) (cond (Nat.blt i 534) (cond (Nat.blt i 527) (cond (Nat.blt i 524) (cond (Nat.blt i 522) ww_521 (cond (Nat.blt i 523) ww_522 ww_523)) (cond (Nat.blt i 525) ww_524 (cond (Nat.blt i 526) ww_525 ww_526))) (cond (Nat.blt i 530) (cond (Nat.blt i 528) ww_527 (cond (Nat.blt i 529) ww_528 ww_529)) (cond (Nat.blt i 532) (cond (Nat.blt i 531) ww_530 ww_531) (cond (Nat.blt i 533) ww_532 ww_533)))) (cond (Nat.blt i 540) (cond (Nat.blt i 537) (cond (Nat.blt i 535) ww_534 (cond (Nat.blt i 536) ww_535 ww_536)) (cond (Nat.blt i 538) ww_537 (cond (Nat.blt i 539) ww_538 ww_539))) (cond (Nat.blt i 543) (cond (Nat.blt i 541) ww_540 (cond (Nat.blt i 542) ww_541 ww_542)) (cond (Nat.blt i 545) (cond (Nat.blt i 544) ww_543 ww_544) (cond (Nat.blt i 546) ww_545 ww_546))))) (cond (Nat.blt i 560) (cond (Nat.blt i 553) (cond (Nat.blt i 550) (cond (Nat.blt i 548) ww_547 (cond (Nat.blt i 549) ww_548 ww_549)) (cond (Nat.blt i 551) ww_550 (cond (Nat.blt i 552) ww_551 ww_552))) (cond (Nat.blt i 556) (cond (Nat.blt i 554) ww_553 (cond (Nat.blt i 555) ww_554 ww_555)) (cond (Nat.blt i 558) (cond (Nat.blt i 557) ww_556 ww_557) (cond (Nat.blt i 559) ww_558 ww_559)))) (cond (Nat.blt i 566) (cond (Nat.blt i 563) (cond (Nat.blt i 561) ww_560 (cond (Nat.blt i 562) ww_561 ww_562)) (cond (Nat.blt i 564) ww_563 (cond (Nat.blt i 565) ww_564 ww_565))) (cond (Nat.blt i 569) (cond (Nat.blt i 567) ww_566 (cond (Nat.blt i 568) ww_567 ww_568)) (cond (Nat.blt i 571) (cond (Nat.blt i 570) ww_569 ww_570) (cond (Nat.blt i 572) ww_571 ww_572)))))) (cond (Nat.blt i 599) (cond (Nat.blt i 586) (cond (Nat.blt i 579) (cond (Nat.blt i 576) (cond (Nat.blt i 574) ww_573 (cond (Nat.blt i 575) ww_574 ww_575)) (cond (Nat.blt i 577) ww_576 (cond (Nat.blt i 578) ww_577 ww_578))) (cond (Nat.blt i 582) (cond (Nat.blt i 580) ww_579 (cond (Nat.blt i 581) ww_580 ww_581)) (cond (Nat.blt i 584) (cond (Nat.blt i 583) ww_582 ww_583) (cond (Nat.blt i 585) ww_584 ww_585)))) (cond (Nat.blt i 592) (cond (Nat.blt i 589) (cond (Nat.blt i 587) ww_586 (cond (Nat.blt i 588) ww_587 ww_588)) (cond (Nat.blt i 590) ww_589 (cond (Nat.blt i 591) ww_590 ww_591))) (cond (Nat.blt i 595) (cond (Nat.blt i 593) ww_592 (cond (Nat.blt i 594) ww_593 ww_594)) (cond (Nat.blt i 597) (cond (Nat.blt i 596) ww_595 ww_596) (cond (Nat.blt i 598) ww_597 ww_598))))) (cond (Nat.blt i 612) (cond (Nat.blt i 605) (cond (Nat.blt i 602) (cond (Nat.blt i 600) ww_599 (cond (Nat.blt i 601) ww_600 ww_601)) (cond (Nat.blt i 603) ww_602 (cond (Nat.blt i 604) ww_603 ww_604))) (cond (Nat.blt i 608) (cond (Nat.blt i 606) ww_605 (cond (Nat.blt i 607) ww_606 ww_607)) (cond (Nat.blt i 610) (cond (Nat.blt i 609) ww_608 ww_609) (cond (Nat.blt i 611) ww_610 ww_611)))) (cond (Nat.blt i 619) (cond (Nat.blt i 615) (cond (Nat.blt i 613) ww_612 (cond (Nat.blt i 614) ww_613 ww_614)) (cond (Nat.blt i 617) (cond (Nat.blt i 616) ww_615 ww_616) (cond (Nat.blt i 618) ww_617 ww_618))) (cond (Nat.blt i 622) (cond (Nat.blt i 620) ww_619 (cond (Nat.blt i 621) ww_620 ww_621)) (cond (Nat.blt i 624) (cond (Nat.blt i 623) ww_622 ww_623) (cond (Nat.blt i 625) ww_624 ww_625)))))))) (cond (Nat.blt i 730) (cond (Nat.blt i 678) (cond (Nat.blt i 652) (cond (Nat.blt i 639) (cond (Nat.blt i 632) (cond (Nat.blt i 629) (cond (Nat.blt i 627) ww_626 (cond (Nat.blt i 628) ww_627 ww_628)) (cond (Nat.blt i 630) ww_629 (cond (Nat.blt i 631) ww_630 ww_631))) (cond (Nat.blt i 635) (cond (Nat.blt i 633) ww_632 (cond (Nat.blt i 634) ww_633 ww_634)) (cond (Nat.blt i 637) (cond (Nat.blt i 636) ww_635 ww_636) (cond (Nat.blt i 638) ww_637 ww_638)))) (cond (Nat.blt i 645) (cond (Nat.blt i 642) (cond (Nat.blt i 640) ww_639 (cond (Nat.blt i 641) ww_640 ww_641)) (cond (Nat.blt i 643) ww_642 (cond (Nat.blt i 644) ww_643 ww_644))) (cond (Nat.blt i 648) (cond (Nat.blt i 646) ww_645 (cond (Nat.blt i 647) ww_646 ww_647)) (cond (Nat.blt i 650) (cond (Nat.blt i 649) ww_648 ww_649) (cond (Nat.blt i 651) ww_650 ww_651))))) (cond (Nat.blt i 665) (cond (Nat.blt i 658) (cond (Nat.blt i 655) (cond (Nat.blt i 653) ww_652 (cond (Nat.blt i 654) ww_653 ww_654)) (cond (Nat.blt i 656) ww_655 (cond (Nat.blt i 657) ww_656 ww_657))) (cond (Nat.blt i 661) (cond (Nat.blt i 659) ww_658 (cond (Nat.blt i 660) ww_659 ww_660)) (cond (Nat.blt i 663) (cond (Nat.blt i 662) ww_661 ww_662) (cond (Nat.blt i 664) ww_663 ww_664)))) (cond (Nat.blt i 671) (cond (Nat.blt i 668) (cond (Nat.blt i 666) ww_665 (cond (Nat.blt i 667) ww_666 ww_667)) (cond (Nat.blt i 669) ww_668 (cond (Nat.blt i 670) ww_669 ww_670))) (cond (Nat.blt i 674) (cond (Nat.blt i 672) ww_671 (cond (Nat.blt i 673) ww_672 ww_673)) (cond (Nat.blt i 676) (cond (Nat.blt i 675) ww_674 ww_675) (cond (Nat.blt i 677) ww_676 ww_677)))))) (cond (Nat.blt i 704) (cond (Nat.blt i 691) (cond (Nat.blt i 684) (cond (Nat.blt i 681) (cond (Nat.blt i 679) ww_678 (cond (Nat.blt i 680) ww_679 ww_680)) (cond (Nat.blt i 682) ww_681 (cond (Nat.blt i 683) ww_682 ww_683))) (cond (Nat.blt i 687) (cond (Nat.blt i 685) ww_684 (cond (Nat.blt i 686) ww_685 ww_686)) (cond (Nat.blt i 689) (cond (Nat.blt i 688) ww_687 ww_688) (cond (Nat.blt i 690) ww_689 ww_690)))) (cond (Nat.blt i 697) (cond (Nat.blt i 694) (cond (Nat.blt i 692) ww_691 (cond (Nat.blt i 693) ww_692 ww_693)) (cond (Nat.blt i 695) ww_694 (cond (Nat.blt i 696) ww_695 ww_696))) (cond (Nat.blt i 700) (cond (Nat.blt i 698) ww_697 (cond (Nat.blt i 699) ww_698 ww_699)) (cond (Nat.blt i 702) (cond (Nat.blt i 701) ww_700 ww_701) (cond (Nat.blt i 703) ww_702 ww_703))))) (cond (Nat.blt i 717) (cond (Nat.blt i 710) (cond (Nat.blt i 707) (cond (Nat.blt i 705) ww_704 (cond (Nat.blt i 706) ww_705 ww_706)) (cond (Nat.blt i 708) ww_707 (cond (Nat.blt i 709) ww_708 ww_709))) (cond (Nat.blt i 713) (cond (Nat.blt i 711) ww_710 (cond (Nat.blt i 712) ww_711 ww_712)) (cond (Nat.blt i 715) (cond (Nat.blt i 714) ww_713 ww_714) (cond (Nat.blt i 716) ww_715 ww_716)))) (cond (Nat.blt i 723) (cond (Nat.blt i 720) (cond (Nat.blt i 718) ww_717 (cond (Nat.blt i 719) ww_718 ww_719)) (cond (Nat.blt i 721) ww_720 (cond (Nat.blt i 722) ww_721 ww_722))) (cond (Nat.blt i 726) (cond (Nat.blt i 724) ww_723 (cond (Nat.blt i 725) ww_724 ww_725)) (cond (Nat.blt i 728) (cond (Nat.blt i 727) ww_726 ww_727) (cond (Nat.blt i 729) ww_728 ww_729))))))) (cond (Nat.blt i 782) (cond (Nat.blt i 756) (cond (Nat.blt i 743) (cond (Nat.blt i 736) (cond (Nat.blt i 733) (cond (Nat.blt i 731) ww_730 (cond (Nat.blt i 732) ww_731 ww_732)) (cond (Nat.blt i 734) ww_733 (cond (Nat.blt i 735) ww_734 ww_735))) (cond (Nat.blt i 739) (cond (Nat.blt i 737) ww_736 (cond (Nat.blt i 738) ww_737 ww_738)) (cond (Nat.blt i 741) (cond (Nat.blt i 740) ww_739 ww_740) (cond (Nat.blt i 742) ww_741 ww_742)))) (cond (Nat.blt i 749) (cond (Nat.blt i 746) (cond (Nat.blt i 744) ww_743 (cond (Nat.blt i 745) ww_744 ww_745)) (cond (Nat.blt i 747) ww_746 (cond (Nat.blt i 748) ww_747 ww_748))) (cond (Nat.blt i 752) (cond (Nat.blt i 750) ww_749 (cond (Nat.blt i 751) ww_750 ww_751)) (cond (Nat.blt i 754) (cond (Nat.blt i 753) ww_752 ww_753) (cond (Nat.blt i 755) ww_754 ww_755))))) (cond (Nat.blt i 769) (cond (Nat.blt i 762) (cond (Nat.blt i 759) (cond (Nat.blt i 757) ww_756 (cond (Nat.blt i 758) ww_757 ww_758)) (cond (Nat.blt i 760) ww_759 (cond (Nat.blt i 761) ww_760 ww_761))) (cond (Nat.blt i 765) (cond (Nat.blt i 763) ww_762 (cond (Nat.blt i 764) ww_763 ww_764)) (cond (Nat.blt i 767) (cond (Nat.blt i 766) ww_765 ww_766) (cond (Nat.blt i 768) ww_767 ww_768)))) (cond (Nat.blt i 775) (cond (Nat.blt i 772) (cond (Nat.blt i 770) ww_769 (cond (Nat.blt i 771) ww_770 ww_771)) (cond (Nat.blt i 773) ww_772 (cond (Nat.blt i 774) ww_773 ww_774))) (cond (Nat.blt i 778) (cond (Nat.blt i 776) ww_775 (cond (Nat.blt i 777) ww_776 ww_777)) (cond (Nat.blt i 780) (cond (Nat.blt i 779) ww_778 ww_779) (cond (Nat.blt i 781) ww_780 ww_781)))))) (cond (Nat.blt i 808) (cond (Nat.blt i 795) (cond (Nat.blt i 788) (cond (Nat.blt i 785) (cond (Nat.blt i 783) ww_782 (cond (Nat.blt i 784) ww_783 ww_784)) (cond (Nat.blt i 786) ww_785 (cond (Nat.blt i 787) ww_786 ww_787))) (cond (Nat.blt i 791) (cond (Nat.blt i 789) ww_788 (cond (Nat.blt i 790) ww_789 ww_790)) (cond (Nat.blt i 793) (cond (Nat.blt i 792) ww_791 ww_792) (cond (Nat.blt i 794) ww_793 ww_794)))) (cond (Nat.blt i 801) (cond (Nat.blt i 798) (cond (Nat.blt i 796) ww_795 (cond (Nat.blt i 797) ww_796 ww_797)) (cond (Nat.blt i 799) ww_798 (cond (Nat.blt i 800) ww_799 ww_800))) (cond (Nat.blt i 804) (cond (Nat.blt i 802) ww_801 (cond (Nat.blt i 803) ww_802 ww_803)) (cond (Nat.blt i 806) (cond (Nat.blt i 805) ww_804 ww_805) (cond (Nat.blt i 807) ww_806 ww_807))))) (cond (Nat.blt i 821) (cond (Nat.blt i 814) (cond (Nat.blt i 811) (cond (Nat.blt i 809) ww_808 (cond (Nat.blt i 810) ww_809 ww_810)) (cond (Nat.blt i 812) ww_811 (cond (Nat.blt i 813) ww_812 ww_813))) (cond (Nat.blt i 817) (cond (Nat.blt i 815) ww_814 (cond (Nat.blt i 816) ww_815 ww_816)) (cond (Nat.blt i 819) (cond (Nat.blt i 818) ww_817 ww_818) (cond (Nat.blt i 820) ww_819 ww_820)))) (cond (Nat.blt i 828) (cond (Nat.blt i 824) (cond (Nat.blt i 822) ww_821 (cond (Nat.blt i 823) ww_822 ww_823)) (cond (Nat.blt i 826) (cond (Nat.blt i 825) ww_824 ww_825) (cond (Nat.blt i 827) ww_826 ww_827))) (cond (Nat.blt i 831) (cond (Nat.blt i 829) ww_828 (cond (Nat.blt i 830) ww_829 ww_830)) (cond (Nat.blt i 833) (cond (Nat.blt i 832) ww_831 ww_832) (cond (Nat.blt i 834) ww_833 ww_834))))))))))
theorem mj_wi_in (i : Nat) : mj_wi i ∈ mj_tb := by
  show (fun w => w ∈ mj_tb) (mj_wi i)
  unfold mj_wi
  exact (mj_condw (mj_condw (mj_condw (mj_condw (mj_condw (mj_condw (mj_condw (mj_condw (mj_condw wi_0 (mj_condw wi_1 wi_2)) (mj_condw wi_3 (mj_condw wi_4 wi_5))) (mj_condw (mj_condw wi_6 (mj_condw wi_7 wi_8)) (mj_condw (mj_condw wi_9 wi_10) (mj_condw wi_11 wi_12)))) (mj_condw (mj_condw (mj_condw wi_13 (mj_condw wi_14 wi_15)) (mj_condw wi_16 (mj_condw wi_17 wi_18))) (mj_condw (mj_condw wi_19 (mj_condw wi_20 wi_21)) (mj_condw (mj_condw wi_22 wi_23) (mj_condw wi_24 wi_25))))) (mj_condw (mj_condw (mj_condw (mj_condw wi_26 (mj_condw wi_27 wi_28)) (mj_condw wi_29 (mj_condw wi_30 wi_31))) (mj_condw (mj_condw wi_32 (mj_condw wi_33 wi_34)) (mj_condw (mj_condw wi_35 wi_36) (mj_condw wi_37 wi_38)))) (mj_condw (mj_condw (mj_condw wi_39 (mj_condw wi_40 wi_41)) (mj_condw wi_42 (mj_condw wi_43 wi_44))) (mj_condw (mj_condw wi_45 (mj_condw wi_46 wi_47)) (mj_condw (mj_condw wi_48 wi_49) (mj_condw wi_50 wi_51)))))) (mj_condw (mj_condw (mj_condw (mj_condw (mj_condw wi_52 (mj_condw wi_53 wi_54)) (mj_condw wi_55 (mj_condw wi_56 wi_57))) (mj_condw (mj_condw wi_58 (mj_condw wi_59 wi_60)) (mj_condw (mj_condw wi_61 wi_62) (mj_condw wi_63 wi_64)))) (mj_condw (mj_condw (mj_condw wi_65 (mj_condw wi_66 wi_67)) (mj_condw wi_68 (mj_condw wi_69 wi_70))) (mj_condw (mj_condw wi_71 (mj_condw wi_72 wi_73)) (mj_condw (mj_condw wi_74 wi_75) (mj_condw wi_76 wi_77))))) (mj_condw (mj_condw (mj_condw (mj_condw wi_78 (mj_condw wi_79 wi_80)) (mj_condw wi_81 (mj_condw wi_82 wi_83))) (mj_condw (mj_condw wi_84 (mj_condw wi_85 wi_86)) (mj_condw (mj_condw wi_87 wi_88) (mj_condw wi_89 wi_90)))) (mj_condw (mj_condw (mj_condw wi_91 (mj_condw wi_92 wi_93)) (mj_condw wi_94 (mj_condw wi_95 wi_96))) (mj_condw (mj_condw wi_97 (mj_condw wi_98 wi_99)) (mj_condw (mj_condw wi_100 wi_101) (mj_condw wi_102 wi_103))))))) (mj_condw (mj_condw (mj_condw (mj_condw (mj_condw (mj_condw wi_104 (mj_condw wi_105 wi_106)) (mj_condw wi_107 (mj_condw wi_108 wi_109))) (mj_condw (mj_condw wi_110 (mj_condw wi_111 wi_112)) (mj_condw (mj_condw wi_113 wi_114) (mj_condw wi_115 wi_116)))) (mj_condw (mj_condw (mj_condw wi_117 (mj_condw wi_118 wi_119)) (mj_condw wi_120 (mj_condw wi_121 wi_122))) (mj_condw (mj_condw wi_123 (mj_condw wi_124 wi_125)) (mj_condw (mj_condw wi_126 wi_127) (mj_condw wi_128 wi_129))))) (mj_condw (mj_condw (mj_condw (mj_condw wi_130 (mj_condw wi_131 wi_132)) (mj_condw wi_133 (mj_condw wi_134 wi_135))) (mj_condw (mj_condw wi_136 (mj_condw wi_137 wi_138)) (mj_condw (mj_condw wi_139 wi_140) (mj_condw wi_141 wi_142)))) (mj_condw (mj_condw (mj_condw wi_143 (mj_condw wi_144 wi_145)) (mj_condw wi_146 (mj_condw wi_147 wi_148))) (mj_condw (mj_condw wi_149 (mj_condw wi_150 wi_151)) (mj_condw (mj_condw wi_152 wi_153) (mj_condw wi_154 wi_155)))))) (mj_condw (mj_condw (mj_condw (mj_condw (mj_condw wi_156 (mj_condw wi_157 wi_158)) (mj_condw wi_159 (mj_condw wi_160 wi_161))) (mj_condw (mj_condw wi_162 (mj_condw wi_163 wi_164)) (mj_condw (mj_condw wi_165 wi_166) (mj_condw wi_167 wi_168)))) (mj_condw (mj_condw (mj_condw wi_169 (mj_condw wi_170 wi_171)) (mj_condw wi_172 (mj_condw wi_173 wi_174))) (mj_condw (mj_condw wi_175 (mj_condw wi_176 wi_177)) (mj_condw (mj_condw wi_178 wi_179) (mj_condw wi_180 wi_181))))) (mj_condw (mj_condw (mj_condw (mj_condw wi_182 (mj_condw wi_183 wi_184)) (mj_condw wi_185 (mj_condw wi_186 wi_187))) (mj_condw (mj_condw wi_188 (mj_condw wi_189 wi_190)) (mj_condw (mj_condw wi_191 wi_192) (mj_condw wi_193 wi_194)))) (mj_condw (mj_condw (mj_condw wi_195 (mj_condw wi_196 wi_197)) (mj_condw wi_198 (mj_condw wi_199 wi_200))) (mj_condw (mj_condw wi_201 (mj_condw wi_202 wi_203)) (mj_condw (mj_condw wi_204 wi_205) (mj_condw wi_206 wi_207)))))))) (mj_condw (mj_condw (mj_condw (mj_condw (mj_condw (mj_condw (mj_condw wi_208 (mj_condw wi_209 wi_210)) (mj_condw wi_211 (mj_condw wi_212 wi_213))) (mj_condw (mj_condw wi_214 (mj_condw wi_215 wi_216)) (mj_condw (mj_condw wi_217 wi_218) (mj_condw wi_219 wi_220)))) (mj_condw (mj_condw (mj_condw wi_221 (mj_condw wi_222 wi_223)) (mj_condw wi_224 (mj_condw wi_225 wi_226))) (mj_condw (mj_condw wi_227 (mj_condw wi_228 wi_229)) (mj_condw (mj_condw wi_230 wi_231) (mj_condw wi_232 wi_233))))) (mj_condw (mj_condw (mj_condw (mj_condw wi_234 (mj_condw wi_235 wi_236)) (mj_condw wi_237 (mj_condw wi_238 wi_239))) (mj_condw (mj_condw wi_240 (mj_condw wi_241 wi_242)) (mj_condw (mj_condw wi_243 wi_244) (mj_condw wi_245 wi_246)))) (mj_condw (mj_condw (mj_condw wi_247 (mj_condw wi_248 wi_249)) (mj_condw wi_250 (mj_condw wi_251 wi_252))) (mj_condw (mj_condw wi_253 (mj_condw wi_254 wi_255)) (mj_condw (mj_condw wi_256 wi_257) (mj_condw wi_258 wi_259)))))) (mj_condw (mj_condw (mj_condw (mj_condw (mj_condw wi_260 (mj_condw wi_261 wi_262)) (mj_condw wi_263 (mj_condw wi_264 wi_265))) (mj_condw (mj_condw wi_266 (mj_condw wi_267 wi_268)) (mj_condw (mj_condw wi_269 wi_270) (mj_condw wi_271 wi_272)))) (mj_condw (mj_condw (mj_condw wi_273 (mj_condw wi_274 wi_275)) (mj_condw wi_276 (mj_condw wi_277 wi_278))) (mj_condw (mj_condw wi_279 (mj_condw wi_280 wi_281)) (mj_condw (mj_condw wi_282 wi_283) (mj_condw wi_284 wi_285))))) (mj_condw (mj_condw (mj_condw (mj_condw wi_286 (mj_condw wi_287 wi_288)) (mj_condw wi_289 (mj_condw wi_290 wi_291))) (mj_condw (mj_condw wi_292 (mj_condw wi_293 wi_294)) (mj_condw (mj_condw wi_295 wi_296) (mj_condw wi_297 wi_298)))) (mj_condw (mj_condw (mj_condw wi_299 (mj_condw wi_300 wi_301)) (mj_condw wi_302 (mj_condw wi_303 wi_304))) (mj_condw (mj_condw wi_305 (mj_condw wi_306 wi_307)) (mj_condw (mj_condw wi_308 wi_309) (mj_condw wi_310 wi_311))))))) (mj_condw (mj_condw (mj_condw (mj_condw (mj_condw (mj_condw wi_312 (mj_condw wi_313 wi_314)) (mj_condw wi_315 (mj_condw wi_316 wi_317))) (mj_condw (mj_condw wi_318 (mj_condw wi_319 wi_320)) (mj_condw (mj_condw wi_321 wi_322) (mj_condw wi_323 wi_324)))) (mj_condw (mj_condw (mj_condw wi_325 (mj_condw wi_326 wi_327)) (mj_condw wi_328 (mj_condw wi_329 wi_330))) (mj_condw (mj_condw wi_331 (mj_condw wi_332 wi_333)) (mj_condw (mj_condw wi_334 wi_335) (mj_condw wi_336 wi_337))))) (mj_condw (mj_condw (mj_condw (mj_condw wi_338 (mj_condw wi_339 wi_340)) (mj_condw wi_341 (mj_condw wi_342 wi_343))) (mj_condw (mj_condw wi_344 (mj_condw wi_345 wi_346)) (mj_condw (mj_condw wi_347 wi_348) (mj_condw wi_349 wi_350)))) (mj_condw (mj_condw (mj_condw wi_351 (mj_condw wi_352 wi_353)) (mj_condw wi_354 (mj_condw wi_355 wi_356))) (mj_condw (mj_condw wi_357 (mj_condw wi_358 wi_359)) (mj_condw (mj_condw wi_360 wi_361) (mj_condw wi_362 wi_363)))))) (mj_condw (mj_condw (mj_condw (mj_condw (mj_condw wi_364 (mj_condw wi_365 wi_366)) (mj_condw wi_367 (mj_condw wi_368 wi_369))) (mj_condw (mj_condw wi_370 (mj_condw wi_371 wi_372)) (mj_condw (mj_condw wi_373 wi_374) (mj_condw wi_375 wi_376)))) (mj_condw (mj_condw (mj_condw wi_377 (mj_condw wi_378 wi_379)) (mj_condw wi_380 (mj_condw wi_381 wi_382))) (mj_condw (mj_condw wi_383 (mj_condw wi_384 wi_385)) (mj_condw (mj_condw wi_386 wi_387) (mj_condw wi_388 wi_389))))) (mj_condw (mj_condw (mj_condw (mj_condw wi_390 (mj_condw wi_391 wi_392)) (mj_condw wi_393 (mj_condw wi_394 wi_395))) (mj_condw (mj_condw wi_396 (mj_condw wi_397 wi_398)) (mj_condw (mj_condw wi_399 wi_400) (mj_condw wi_401 wi_402)))) (mj_condw (mj_condw (mj_condw wi_403 (mj_condw wi_404 wi_405)) (mj_condw (mj_condw wi_406 wi_407) (mj_condw wi_408 wi_409))) (mj_condw (mj_condw wi_410 (mj_condw wi_411 wi_412)) (mj_condw (mj_condw wi_413 wi_414) (mj_condw wi_415 wi_416))))))))) (mj_condw (mj_condw (mj_condw (mj_condw (mj_condw (mj_condw (mj_condw (mj_condw wi_417 (mj_condw wi_418 wi_419)) (mj_condw wi_420 (mj_condw wi_421 wi_422))) (mj_condw (mj_condw wi_423 (mj_condw wi_424 wi_425)) (mj_condw (mj_condw wi_426 wi_427) (mj_condw wi_428 wi_429)))) (mj_condw (mj_condw (mj_condw wi_430 (mj_condw wi_431 wi_432)) (mj_condw wi_433 (mj_condw wi_434 wi_435))) (mj_condw (mj_condw wi_436 (mj_condw wi_437 wi_438)) (mj_condw (mj_condw wi_439 wi_440) (mj_condw wi_441 wi_442))))) (mj_condw (mj_condw (mj_condw (mj_condw wi_443 (mj_condw wi_444 wi_445)) (mj_condw wi_446 (mj_condw wi_447 wi_448))) (mj_condw (mj_condw wi_449 (mj_condw wi_450 wi_451)) (mj_condw (mj_condw wi_452 wi_453) (mj_condw wi_454 wi_455)))) (mj_condw (mj_condw (mj_condw wi_456 (mj_condw wi_457 wi_458)) (mj_condw wi_459 (mj_condw wi_460 wi_461))) (mj_condw (mj_condw wi_462 (mj_condw wi_463 wi_464)) (mj_condw (mj_condw wi_465 wi_466) (mj_condw wi_467 wi_468)))))) (mj_condw (mj_condw (mj_condw (mj_condw (mj_condw wi_469 (mj_condw wi_470 wi_471)) (mj_condw wi_472 (mj_condw wi_473 wi_474))) (mj_condw (mj_condw wi_475 (mj_condw wi_476 wi_477)) (mj_condw (mj_condw wi_478 wi_479) (mj_condw wi_480 wi_481)))) (mj_condw (mj_condw (mj_condw wi_482 (mj_condw wi_483 wi_484)) (mj_condw wi_485 (mj_condw wi_486 wi_487))) (mj_condw (mj_condw wi_488 (mj_condw wi_489 wi_490)) (mj_condw (mj_condw wi_491 wi_492) (mj_condw wi_493 wi_494))))) (mj_condw (mj_condw (mj_condw (mj_condw wi_495 (mj_condw wi_496 wi_497)) (mj_condw wi_498 (mj_condw wi_499 wi_500))) (mj_condw (mj_condw wi_501 (mj_condw wi_502 wi_503)) (mj_condw (mj_condw wi_504 wi_505) (mj_condw wi_506 wi_507)))) (mj_condw (mj_condw (mj_condw wi_508 (mj_condw wi_509 wi_510)) (mj_condw wi_511 (mj_condw wi_512 wi_513))) (mj_condw (mj_condw wi_514 (mj_condw wi_515 wi_516)) (mj_condw (mj_condw wi_517 wi_518) (mj_condw wi_519 wi_520))))))) (mj_condw (mj_condw (mj_condw (mj_condw (mj_condw (mj_condw wi_521 (mj_condw wi_522 wi_523)) (mj_condw wi_524 (mj_condw wi_525 wi_526))) (mj_condw (mj_condw wi_527 (mj_condw wi_528 wi_529)) (mj_condw (mj_condw wi_530 wi_531) (mj_condw wi_532 wi_533)))) (mj_condw (mj_condw (mj_condw wi_534 (mj_condw wi_535 wi_536)) (mj_condw wi_537 (mj_condw wi_538 wi_539))) (mj_condw (mj_condw wi_540 (mj_condw wi_541 wi_542)) (mj_condw (mj_condw wi_543 wi_544) (mj_condw wi_545 wi_546))))) (mj_condw (mj_condw (mj_condw (mj_condw wi_547 (mj_condw wi_548 wi_549)) (mj_condw wi_550 (mj_condw wi_551 wi_552))) (mj_condw (mj_condw wi_553 (mj_condw wi_554 wi_555)) (mj_condw (mj_condw wi_556 wi_557) (mj_condw wi_558 wi_559)))) (mj_condw (mj_condw (mj_condw wi_560 (mj_condw wi_561 wi_562)) (mj_condw wi_563 (mj_condw wi_564 wi_565))) (mj_condw (mj_condw wi_566 (mj_condw wi_567 wi_568)) (mj_condw (mj_condw wi_569 wi_570) (mj_condw wi_571 wi_572)))))) (mj_condw (mj_condw (mj_condw (mj_condw (mj_condw wi_573 (mj_condw wi_574 wi_575)) (mj_condw wi_576 (mj_condw wi_577 wi_578))) (mj_condw (mj_condw wi_579 (mj_condw wi_580 wi_581)) (mj_condw (mj_condw wi_582 wi_583) (mj_condw wi_584 wi_585)))) (mj_condw (mj_condw (mj_condw wi_586 (mj_condw wi_587 wi_588)) (mj_condw wi_589 (mj_condw wi_590 wi_591))) (mj_condw (mj_condw wi_592 (mj_condw wi_593 wi_594)) (mj_condw (mj_condw wi_595 wi_596) (mj_condw wi_597 wi_598))))) (mj_condw (mj_condw (mj_condw (mj_condw wi_599 (mj_condw wi_600 wi_601)) (mj_condw wi_602 (mj_condw wi_603 wi_604))) (mj_condw (mj_condw wi_605 (mj_condw wi_606 wi_607)) (mj_condw (mj_condw wi_608 wi_609) (mj_condw wi_610 wi_611)))) (mj_condw (mj_condw (mj_condw wi_612 (mj_condw wi_613 wi_614)) (mj_condw (mj_condw wi_615 wi_616) (mj_condw wi_617 wi_618))) (mj_condw (mj_condw wi_619 (mj_condw wi_620 wi_621)) (mj_condw (mj_condw wi_622 wi_623) (mj_condw wi_624 wi_625)))))))) (mj_condw (mj_condw (mj_condw (mj_condw (mj_condw (mj_condw (mj_condw wi_626 (mj_condw wi_627 wi_628)) (mj_condw wi_629 (mj_condw wi_630 wi_631))) (mj_condw (mj_condw wi_632 (mj_condw wi_633 wi_634)) (mj_condw (mj_condw wi_635 wi_636) (mj_condw wi_637 wi_638)))) (mj_condw (mj_condw (mj_condw wi_639 (mj_condw wi_640 wi_641)) (mj_condw wi_642 (mj_condw wi_643 wi_644))) (mj_condw (mj_condw wi_645 (mj_condw wi_646 wi_647)) (mj_condw (mj_condw wi_648 wi_649) (mj_condw wi_650 wi_651))))) (mj_condw (mj_condw (mj_condw (mj_condw wi_652 (mj_condw wi_653 wi_654)) (mj_condw wi_655 (mj_condw wi_656 wi_657))) (mj_condw (mj_condw wi_658 (mj_condw wi_659 wi_660)) (mj_condw (mj_condw wi_661 wi_662) (mj_condw wi_663 wi_664)))) (mj_condw (mj_condw (mj_condw wi_665 (mj_condw wi_666 wi_667)) (mj_condw wi_668 (mj_condw wi_669 wi_670))) (mj_condw (mj_condw wi_671 (mj_condw wi_672 wi_673)) (mj_condw (mj_condw wi_674 wi_675) (mj_condw wi_676 wi_677)))))) (mj_condw (mj_condw (mj_condw (mj_condw (mj_condw wi_678 (mj_condw wi_679 wi_680)) (mj_condw wi_681 (mj_condw wi_682 wi_683))) (mj_condw (mj_condw wi_684 (mj_condw wi_685 wi_686)) (mj_condw (mj_condw wi_687 wi_688) (mj_condw wi_689 wi_690)))) (mj_condw (mj_condw (mj_condw wi_691 (mj_condw wi_692 wi_693)) (mj_condw wi_694 (mj_condw wi_695 wi_696))) (mj_condw (mj_condw wi_697 (mj_condw wi_698 wi_699)) (mj_condw (mj_condw wi_700 wi_701) (mj_condw wi_702 wi_703))))) (mj_condw (mj_condw (mj_condw (mj_condw wi_704 (mj_condw wi_705 wi_706)) (mj_condw wi_707 (mj_condw wi_708 wi_709))) (mj_condw (mj_condw wi_710 (mj_condw wi_711 wi_712)) (mj_condw (mj_condw wi_713 wi_714) (mj_condw wi_715 wi_716)))) (mj_condw (mj_condw (mj_condw wi_717 (mj_condw wi_718 wi_719)) (mj_condw wi_720 (mj_condw wi_721 wi_722))) (mj_condw (mj_condw wi_723 (mj_condw wi_724 wi_725)) (mj_condw (mj_condw wi_726 wi_727) (mj_condw wi_728 wi_729))))))) (mj_condw (mj_condw (mj_condw (mj_condw (mj_condw (mj_condw wi_730 (mj_condw wi_731 wi_732)) (mj_condw wi_733 (mj_condw wi_734 wi_735))) (mj_condw (mj_condw wi_736 (mj_condw wi_737 wi_738)) (mj_condw (mj_condw wi_739 wi_740) (mj_condw wi_741 wi_742)))) (mj_condw (mj_condw (mj_condw wi_743 (mj_condw wi_744 wi_745)) (mj_condw wi_746 (mj_condw wi_747 wi_748))) (mj_condw (mj_condw wi_749 (mj_condw wi_750 wi_751)) (mj_condw (mj_condw wi_752 wi_753) (mj_condw wi_754 wi_755))))) (mj_condw (mj_condw (mj_condw (mj_condw wi_756 (mj_condw wi_757 wi_758)) (mj_condw wi_759 (mj_condw wi_760 wi_761))) (mj_condw (mj_condw wi_762 (mj_condw wi_763 wi_764)) (mj_condw (mj_condw wi_765 wi_766) (mj_condw wi_767 wi_768)))) (mj_condw (mj_condw (mj_condw wi_769 (mj_condw wi_770 wi_771)) (mj_condw wi_772 (mj_condw wi_773 wi_774))) (mj_condw (mj_condw wi_775 (mj_condw wi_776 wi_777)) (mj_condw (mj_condw wi_778 wi_779) (mj_condw wi_780 wi_781)))))) (mj_condw (mj_condw (mj_condw (mj_condw (mj_condw wi_782 (mj_condw wi_783 wi_784)) (mj_condw wi_785 (mj_condw wi_786 wi_787))) (mj_condw (mj_condw wi_788 (mj_condw wi_789 wi_790)) (mj_condw (mj_condw wi_791 wi_792) (mj_condw wi_793 wi_794)))) (mj_condw (mj_condw (mj_condw wi_795 (mj_condw wi_796 wi_797)) (mj_condw wi_798 (mj_condw wi_799 wi_800))) (mj_condw (mj_condw wi_801 (mj_condw wi_802 wi_803)) (mj_condw (mj_condw wi_804 wi_805) (mj_condw wi_806 wi_807))))) (mj_condw (mj_condw (mj_condw (mj_condw wi_808 (mj_condw wi_809 wi_810)) (mj_condw wi_811 (mj_condw wi_812 wi_813))) (mj_condw (mj_condw wi_814 (mj_condw wi_815 wi_816)) (mj_condw (mj_condw wi_817 wi_818) (mj_condw wi_819 wi_820)))) (mj_condw (mj_condw (mj_condw wi_821 (mj_condw wi_822 wi_823)) (mj_condw (mj_condw wi_824 wi_825) (mj_condw wi_826 wi_827))) (mj_condw (mj_condw wi_828 (mj_condw wi_829 wi_830)) (mj_condw (mj_condw wi_831 wi_832) (mj_condw wi_833 wi_834))))))))))
end
section
/-! ===== methods by their numbers; what a program checks of a method's list ===== -/
/-- name, code, places, what it returns, its list, (sort: 0 an object's, 1 static, 2 a maker; class; arguments), (cells, slots) -/
abbrev mj_T : Type := MethodName × ByteArray × Nat × Option FieldType × List mj_E × (Nat × Nat × Nat) × (Nat × Nat)
def mj_pc (full : List mj_E) (i : Nat) : Nat := match full[i]? with
  | some x => x.2.1
  | none => 0
def mj_len (i : Instr) : Nat := match i with
  | .iload _ => 2
  | .lload _ => 2
  | .aload _ => 2
  | .istore _ => 2
  | .lstore _ => 2
  | .astore _ => 2
  | .iinc _ _ => 3
  | .bipush _ => 2
  | .sipush _ => 3
  | .ldc _ => 2
  | .ldc2_w _ => 3
  | .ifCond _ _ => 3
  | .if_acmp _ _ => 3
  | .getstatic _ => 3
  | .putstatic _ => 3
  | .ldc_w _ => 3
  | .checkcast _ => 3
  | .if_icmp _ _ => 3
  | .ifnull _ => 3
  | .ifnonnull _ => 3
  | .goto _ => 3
  | .getfield _ => 3
  | .putfield _ => 3
  | .newarray _ => 2
  | .multianewarray _ _ => 4
  | .new _ => 3
  | .anewarray _ => 3
  | .invokevirtual _ => 3
  | .invokestatic _ => 3
  | .invokespecial _ => 3
  | _ => 1
/-- a switch says its length itself -/
def mj_lx (x : mj_E) : Nat := match x.1 with
  | .tableswitch _ _ _ _ => x.2.2.2.toNat
  | i => mj_len i
/-- a switch's targets, place by place -/
def mj_ct (full : List mj_E) (pc : Int) : List Int → List Nat → Bool
  | [], [] => true
  | o :: os, t :: ts => decide (pc + o = (mj_pc full t : Int)) && mj_ct full pc os ts
  | _, _ => false
def mj_cls (ci : Nat) : String := (vwCl.getD ci (RX0, TX0, 0)).1
def mj_fld (ci k : Nat) : String × String × String × Bool := (vwCl.getD ci (RX0, TX0, 0)).2.1 k
def mj_num (ci : Nat) : Nat := (vwCl.getD ci (RX0, TX0, 0)).2.2
/-- what is checked of one row -/
def mj_cx (T : Nat → mj_T) (own : String) (ret : Option FieldType) (nL : Nat) (ini : Bool) (full : List mj_E) (x : mj_E) : Bool := match x.1 with
  | .istore_n k => decide (k.val < nL)
  | .istore k => decide (k < nL)
  | .astore_n k => decide (k.val < nL)
  | .astore k => decide (k < nL)
  | .lstore_n k => decide (k.val + 1 < nL)
  | .lstore k => decide (k + 1 < nL)
  | .iinc k _ => decide (k < nL)
  | .iconst z => decide (-2147483648 ≤ z ∧ z < 2147483648)
  | .bipush z => decide (-2147483648 ≤ z ∧ z < 2147483648) && decide ((Int8.ofInt z).toInt32 = Int32.ofInt z)
  | .sipush z => decide (-2147483648 ≤ z ∧ z < 2147483648) && decide ((Int16.ofInt z).toInt32 = Int32.ofInt z)
  | .ldc i => decide (-2147483648 ≤ x.2.2.2 ∧ x.2.2.2 < 2147483648) && decide (mj_wi (mj_hd x.2.2.1) = Cond.constant own i (Int32.ofInt x.2.2.2))
  | .ldc2_w i => decide (mj_wi (mj_hd x.2.2.1) = Cond.constantLong own i (Int64.ofInt x.2.2.2))
  | .ifCond _ off => decide ((x.2.1 : Int) + off = (mj_pc full (mj_hd x.2.2.1) : Int))
  | .if_icmp _ off => decide ((x.2.1 : Int) + off = (mj_pc full (mj_hd x.2.2.1) : Int))
  | .ifnull off => decide ((x.2.1 : Int) + off = (mj_pc full (mj_hd x.2.2.1) : Int))
  | .ifnonnull off => decide ((x.2.1 : Int) + off = (mj_pc full (mj_hd x.2.2.1) : Int))
  | .goto off => decide ((x.2.1 : Int) + off = (mj_pc full (mj_hd x.2.2.1) : Int))
  | .getfield i => x.2.2.1.isEmpty || decide (mj_hd x.2.2.1 < 12) && decide (mj_h1 x.2.2.1 < mj_num (mj_hd x.2.2.1)) && decide (mj_wi (mj_h2 x.2.2.1) = Cond.fieldLink own i (mj_fld (mj_hd x.2.2.1) (mj_h1 x.2.2.1)).1 (mj_fld (mj_hd x.2.2.1) (mj_h1 x.2.2.1)).2.1 (mj_fld (mj_hd x.2.2.1) (mj_h1 x.2.2.1)).2.2.1)
  | .putfield i => x.2.2.1.isEmpty || decide (mj_hd x.2.2.1 < 12) && decide (mj_h1 x.2.2.1 < mj_num (mj_hd x.2.2.1)) && decide (mj_wi (mj_h2 x.2.2.1) = Cond.fieldLink own i (mj_fld (mj_hd x.2.2.1) (mj_h1 x.2.2.1)).1 (mj_fld (mj_hd x.2.2.1) (mj_h1 x.2.2.1)).2.1 (mj_fld (mj_hd x.2.2.1) (mj_h1 x.2.2.1)).2.2.1) && (!(mj_fld (mj_hd x.2.2.1) (mj_h1 x.2.2.1)).2.2.2 || (ini && decide ((mj_fld (mj_hd x.2.2.1) (mj_h1 x.2.2.1)).1 = own)))
  | .aaload => decide (mj_hd x.2.2.1 < 7) && decide ((mj_at (mj_hd x.2.2.1)).isReference = true) && decide (mj_as (mj_hd x.2.2.1) = 2)
  | .newarray a => decide (mj_hd x.2.2.1 < 4) && decide (newarray.typeOf a = mj_at (mj_hd x.2.2.1)) && decide (mj_wi (mj_h1 x.2.2.1) = Cond.arrayClass (mj_at (mj_hd x.2.2.1)))
  | .multianewarray i d => decide (d = 2) && decide (mj_wi (mj_hd x.2.2.1) = Cond.classLink own i ("[" ++ (FieldType.array .int).toString))
  | .anewarray i => decide (mj_hd x.2.2.1 = 5 ∨ mj_hd x.2.2.1 = 6) && decide (mj_wi (mj_h1 x.2.2.1) = Cond.classLink own i (mj_cn (mj_hd x.2.2.1)))
  | .aastore => decide (mj_hd x.2.2.1 = 5 ∨ mj_hd x.2.2.1 = 6)
  | .tableswitch df lo hi offs => decide ((x.2.1 : Int) + df = (mj_pc full (mj_hd x.2.2.1) : Int)) && decide (((x.2.2.1.drop 1).length : Int) = hi - lo + 1) && mj_ct full x.2.1 offs.toList (x.2.2.1.drop 1)
  | .new i => x.2.2.1.isEmpty || decide (mj_hd x.2.2.1 < 12) && decide (mj_wi (mj_h2 x.2.2.1) = Cond.classLink own i (mj_cls (mj_hd x.2.2.1))) && decide (mj_wi (mj_h3 x.2.2.1) = Cond.instantiable (mj_cls (mj_hd x.2.2.1)) (mj_h1 x.2.2.1)) && decide (mj_wi (mj_h4 x.2.2.1) = Cond.initialized (mj_cls (mj_hd x.2.2.1)))
  | .invokevirtual i => x.2.2.1.isEmpty || decide ((T (mj_hd x.2.2.1)).2.2.2.2.2.1 = (0, mj_h2 x.2.2.1, mj_h1 x.2.2.1)) && decide (mj_h2 x.2.2.1 < 12) && decide (mj_wi (mj_h3 x.2.2.1) = Cond.methodLink own i (T (mj_hd x.2.2.1)).1)
  | .invokestatic i => match x.2.2.1 with
    | [0, w] => decide (mj_wi w = Cond.methodLink own i Lib.Math.max.name)
    | [1, w] => decide (mj_wi w = Cond.methodLink own i Lib.Math.min.name)
    | [2, w] => decide (mj_wi w = Cond.methodLink own i Lib.Math.abs.name)
    | [_, w] => decide (mj_wi w = Cond.methodLink own i arraycopyName)
    | [] => true
    | _ => decide ((T (mj_hd x.2.2.1)).2.2.2.2.2.1.1 = 1) && decide ((T (mj_hd x.2.2.1)).2.2.2.2.2.1.2.2 = mj_h1 x.2.2.1) && decide (mj_wi (mj_h3 x.2.2.1) = Cond.methodLink own i (T (mj_hd x.2.2.1)).1)
  | .invokespecial i => match x.2.2.1 with
    | [] => decide (mj_wi x.2.2.2.toNat = Cond.methodLink own i objectInit)
    | y :: _ => decide ((T y).2.2.2.2.2.1 = (2, mj_h2 x.2.2.1, mj_h1 x.2.2.1)) && decide (mj_wi (mj_h3 x.2.2.1) = Cond.methodLink own i (T y).1)
  | .ireturn => decide ((x.2.2.2 = 0 ∧ ret = some .int) ∨ (x.2.2.2 = 1 ∧ ret = some .boolean))
  | .return_ => decide (ret = none)
  | _ => true
def mj_ends (i : Instr) : Bool := match i with
  | .goto _ => true
  | .tableswitch _ _ _ _ => true
  | .ireturn => true
  | .areturn => true
  | .lreturn => true
  | .athrow => true
  | .return_ => true
  | _ => false
def mj_cb (T : Nat → mj_T) (own : String) (ret : Option FieldType) (nL : Nat) (ini : Bool) (cc : ByteArray) (full : List mj_E) (i : Nat) (x : mj_E) : Bool :=
  decide (decode cc x.2.1 = .ok (x.1, mj_lx x)) && (mj_ends x.1 || decide (mj_pc full (i + 1) = x.2.1 + mj_lx x)) && mj_cx T own ret nL ini full x
def mj_ca (T : Nat → mj_T) (own : String) (ret : Option FieldType) (nL : Nat) (ini : Bool) (cc : ByteArray) (full : List mj_E) : Nat → List mj_E → Bool
  | _, [] => true
  | i, x :: t => mj_cb T own ret nL ini cc full i x && mj_ca T own ret nL ini cc full (i + 1) t
theorem mj_ct_at {full : List mj_E} {pc : Int} : ∀ (os : List Int) (ts : List Nat), mj_ct full pc os ts = true → ∀ (k t : Nat), ts[k]? = some t → ∃ o, os[k]? = some o ∧ pc + o = (mj_pc full t : Int)
  | [], [], _, k, t, h => by simp at h
  | [], _ :: _, h, _, _, _ => by cases h
  | _ :: _, [], h, _, _, _ => by cases h
  | o :: os, t' :: ts, h, 0, t, hk => by
    obtain rfl : t' = t := by simpa using hk
    unfold mj_ct at h
    rw [Bool.and_eq_true] at h
    exact ⟨o, rfl, of_decide_eq_true h.1⟩
  | o :: os, t' :: ts, h, k + 1, t, hk => by
    unfold mj_ct at h
    rw [Bool.and_eq_true] at h
    obtain ⟨o', h1, h2⟩ := mj_ct_at os ts h.2 k t (by simpa using hk)
    exact ⟨o', by simpa using h1, h2⟩
theorem mj_ca_at {T : Nat → mj_T} {own : String} {ret : Option FieldType} {nL : Nat} {ini : Bool} {cc : ByteArray} {full : List mj_E} : ∀ (l : List mj_E) (i j : Nat) (x : mj_E), mj_ca T own ret nL ini cc full i l = true → l[j]? = some x → mj_cb T own ret nL ini cc full (i + j) x = true
  | [], _, _, _, _, h => by simp at h
  | y :: t, i, 0, x, h, hx => by
    obtain rfl : y = x := by simpa using hx
    exact (Bool.and_eq_true _ _ ▸ h : _ ∧ _).1
  | y :: t, i, j + 1, x, h, hx => by
    have := mj_ca_at t (i + 1) j x (Bool.and_eq_true _ _ ▸ h : _ ∧ _).2 (by simpa using hx)
    rw [show i + 1 + j = i + (j + 1) by omega] at this
    exact this
/-- what is checked of a method's words -/
def mj_cm (q : mj_T) : Bool := decide (Cond.code q.1 q.2.1 q.2.2.1 q.2.2.2.1 ∈ mj_tb) && decide (Cond.initialized q.1.cls ∈ mj_tb) && decide (q.1.cls ≠ "java/lang/invoke/MethodHandle") && decide (q.1.cls ≠ "java/lang/invoke/VarHandle") && decide ((parseMethodDescriptor q.1.desc).map (fun d => d.parameters.length) = some q.2.2.2.2.2.1.2.2) && decide (plainName q.1.cls = true) && decide (q.2.2.1 ≤ 80) &&
  (match q.2.2.2.2.2.1.1 with
  | 0 => decide (q.1.cls = mj_cls q.2.2.2.2.2.1.2.1) && decide (Cond.instanceMethod q.1 ∈ mj_tb) && decide (Cond.selects q.1.cls q.1 q.1 ∈ mj_tb)
  | 1 => decide (Cond.static q.1 ∈ mj_tb)
  | _ => decide (q.1.cls = mj_cls q.2.2.2.2.2.1.2.1) && decide (Cond.instanceMethod q.1 ∈ mj_tb) && decide (q.1.name = "<init>") && decide (q.2.2.2.1 = none))
def mj_ok1 (T : Nat → mj_T) (q : mj_T) : Bool := mj_cm q && mj_ca T q.1.cls q.2.2.2.1 q.2.2.1 (decide (q.1.name = "<init>")) q.2.1 q.2.2.2.2.1 0 q.2.2.2.2.1 && decide (mj_pc q.2.2.2.2.1 0 = 0)
def mj_wd : List mj_V → Nat
  | [] => 0
  | .inr (.inl _) :: t => 2 + mj_wd t
  | _ :: t => 1 + mj_wd t
/-- the places at a method's start -/
def mj_en : List mj_V → Nat → mj_L
  | [], n => List.replicate n none
  | .inr (.inl w) :: t, n => some (.inr (.inl w)) :: none :: mj_en t (n - 2)
  | .inl z :: t, n => some (.inl z) :: mj_en t (n - 1)
  | .inr (.inr r) :: t, n => some (.inr (.inr r)) :: mj_en t (n - 1)
/-- a method, called no deeper than d, comes to an end with Q -/
def mj_R (T : Nat → mj_T) : Nat → mj_C
  | 0 => fun _ _ _ _ _ => False
  | d + 1 => fun y av G M Q => mj_wd av ≤ (T y).2.2.1 ∧ mj_W (fun y => (T y).2.2.2.2.2.2) (mj_R T d) (T y).2.2.2.2.1 Q (T y).2.2.2.2.1 (mj_en av (T y).2.2.1) [] G M (T y).2.2.2.2.2.2.1 (T y).2.2.2.2.2.2.2
theorem mj_en_asc : ∀ (av : List mj_V) (n i : Nat), mj_asc i (mj_en av n) = lv_args i (av.map mj_val)
  | [], n, i => by
    show mj_asc i (List.replicate n none) = []
    induction n generalizing i with
    | zero => rfl
    | succ n ih => exact ih (i + 1)
  | .inr (.inl w) :: t, n, i => by
    show (i, Value.long w) :: mj_asc (i + 1 + 1) (mj_en t (n - 2)) = (i, Value.long w) :: lv_args (i + 2) (t.map mj_val)
    rw [mj_en_asc t]
  | .inl z :: t, n, i => by
    show (i, Value.int (Int32.ofInt z)) :: mj_asc (i + 1) (mj_en t (n - 1)) = (i, Value.int (Int32.ofInt z)) :: lv_args (i + 1) (t.map mj_val)
    rw [mj_en_asc t]
  | .inr (.inr none) :: t, n, i => by
    show (i, Value.null) :: mj_asc (i + 1) (mj_en t (n - 1)) = (i, Value.null) :: lv_args (i + 1) (t.map mj_val)
    rw [mj_en_asc t]
  | .inr (.inr (some a)) :: t, n, i => by
    show (i, Value.ref a) :: mj_asc (i + 1) (mj_en t (n - 1)) = (i, Value.ref a) :: lv_args (i + 1) (t.map mj_val)
    rw [mj_en_asc t]
theorem mj_en_len : ∀ (av : List mj_V) (n : Nat), mj_wd av ≤ n → (mj_en av n).length = n
  | [], n, _ => by simp [mj_en]
  | .inr (.inl w) :: t, n, h => by
    have h : 2 + mj_wd t ≤ n := h
    show (mj_en t (n - 2)).length + 1 + 1 = n
    rw [mj_en_len t (n - 2) (by omega)]; omega
  | .inl z :: t, n, h => by
    have h : 1 + mj_wd t ≤ n := h
    show (mj_en t (n - 1)).length + 1 = n
    rw [mj_en_len t (n - 1) (by omega)]; omega
  | .inr (.inr r) :: t, n, h => by
    have h : 1 + mj_wd t ≤ n := h
    show (mj_en t (n - 1)).length + 1 = n
    rw [mj_en_len t (n - 1) (by omega)]; omega
theorem mj_wd_eq : ∀ av : List mj_V, (lg_sl (av.map mj_val)).length = mj_wd av
  | [] => rfl
  | .inr (.inl w) :: t => by
    have := mj_wd_eq t
    show (([Slot.val (Value.long w), Slot.second] : List Slot) ++ lg_sl (t.map mj_val)).length = 2 + mj_wd t
    rw [List.length_append, this]; rfl
  | .inl z :: t => by
    have := mj_wd_eq t
    show (([Slot.val (Value.int (Int32.ofInt z))] : List Slot) ++ lg_sl (t.map mj_val)).length = 1 + mj_wd t
    rw [List.length_append, this]; rfl
  | .inr (.inr none) :: t => by
    have := mj_wd_eq t
    show (([Slot.val Value.null] : List Slot) ++ lg_sl (t.map mj_val)).length = 1 + mj_wd t
    rw [List.length_append, this]; rfl
  | .inr (.inr (some a)) :: t => by
    have := mj_wd_eq t
    show (([Slot.val (Value.ref a)] : List Slot) ++ lg_sl (t.map mj_val)).length = 1 + mj_wd t
    rw [List.length_append, this]; rfl
theorem mj_en_ok : ∀ (av : List mj_V) (n : Nat) (j : Nat) (v : mj_V), (∀ w ∈ av, mj_ok w) → mj_nt (mj_en av n) j = some v → mj_ok v
  | [], n, j, v, _, h => by
    have : ∀ (n j : Nat), mj_nt (List.replicate n none) j = none := by
      intro n
      induction n with
      | zero => intro j; rfl
      | succ n ih =>
        intro j
        cases j with
        | zero => rfl
        | succ j => exact ih j
    rw [show mj_en [] n = List.replicate n none from rfl, this] at h
    cases h
  | .inr (.inl w) :: t, n, 0, v, _, h => by cases h; trivial
  | .inr (.inl w) :: t, n, 1, v, _, h => by cases h
  | .inr (.inl w) :: t, n, j + 2, v, ha, h => mj_en_ok t (n - 2) j v (mj_tl ha) h
  | .inl z :: t, n, 0, v, ha, h => by cases h; exact mj_head ha
  | .inl z :: t, n, j + 1, v, ha, h => mj_en_ok t (n - 1) j v (mj_tl ha) h
  | .inr (.inr r) :: t, n, 0, v, _, h => by cases h; trivial
  | .inr (.inr r) :: t, n, j + 1, v, ha, h => mj_en_ok t (n - 1) j v (mj_tl ha) h
end
section
/-! ===== what the small machine does, the machine does ===== -/
theorem mj_ldi_e {L : mj_L} {i : Nat} {k : mj_V → Prop} (h : mj_ldi L i k) : ∃ z, mj_nt L i = some (.inl z) ∧ k (.inl z) := by
  unfold mj_ldi at h
  split at h
  · rename_i z hz; exact ⟨z, hz, h⟩
  · exact h.elim
theorem mj_ldl_e {L : mj_L} {i : Nat} {k : mj_V → Prop} (h : mj_ldl L i k) : ∃ z, mj_nt L i = some (.inr (.inl z)) ∧ k (.inr (.inl z)) := by
  unfold mj_ldl at h
  split at h
  · rename_i z hz; exact ⟨z, hz, h⟩
  · exact h.elim
theorem mj_lda_e {L : mj_L} {i : Nat} {k : mj_V → Prop} (h : mj_lda L i k) : ∃ z, mj_nt L i = some (.inr (.inr z)) ∧ k (.inr (.inr z)) := by
  unfold mj_lda at h
  split at h
  · rename_i z hz; exact ⟨z, hz, h⟩
  · exact h.elim
theorem mj_i1_e {st : List mj_V} {k : Int → List mj_V → Prop} (h : mj_i1 st k) : ∃ z t, st = .inl z :: t ∧ k z t := by
  unfold mj_i1 at h
  split at h
  · exact ⟨_, _, rfl, h⟩
  · exact h.elim
theorem mj_l1_e {st : List mj_V} {k : Int64 → List mj_V → Prop} (h : mj_l1 st k) : ∃ z t, st = .inr (.inl z) :: t ∧ k z t := by
  unfold mj_l1 at h
  split at h
  · exact ⟨_, _, rfl, h⟩
  · exact h.elim
theorem mj_r1_e {st : List mj_V} {k : Option Nat → List mj_V → Prop} (h : mj_r1 st k) : ∃ z t, st = .inr (.inr z) :: t ∧ k z t := by
  unfold mj_r1 at h
  split at h
  · exact ⟨_, _, rfl, h⟩
  · exact h.elim
theorem mj_a1_e {st : List mj_V} {k : Nat → List mj_V → Prop} (h : mj_a1 st k) : ∃ z t, st = .inr (.inr (some z)) :: t ∧ k z t := by
  unfold mj_a1 at h
  split at h
  · exact ⟨_, _, rfl, h⟩
  · exact h.elim
theorem mj_c1_e {st : List mj_V} {k : mj_V → List mj_V → Prop} (h : mj_c1 st k) : ∃ v t, st = v :: t ∧ (∀ w, v ≠ .inr (.inl w)) ∧ k v t := by
  unfold mj_c1 at h
  split at h
  · exact ⟨_, _, rfl, (fun w q => by cases q), h⟩
  · exact ⟨_, _, rfl, (fun w q => by cases q), h⟩
  · exact h.elim
theorem mj_pop_e : ∀ (n : Nat) (acc st : List mj_V) (k : List mj_V → List mj_V → Prop), mj_pop n acc st k → ∃ As st', st = As.reverse ++ st' ∧ As.length = n ∧ k (As ++ acc) st'
  | 0, acc, st, k, h => ⟨[], st, rfl, rfl, h⟩
  | n + 1, acc, [], k, h => h.elim
  | n + 1, acc, v :: st, k, h => by
    obtain ⟨As, st', h1, h2, h3⟩ := mj_pop_e n (v :: acc) st k h
    refine ⟨As ++ [v], st', ?_, by simp [h2], ?_⟩
    · simp [h1]
    · rw [List.append_assoc]; exact h3
theorem mj_ald_e {j : Nat} {st : List mj_V} {G : mj_G} {k : Nat → Nat → List mj_V → Prop} (h : mj_ald j st G k) : ∃ i a st' t n, st = .inl i :: .inr (.inr (some a)) :: st' ∧ G a = (t, n) ∧ t % 1000 = 100 + j ∧ 0 ≤ i ∧ i < (n : Int) ∧ k a i.toNat st' := by
  obtain ⟨i, st1, rfl, h⟩ := mj_i1_e h
  obtain ⟨a, st2, rfl, h⟩ := mj_a1_e h
  obtain ⟨t, n, h1, h2, h3, h4, h5⟩ := h
  exact ⟨i, a, st2, t, n, rfl, h1, h2, h3, h4, h5⟩
theorem mj_aldw_e {j : Nat} {st : List mj_V} {G : mj_G} {k : Nat → Nat → List mj_V → Prop} (h : mj_aldw j st G k) : ∃ i a st' t n, st = .inl i :: .inr (.inr (some a)) :: st' ∧ G a = (t, n) ∧ t % 1000 = 100 + j ∧ t < 900000 ∧ 0 ≤ i ∧ i < (n : Int) ∧ k a i.toNat st' := by
  obtain ⟨i, st1, rfl, h⟩ := mj_i1_e h
  obtain ⟨a, st2, rfl, h⟩ := mj_a1_e h
  obtain ⟨t, n, h1, h2, h9, h3, h4, h5⟩ := h
  exact ⟨i, a, st2, t, n, rfl, h1, h2, h9, h3, h4, h5⟩
theorem mj_em {α : Type} {l : List α} (h : l ≠ []) {b : Bool} (hb : (l.isEmpty || b) = true) : b = true := by
  cases l with
  | nil => exact absurd rfl h
  | cons x t => exact hb
theorem mj_win {i : Nat} {w : Cond} (h : mj_wi i = w) : w ∈ mj_tb := h ▸ mj_wi_in i
theorem mj_sw_e {z : Int} {k : Nat → Prop} : ∀ (ts : List Nat) (v : Int), mj_sw z k v ts → ∀ (i t : Nat), ts[i]? = some t → z = v + i → k t
  | [], _, _, i, t, h, _ => by simp at h
  | t' :: ts, v, h, 0, t, hi, hz => by
    obtain rfl : t' = t := by simpa using hi
    exact h.1 (by rw [hz]; simp)
  | t' :: ts, v, h, i + 1, t, hi, hz => mj_sw_e ts (v + 1) h.2 i t (by simpa using hi) (by rw [hz]; push_cast; omega)
theorem mj_vw {ci : Nat} (h : ci < 12) : vwCl[ci]? = some (vwCl.getD ci (RX0, TX0, 0)) := by
  rw [List.getD_eq_getElem?_getD]
  cases hc : vwCl[ci]? with
  | none => exact absurd (List.getElem?_eq_none_iff.mp hc) (by show ¬ 12 ≤ ci; omega)
  | some x => rfl
def mj_tc (ty : FieldType) : Bool := match ty with
  | .int => true
  | .boolean => true
  | .long => true
  | .object _ => true
  | .array _ => true
  | _ => false
theorem mj_tc_nf {ty : FieldType} (h : mj_tc ty = true) : ty ≠ .float ∧ ty ≠ .double := by
  constructor <;> (intro q; rw [q] at h; cases h)
theorem mj_tc0 : ∀ k, k < 19 → mj_tc (mj_ty 0 k) = true := by decide +kernel
theorem mj_tc1 : ∀ k, k < 4 → mj_tc (mj_ty 1 k) = true := by decide +kernel
theorem mj_tc2 : ∀ k, k < 8 → mj_tc (mj_ty 2 k) = true := by decide +kernel
theorem mj_tc3 : ∀ k, k < 15 → mj_tc (mj_ty 3 k) = true := by decide +kernel
theorem mj_tc4 : ∀ k, k < 4 → mj_tc (mj_ty 4 k) = true := by decide +kernel
theorem mj_tc5 : ∀ k, k < 6 → mj_tc (mj_ty 5 k) = true := by decide +kernel
theorem mj_tc6 : ∀ k, k < 4 → mj_tc (mj_ty 6 k) = true := by decide +kernel
theorem mj_tc7 : ∀ k, k < 12 → mj_tc (mj_ty 7 k) = true := by decide +kernel
theorem mj_tc8 : ∀ k, k < 4 → mj_tc (mj_ty 8 k) = true := by decide +kernel
theorem mj_tc9 : ∀ k, k < 15 → mj_tc (mj_ty 9 k) = true := by decide +kernel
theorem mj_tc10 : ∀ k, k < 14 → mj_tc (mj_ty 10 k) = true := by decide +kernel
theorem mj_tc11 : ∀ k, k < 62 → mj_tc (mj_ty 11 k) = true := by decide +kernel
theorem mj_layA : ∀ (ci : Nat) (r : vw_C), vwCl[ci]? = some r → ∀ w ∈ u_ws r.1 r.2.1 r.2.2, w ∈ mj_tb
  | 0, r, hr => by cases hr; exact mj_lay0
  | 1, r, hr => by cases hr; exact mj_lay1
  | 2, r, hr => by cases hr; exact mj_lay2
  | 3, r, hr => by cases hr; exact mj_lay3
  | 4, r, hr => by cases hr; exact mj_lay4
  | 5, r, hr => by cases hr; exact mj_lay5
  | 6, r, hr => by cases hr; exact mj_lay6
  | 7, r, hr => by cases hr; exact mj_lay7
  | 8, r, hr => by cases hr; exact mj_lay8
  | 9, r, hr => by cases hr; exact mj_lay9
  | 10, r, hr => by cases hr; exact mj_lay10
  | 11, r, hr => by cases hr; exact mj_lay11
  | n + 12, r, hr => by simp [vwCl] at hr
theorem mj_tyA : ∀ (ci : Nat) (r : vw_C), vwCl[ci]? = some r → ∀ k, k < r.2.2 → parseFieldDescriptor (r.2.1 k).2.2.1 = some (mj_ty ci k)
  | 0, r, hr => by cases hr; exact tyX0_ok
  | 1, r, hr => by cases hr; exact tyX1_ok
  | 2, r, hr => by cases hr; exact tyX2_ok
  | 3, r, hr => by cases hr; exact tyX3_ok
  | 4, r, hr => by cases hr; exact tyX4_ok
  | 5, r, hr => by cases hr; exact tyX5_ok
  | 6, r, hr => by cases hr; exact tyX6_ok
  | 7, r, hr => by cases hr; exact tyX7_ok
  | 8, r, hr => by cases hr; exact tyX8_ok
  | 9, r, hr => by cases hr; exact tyX10_ok
  | 10, r, hr => by cases hr; exact tyX11_ok
  | 11, r, hr => by cases hr; exact tyX12_ok
  | n + 12, r, hr => by simp [vwCl] at hr
theorem mj_nmA : ∀ (ci : Nat) (r : vw_C), vwCl[ci]? = some r → ∀ x, x < r.2.2 → ∀ y, y < r.2.2 → x ≠ y → (r.2.1 x).2.1 ≠ (r.2.1 y).2.1
  | 0, r, hr => by cases hr; exact nmX0
  | 1, r, hr => by cases hr; exact nmX1
  | 2, r, hr => by cases hr; exact nmX2
  | 3, r, hr => by cases hr; exact nmX3
  | 4, r, hr => by cases hr; exact nmX4
  | 5, r, hr => by cases hr; exact nmX5
  | 6, r, hr => by cases hr; exact nmX6
  | 7, r, hr => by cases hr; exact nmX7
  | 8, r, hr => by cases hr; exact nmX8
  | 9, r, hr => by cases hr; exact nmX10
  | 10, r, hr => by cases hr; exact nmX11
  | 11, r, hr => by cases hr; exact nmX12
  | n + 12, r, hr => by simp [vwCl] at hr
theorem mj_tcA : ∀ (ci : Nat) (r : vw_C), vwCl[ci]? = some r → ∀ k, k < r.2.2 → mj_tc (mj_ty ci k) = true
  | 0, r, hr => by cases hr; exact mj_tc0
  | 1, r, hr => by cases hr; exact mj_tc1
  | 2, r, hr => by cases hr; exact mj_tc2
  | 3, r, hr => by cases hr; exact mj_tc3
  | 4, r, hr => by cases hr; exact mj_tc4
  | 5, r, hr => by cases hr; exact mj_tc5
  | 6, r, hr => by cases hr; exact mj_tc6
  | 7, r, hr => by cases hr; exact mj_tc7
  | 8, r, hr => by cases hr; exact mj_tc8
  | 9, r, hr => by cases hr; exact mj_tc9
  | 10, r, hr => by cases hr; exact mj_tc10
  | 11, r, hr => by cases hr; exact mj_tc11
  | n + 12, r, hr => by simp [vwCl] at hr
theorem mj_nar0 {ty : FieldType} (h : mj_tc ty = true) (hs : mj_fs ty = 0) {z : Int} (hz : ty = .boolean → z = 0 ∨ z = 1) : narrow ty (mj_val (.inl z)) = mj_val (.inl z) ∧ fits ty (mj_val (.inl z)) = true := by
  cases ty with
  | int => exact ⟨rfl, rfl⟩
  | boolean => rcases hz rfl with rfl | rfl <;> exact ⟨rfl, rfl⟩
  | long => cases hs
  | object _ => cases hs
  | array _ => cases hs
  | _ => cases h
theorem mj_nar1 {ty : FieldType} (h : mj_tc ty = true) (hs : mj_fs ty = 1) {z : Int64} : narrow ty (mj_val (.inr (.inl z))) = mj_val (.inr (.inl z)) ∧ fits ty (mj_val (.inr (.inl z))) = true := by
  cases ty with
  | long => exact ⟨rfl, rfl⟩
  | int => cases hs
  | boolean => cases hs
  | object _ => cases hs
  | array _ => cases hs
  | _ => cases h
theorem mj_nar2 {ty : FieldType} (h : mj_tc ty = true) (hs : mj_fs ty ≠ 0) (hs1 : mj_fs ty ≠ 1) {z : Option Nat} : narrow ty (mj_val (.inr (.inr z))) = mj_val (.inr (.inr z)) ∧ fits ty (mj_val (.inr (.inr z))) = true := by
  cases ty with
  | object _ => cases z <;> exact ⟨rfl, rfl⟩
  | array _ => cases z <;> exact ⟨rfl, rfl⟩
  | long => exact absurd rfl hs1
  | int => exact absurd rfl hs
  | boolean => exact absurd rfl hs
  | _ => cases h
theorem mj_fs_le (ty : FieldType) : mj_fs ty = 0 ∨ mj_fs ty = 1 ∨ mj_fs ty = 2 := by
  cases ty <;> simp [mj_fs]
/-- the contract that a method's run gives -/
def mj_Mt (l : Launch) (D : va_G) (dA : Nat → ClassId) (B : Nat) (q : mj_T) (d : Nat) (av : List mj_V) (G : mj_G) (M : mj_M) (Q : mj_P) : Prop :=
  Met l q.1 (.code q.1 q.2.1 q.2.2.1 q.2.2.2.1 :: mj_tb) (mj_rm d q.2.2.2.2.2.2) (mj_Pc D dA B av G M) (mj_Q D dA B Q) q.2.2.2.2.2.2.1 q.2.2.2.2.2.2.2 (fun q => B ≤ q)
section MJS
variable {p : Program} {l : Launch} {e : Env} {R : Room} {s : State} {m : MethodId} {args : Array Value} {below : List Frame} {meth : Method} {c : Code} {own : String} {cc : ByteArray} {ret : Option FieldType} {D : va_G} {dA : Nat → ClassId} {B nL mc ms : Nat} {Q : mj_P}
set_option maxHeartbeats 4000000 in
set_option maxRecDepth 100000 in
theorem mj_snd (X : mj_X p l e R s m args below meth c own cc ret D dA B nL mc ms Q) {T : Nat → mj_T} {C : mj_C} {full : List mj_E} {ini : Bool} {d : Nat} (hini : ini = true → meth.name = "<init>") (hR : d + 1 ≤ R.frames ∧ 100 * (d + 1) + 100 ≤ R.locals)
    (hw3 : Cond.arrayClass .int ∈ mj_tb) (ho2 : Cond.instanceMethod objectInit ∈ mj_tb) (ho3 : Cond.code objectInit ⟨#[0xb1]⟩ 1 none ∈ mj_tb)
    (hlw : (Cond.static Lib.Math.max.name ∈ mj_tb ∧ Cond.code Lib.Math.max.name Lib.Math.max.code 2 (some .int) ∈ mj_tb) ∧ (Cond.static Lib.Math.min.name ∈ mj_tb ∧ Cond.code Lib.Math.min.name Lib.Math.min.code 2 (some .int) ∈ mj_tb) ∧ (Cond.static Lib.Math.abs.name ∈ mj_tb ∧ Cond.code Lib.Math.abs.name Lib.Math.abs.code 1 (some .int) ∈ mj_tb) ∧ Cond.initialized "java/lang/Math" ∈ mj_tb ∧ Cond.native arraycopyName ∈ mj_tb ∧ Cond.static arraycopyName ∈ mj_tb ∧ Cond.initialized "java/lang/System" ∈ mj_tb)
    (hT : ∀ y, mj_cm (T y) = true) (hC : ∀ y av G M Q, C y av G M Q → mj_Mt l D dA B (T y) d av G M Q) (hck : ∀ i x, full[i]? = some x → mj_cb T own ret nL ini cc full i x = true) :
    ∀ (rest : List mj_E) (L : mj_L) (st : List mj_V) (G : mj_G) (M : mj_M) (cb sb : Nat), mj_x (fun y => (T y).2.2.2.2.2.2) C full Q (fun rest L st G M cb sb => ∀ i, rest = full.drop i → mj_J X (mj_pc full i) L st G M cb sb) 1 rest L st G M cb sb → ∀ i, rest = full.drop i → mj_J X (mj_pc full i) L st G M cb sb := by
    intro rest0 L st G M cb sb h i hd0
    have ih : ∀ (i : Nat) (L : mj_L) (st : List mj_V) (G : mj_G) (M : mj_M) (cb sb : Nat), mj_x (fun y => (T y).2.2.2.2.2.2) C full Q (fun rest L st G M cb sb => ∀ i, rest = full.drop i → mj_J X (mj_pc full i) L st G M cb sb) 0 (full.drop i) L st G M cb sb → mj_J X (mj_pc full i) L st G M cb sb := fun i L st G M cb sb h => h i rfl
    subst hd0
    cases hd : full.drop i with
    | nil => rw [hd] at h; exact h.elim
    | cons x rest =>
      rw [hd] at h
      have hx : full[i]? = some x := by
        have h1 : (full.drop i)[0]? = some x := by rw [hd]; rfl
        rw [List.getElem?_drop] at h1
        exact h1
      have hrest : rest = full.drop (i + 1) := by
        have h1 : (full.drop i).drop 1 = rest := by rw [hd]; rfl
        rw [List.drop_drop] at h1
        rw [← h1, Nat.add_comm]
      subst hrest
      have hpc : mj_pc full i = x.2.1 := by unfold mj_pc; rw [hx]
      rw [hpc]
      have hc0 := hck i x hx
      obtain ⟨ins, pc, aux, imm⟩ := x
      simp only [mj_cb, Bool.and_eq_true, Bool.or_eq_true, decide_eq_true_eq] at hc0
      obtain ⟨⟨hdec, hnx⟩, hcx⟩ := hc0
      dsimp only at hdec hnx hcx h ⊢
      cases ins
      case iload_n k =>
        have h : mj_ldi L k.val (fun v => mj_x (fun y => (T y).2.2.2.2.2.2) C full Q (fun rest L st G M cb sb => ∀ i, rest = full.drop i → mj_J X (mj_pc full i) L st G M cb sb) 0 (full.drop (i + 1)) L (v :: st) G M cb sb) := h
        obtain ⟨z, h1, h2⟩ := mj_ldi_e h
        have hn := hnx.resolve_left Bool.false_ne_true
        have g := ih (i + 1) _ _ _ _ _ _ h2
        rw [hn] at g
        exact mj_o_iload_n X hdec h1 g
      case iload k =>
        have h : mj_ldi L k (fun v => mj_x (fun y => (T y).2.2.2.2.2.2) C full Q (fun rest L st G M cb sb => ∀ i, rest = full.drop i → mj_J X (mj_pc full i) L st G M cb sb) 0 (full.drop (i + 1)) L (v :: st) G M cb sb) := h
        obtain ⟨z, h1, h2⟩ := mj_ldi_e h
        have hn := hnx.resolve_left Bool.false_ne_true
        have g := ih (i + 1) _ _ _ _ _ _ h2
        rw [hn] at g
        exact mj_o_iload X hdec h1 g
      case lload_n k =>
        have h : mj_ldl L k.val (fun v => mj_x (fun y => (T y).2.2.2.2.2.2) C full Q (fun rest L st G M cb sb => ∀ i, rest = full.drop i → mj_J X (mj_pc full i) L st G M cb sb) 0 (full.drop (i + 1)) L (v :: st) G M cb sb) := h
        obtain ⟨z, h1, h2⟩ := mj_ldl_e h
        have hn := hnx.resolve_left Bool.false_ne_true
        have g := ih (i + 1) _ _ _ _ _ _ h2
        rw [hn] at g
        exact mj_o_lload_n X hdec h1 g
      case lload k =>
        have h : mj_ldl L k (fun v => mj_x (fun y => (T y).2.2.2.2.2.2) C full Q (fun rest L st G M cb sb => ∀ i, rest = full.drop i → mj_J X (mj_pc full i) L st G M cb sb) 0 (full.drop (i + 1)) L (v :: st) G M cb sb) := h
        obtain ⟨z, h1, h2⟩ := mj_ldl_e h
        have hn := hnx.resolve_left Bool.false_ne_true
        have g := ih (i + 1) _ _ _ _ _ _ h2
        rw [hn] at g
        exact mj_o_lload X hdec h1 g
      case aload_n k =>
        have h : mj_lda L k.val (fun v => mj_x (fun y => (T y).2.2.2.2.2.2) C full Q (fun rest L st G M cb sb => ∀ i, rest = full.drop i → mj_J X (mj_pc full i) L st G M cb sb) 0 (full.drop (i + 1)) L (v :: st) G M cb sb) := h
        obtain ⟨z, h1, h2⟩ := mj_lda_e h
        have hn := hnx.resolve_left Bool.false_ne_true
        have g := ih (i + 1) _ _ _ _ _ _ h2
        rw [hn] at g
        exact mj_o_aload_n X hdec h1 g
      case aload k =>
        have h : mj_lda L k (fun v => mj_x (fun y => (T y).2.2.2.2.2.2) C full Q (fun rest L st G M cb sb => ∀ i, rest = full.drop i → mj_J X (mj_pc full i) L st G M cb sb) 0 (full.drop (i + 1)) L (v :: st) G M cb sb) := h
        obtain ⟨z, h1, h2⟩ := mj_lda_e h
        have hn := hnx.resolve_left Bool.false_ne_true
        have g := ih (i + 1) _ _ _ _ _ _ h2
        rw [hn] at g
        exact mj_o_aload X hdec h1 g
      case istore_n k =>
        have h : mj_i1 st (fun z st => mj_x (fun y => (T y).2.2.2.2.2.2) C full Q (fun rest L st G M cb sb => ∀ i, rest = full.drop i → mj_J X (mj_pc full i) L st G M cb sb) 0 (full.drop (i + 1)) (mj_s1 L k.val (.inl z)) st G M cb sb) := h
        obtain ⟨z, st, rfl, h2⟩ := mj_i1_e h
        have hn := hnx.resolve_left Bool.false_ne_true
        have g := ih (i + 1) _ _ _ _ _ _ h2
        rw [hn] at g
        exact mj_o_istore_n X hdec (of_decide_eq_true hcx) g
      case istore k =>
        have h : mj_i1 st (fun z st => mj_x (fun y => (T y).2.2.2.2.2.2) C full Q (fun rest L st G M cb sb => ∀ i, rest = full.drop i → mj_J X (mj_pc full i) L st G M cb sb) 0 (full.drop (i + 1)) (mj_s1 L k (.inl z)) st G M cb sb) := h
        obtain ⟨z, st, rfl, h2⟩ := mj_i1_e h
        have hn := hnx.resolve_left Bool.false_ne_true
        have g := ih (i + 1) _ _ _ _ _ _ h2
        rw [hn] at g
        exact mj_o_istore X hdec (of_decide_eq_true hcx) g
      case lstore_n k =>
        have h : mj_l1 st (fun z st => mj_x (fun y => (T y).2.2.2.2.2.2) C full Q (fun rest L st G M cb sb => ∀ i, rest = full.drop i → mj_J X (mj_pc full i) L st G M cb sb) 0 (full.drop (i + 1)) (mj_s2 L k.val (.inr (.inl z))) st G M cb sb) := h
        obtain ⟨z, st, rfl, h2⟩ := mj_l1_e h
        have hn := hnx.resolve_left Bool.false_ne_true
        have g := ih (i + 1) _ _ _ _ _ _ h2
        rw [hn] at g
        exact mj_o_lstore_n X hdec (of_decide_eq_true hcx) g
      case lstore k =>
        have h : mj_l1 st (fun z st => mj_x (fun y => (T y).2.2.2.2.2.2) C full Q (fun rest L st G M cb sb => ∀ i, rest = full.drop i → mj_J X (mj_pc full i) L st G M cb sb) 0 (full.drop (i + 1)) (mj_s2 L k (.inr (.inl z))) st G M cb sb) := h
        obtain ⟨z, st, rfl, h2⟩ := mj_l1_e h
        have hn := hnx.resolve_left Bool.false_ne_true
        have g := ih (i + 1) _ _ _ _ _ _ h2
        rw [hn] at g
        exact mj_o_lstore X hdec (of_decide_eq_true hcx) g
      case astore_n k =>
        have h : mj_r1 st (fun z st => mj_x (fun y => (T y).2.2.2.2.2.2) C full Q (fun rest L st G M cb sb => ∀ i, rest = full.drop i → mj_J X (mj_pc full i) L st G M cb sb) 0 (full.drop (i + 1)) (mj_s1 L k.val (.inr (.inr z))) st G M cb sb) := h
        obtain ⟨z, st, rfl, h2⟩ := mj_r1_e h
        have hn := hnx.resolve_left Bool.false_ne_true
        have g := ih (i + 1) _ _ _ _ _ _ h2
        rw [hn] at g
        exact mj_o_astore_n X hdec (of_decide_eq_true hcx) g
      case astore k =>
        have h : mj_r1 st (fun z st => mj_x (fun y => (T y).2.2.2.2.2.2) C full Q (fun rest L st G M cb sb => ∀ i, rest = full.drop i → mj_J X (mj_pc full i) L st G M cb sb) 0 (full.drop (i + 1)) (mj_s1 L k (.inr (.inr z))) st G M cb sb) := h
        obtain ⟨z, st, rfl, h2⟩ := mj_r1_e h
        have hn := hnx.resolve_left Bool.false_ne_true
        have g := ih (i + 1) _ _ _ _ _ _ h2
        rw [hn] at g
        exact mj_o_astore X hdec (of_decide_eq_true hcx) g
      case iinc k c =>
        have h : mj_ldi L k (fun v => mj_i1 [v] fun z _ => mj_in (z + c) ∧ mj_x (fun y => (T y).2.2.2.2.2.2) C full Q (fun rest L st G M cb sb => ∀ i, rest = full.drop i → mj_J X (mj_pc full i) L st G M cb sb) 0 (full.drop (i + 1)) (mj_s1 L k (.inl (z + c))) st G M cb sb) := h
        obtain ⟨z, h1, h2⟩ := mj_ldi_e h
        obtain ⟨h3, h4⟩ : mj_in (z + c) ∧ _ := h2
        have hn := hnx.resolve_left Bool.false_ne_true
        have g := ih (i + 1) _ _ _ _ _ _ h4
        rw [hn] at g
        exact mj_o_iinc X hdec h1 (of_decide_eq_true hcx) h3 g
      case iconst z =>
        have h : mj_x (fun y => (T y).2.2.2.2.2.2) C full Q (fun rest L st G M cb sb => ∀ i, rest = full.drop i → mj_J X (mj_pc full i) L st G M cb sb) 0 (full.drop (i + 1)) L (.inl z :: st) G M cb sb := h
        have hn := hnx.resolve_left Bool.false_ne_true
        have g := ih (i + 1) _ _ _ _ _ _ h
        rw [hn] at g
        exact mj_o_iconst X hdec (show -2147483648 ≤ z ∧ z < 2147483648 from of_decide_eq_true hcx) g
      case bipush z =>
        have h : mj_x (fun y => (T y).2.2.2.2.2.2) C full Q (fun rest L st G M cb sb => ∀ i, rest = full.drop i → mj_J X (mj_pc full i) L st G M cb sb) 0 (full.drop (i + 1)) L (.inl z :: st) G M cb sb := h
        have hn := hnx.resolve_left Bool.false_ne_true
        have g := ih (i + 1) _ _ _ _ _ _ h
        rw [hn] at g
        simp only [mj_cx, Bool.and_eq_true, decide_eq_true_eq] at hcx
        exact mj_o_bipush X hdec hcx.1 hcx.2 g
      case sipush z =>
        have h : mj_x (fun y => (T y).2.2.2.2.2.2) C full Q (fun rest L st G M cb sb => ∀ i, rest = full.drop i → mj_J X (mj_pc full i) L st G M cb sb) 0 (full.drop (i + 1)) L (.inl z :: st) G M cb sb := h
        have hn := hnx.resolve_left Bool.false_ne_true
        have g := ih (i + 1) _ _ _ _ _ _ h
        rw [hn] at g
        simp only [mj_cx, Bool.and_eq_true, decide_eq_true_eq] at hcx
        exact mj_o_sipush X hdec hcx.1 hcx.2 g
      case ldc k =>
        have h : mj_x (fun y => (T y).2.2.2.2.2.2) C full Q (fun rest L st G M cb sb => ∀ i, rest = full.drop i → mj_J X (mj_pc full i) L st G M cb sb) 0 (full.drop (i + 1)) L (.inl imm :: st) G M cb sb := h
        have hn := hnx.resolve_left Bool.false_ne_true
        have g := ih (i + 1) _ _ _ _ _ _ h
        rw [hn] at g
        simp only [mj_cx, Bool.and_eq_true, decide_eq_true_eq] at hcx
        exact mj_o_ldc X hdec hcx.1 (mj_win hcx.2) g
      case ldc2_w k =>
        have h : mj_x (fun y => (T y).2.2.2.2.2.2) C full Q (fun rest L st G M cb sb => ∀ i, rest = full.drop i → mj_J X (mj_pc full i) L st G M cb sb) 0 (full.drop (i + 1)) L (.inr (.inl (Int64.ofInt imm)) :: st) G M cb sb := h
        have hn := hnx.resolve_left Bool.false_ne_true
        have g := ih (i + 1) _ _ _ _ _ _ h
        rw [hn] at g
        exact mj_o_ldc2 X hdec (mj_win (of_decide_eq_true hcx)) g
      case lconst k =>
        have h : mj_x (fun y => (T y).2.2.2.2.2.2) C full Q (fun rest L st G M cb sb => ∀ i, rest = full.drop i → mj_J X (mj_pc full i) L st G M cb sb) 0 (full.drop (i + 1)) L (.inr (.inl (Int64.ofNat k.val)) :: st) G M cb sb := h
        have hn := hnx.resolve_left Bool.false_ne_true
        have g := ih (i + 1) _ _ _ _ _ _ h
        rw [hn] at g
        exact mj_o_lconst X hdec g
      case aconst_null =>
        have h : mj_x (fun y => (T y).2.2.2.2.2.2) C full Q (fun rest L st G M cb sb => ∀ i, rest = full.drop i → mj_J X (mj_pc full i) L st G M cb sb) 0 (full.drop (i + 1)) L (.inr (.inr none) :: st) G M cb sb := h
        have hn := hnx.resolve_left Bool.false_ne_true
        have g := ih (i + 1) _ _ _ _ _ _ h
        rw [hn] at g
        exact mj_o_null X hdec g
      case iadd =>
        have h : mj_bin (fun x y => x + y) st (fun x y => x + y) (fun st => mj_x (fun y => (T y).2.2.2.2.2.2) C full Q (fun rest L st G M cb sb => ∀ i, rest = full.drop i → mj_J X (mj_pc full i) L st G M cb sb) 0 (full.drop (i + 1)) L st G M cb sb) := h
        obtain ⟨y, st, rfl, u1⟩ := mj_i1_e h
        obtain ⟨x, st, rfl, u2⟩ := mj_i1_e u1
        have hn := hnx.resolve_left Bool.false_ne_true
        refine mj_o_iadd X hdec ?_
        rcases u2 with ⟨h1, h2⟩ | h2
        · have g := ih (i + 1) _ _ _ _ _ _ h2
          rw [hn] at g
          exact Or.inl ⟨h1, g⟩
        · refine Or.inr (fun z hz hz2 => ?_)
          have g := ih (i + 1) _ _ _ _ _ _ (h2 z hz hz2)
          rw [hn] at g
          exact g
      case isub =>
        have h : mj_bin (fun x y => x - y) st (fun x y => x - y) (fun st => mj_x (fun y => (T y).2.2.2.2.2.2) C full Q (fun rest L st G M cb sb => ∀ i, rest = full.drop i → mj_J X (mj_pc full i) L st G M cb sb) 0 (full.drop (i + 1)) L st G M cb sb) := h
        obtain ⟨y, st, rfl, u1⟩ := mj_i1_e h
        obtain ⟨x, st, rfl, u2⟩ := mj_i1_e u1
        have hn := hnx.resolve_left Bool.false_ne_true
        refine mj_o_isub X hdec ?_
        rcases u2 with ⟨h1, h2⟩ | h2
        · have g := ih (i + 1) _ _ _ _ _ _ h2
          rw [hn] at g
          exact Or.inl ⟨h1, g⟩
        · refine Or.inr (fun z hz hz2 => ?_)
          have g := ih (i + 1) _ _ _ _ _ _ (h2 z hz hz2)
          rw [hn] at g
          exact g
      case imul =>
        have h : mj_bin (fun x y => x * y) st (fun x y => x * y) (fun st => mj_x (fun y => (T y).2.2.2.2.2.2) C full Q (fun rest L st G M cb sb => ∀ i, rest = full.drop i → mj_J X (mj_pc full i) L st G M cb sb) 0 (full.drop (i + 1)) L st G M cb sb) := h
        obtain ⟨y, st, rfl, u1⟩ := mj_i1_e h
        obtain ⟨x, st, rfl, u2⟩ := mj_i1_e u1
        have hn := hnx.resolve_left Bool.false_ne_true
        refine mj_o_imul X hdec ?_
        rcases u2 with ⟨h1, h2⟩ | h2
        · have g := ih (i + 1) _ _ _ _ _ _ h2
          rw [hn] at g
          exact Or.inl ⟨h1, g⟩
        · refine Or.inr (fun z hz hz2 => ?_)
          have g := ih (i + 1) _ _ _ _ _ _ (h2 z hz hz2)
          rw [hn] at g
          exact g
      case iand =>
        have h : mj_op st (fun x y => x &&& y) (fun st => mj_x (fun y => (T y).2.2.2.2.2.2) C full Q (fun rest L st G M cb sb => ∀ i, rest = full.drop i → mj_J X (mj_pc full i) L st G M cb sb) 0 (full.drop (i + 1)) L st G M cb sb) := h
        obtain ⟨y, st, rfl, u1⟩ := mj_i1_e h
        obtain ⟨x, st, rfl, u2⟩ := mj_i1_e u1
        have hn := hnx.resolve_left Bool.false_ne_true
        refine mj_o_iand X hdec (fun z hz hz2 => ?_)
        have g := ih (i + 1) _ _ _ _ _ _ (u2 z hz hz2)
        rw [hn] at g
        exact g
      case ior =>
        have h : mj_op st (fun x y => x ||| y) (fun st => mj_x (fun y => (T y).2.2.2.2.2.2) C full Q (fun rest L st G M cb sb => ∀ i, rest = full.drop i → mj_J X (mj_pc full i) L st G M cb sb) 0 (full.drop (i + 1)) L st G M cb sb) := h
        obtain ⟨y, st, rfl, u1⟩ := mj_i1_e h
        obtain ⟨x, st, rfl, u2⟩ := mj_i1_e u1
        have hn := hnx.resolve_left Bool.false_ne_true
        refine mj_o_ior X hdec (fun z hz hz2 => ?_)
        have g := ih (i + 1) _ _ _ _ _ _ (u2 z hz hz2)
        rw [hn] at g
        exact g
      case ishl =>
        have h : mj_op st (fun x y => x <<< (y &&& 31)) (fun st => mj_x (fun y => (T y).2.2.2.2.2.2) C full Q (fun rest L st G M cb sb => ∀ i, rest = full.drop i → mj_J X (mj_pc full i) L st G M cb sb) 0 (full.drop (i + 1)) L st G M cb sb) := h
        obtain ⟨y, st, rfl, u1⟩ := mj_i1_e h
        obtain ⟨x, st, rfl, u2⟩ := mj_i1_e u1
        have hn := hnx.resolve_left Bool.false_ne_true
        refine mj_o_ishl X hdec (fun z hz hz2 => ?_)
        have g := ih (i + 1) _ _ _ _ _ _ (u2 z hz hz2)
        rw [hn] at g
        exact g
      case ishr =>
        have h : mj_op st (fun x y => x >>> (y &&& 31)) (fun st => mj_x (fun y => (T y).2.2.2.2.2.2) C full Q (fun rest L st G M cb sb => ∀ i, rest = full.drop i → mj_J X (mj_pc full i) L st G M cb sb) 0 (full.drop (i + 1)) L st G M cb sb) := h
        obtain ⟨y, st, rfl, u1⟩ := mj_i1_e h
        obtain ⟨x, st, rfl, u2⟩ := mj_i1_e u1
        have hn := hnx.resolve_left Bool.false_ne_true
        refine mj_o_ishr X hdec (fun z hz hz2 => ?_)
        have g := ih (i + 1) _ _ _ _ _ _ (u2 z hz hz2)
        rw [hn] at g
        exact g
      case iushr =>
        have h : mj_op st (fun x y => (x.toUInt32 >>> (y.toUInt32 &&& Int32.toUInt32 31)).toInt32) (fun st => mj_x (fun y => (T y).2.2.2.2.2.2) C full Q (fun rest L st G M cb sb => ∀ i, rest = full.drop i → mj_J X (mj_pc full i) L st G M cb sb) 0 (full.drop (i + 1)) L st G M cb sb) := h
        obtain ⟨y, st, rfl, u1⟩ := mj_i1_e h
        obtain ⟨x, st, rfl, u2⟩ := mj_i1_e u1
        have hn := hnx.resolve_left Bool.false_ne_true
        refine mj_o_iushr X hdec (fun z hz hz2 => ?_)
        have g := ih (i + 1) _ _ _ _ _ _ (u2 z hz hz2)
        rw [hn] at g
        exact g
      case ineg =>
        have h : mj_un st (fun x => -x) (fun st => mj_x (fun y => (T y).2.2.2.2.2.2) C full Q (fun rest L st G M cb sb => ∀ i, rest = full.drop i → mj_J X (mj_pc full i) L st G M cb sb) 0 (full.drop (i + 1)) L st G M cb sb) := h
        obtain ⟨x, st, rfl, u1⟩ := mj_i1_e h
        have hn := hnx.resolve_left Bool.false_ne_true
        refine mj_o_ineg X hdec (fun z hz hz2 => ?_)
        have g := ih (i + 1) _ _ _ _ _ _ (u1 z hz hz2)
        rw [hn] at g
        exact g
      case i2b =>
        have h : mj_un st (fun x => x.toInt8.toInt32) (fun st => mj_x (fun y => (T y).2.2.2.2.2.2) C full Q (fun rest L st G M cb sb => ∀ i, rest = full.drop i → mj_J X (mj_pc full i) L st G M cb sb) 0 (full.drop (i + 1)) L st G M cb sb) := h
        obtain ⟨x, st, rfl, u1⟩ := mj_i1_e h
        have hn := hnx.resolve_left Bool.false_ne_true
        refine mj_o_i2b X hdec (fun z hz hz2 => ?_)
        have g := ih (i + 1) _ _ _ _ _ _ (u1 z hz hz2)
        rw [hn] at g
        exact g
      case dup =>
        have h : mj_c1 st (fun v st => mj_x (fun y => (T y).2.2.2.2.2.2) C full Q (fun rest L st G M cb sb => ∀ i, rest = full.drop i → mj_J X (mj_pc full i) L st G M cb sb) 0 (full.drop (i + 1)) L (v :: v :: st) G M cb sb) := h
        obtain ⟨v, st, rfl, h1, h2⟩ := mj_c1_e h
        have hn := hnx.resolve_left Bool.false_ne_true
        have g := ih (i + 1) _ _ _ _ _ _ h2
        rw [hn] at g
        exact mj_o_dup X hdec h1 g
      case dup2 =>
        have h : mj_c1 st (fun v st => mj_c1 st fun w st => mj_x (fun y => (T y).2.2.2.2.2.2) C full Q (fun rest L st G M cb sb => ∀ i, rest = full.drop i → mj_J X (mj_pc full i) L st G M cb sb) 0 (full.drop (i + 1)) L (v :: w :: v :: w :: st) G M cb sb) := h
        obtain ⟨v, st, rfl, h1, u1⟩ := mj_c1_e h
        obtain ⟨w, st, rfl, h2, h3⟩ := mj_c1_e u1
        have hn := hnx.resolve_left Bool.false_ne_true
        have g := ih (i + 1) _ _ _ _ _ _ h3
        rw [hn] at g
        exact mj_o_dup2 X hdec h1 h2 g
      case pop =>
        have h : mj_c1 st (fun _ st => mj_x (fun y => (T y).2.2.2.2.2.2) C full Q (fun rest L st G M cb sb => ∀ i, rest = full.drop i → mj_J X (mj_pc full i) L st G M cb sb) 0 (full.drop (i + 1)) L st G M cb sb) := h
        obtain ⟨v, st, rfl, h1, h2⟩ := mj_c1_e h
        have hn := hnx.resolve_left Bool.false_ne_true
        have g := ih (i + 1) _ _ _ _ _ _ h2
        rw [hn] at g
        exact mj_o_pop X hdec h1 g
      case ifCond cd off =>
        have h : mj_i1 st (fun z st => mj_br (mj_cc cd z 0) (mj_x (fun y => (T y).2.2.2.2.2.2) C full Q (fun rest L st G M cb sb => ∀ i, rest = full.drop i → mj_J X (mj_pc full i) L st G M cb sb) 0 (full.drop (mj_hd aux)) L st G M cb sb) (mj_x (fun y => (T y).2.2.2.2.2.2) C full Q (fun rest L st G M cb sb => ∀ i, rest = full.drop i → mj_J X (mj_pc full i) L st G M cb sb) 0 (full.drop (i + 1)) L st G M cb sb)) := h
        obtain ⟨z, st, rfl, h1, h2⟩ := mj_i1_e h
        have hn := hnx.resolve_left Bool.false_ne_true
        have ht := of_decide_eq_true hcx
        have g1 := fun q => ih (mj_hd aux) _ _ _ _ _ _ (h1 q)
        have g2 := fun q => ih (i + 1) _ _ _ _ _ _ (h2 q)
        rw [hn] at g2
        cases cd
        · exact mj_o_if_eq X hdec ht g1 g2
        · exact mj_o_if_ne X hdec ht g1 g2
        · exact mj_o_if_lt X hdec ht g1 g2
        · exact mj_o_if_ge X hdec ht g1 g2
        · exact mj_o_if_gt X hdec ht g1 g2
        · exact mj_o_if_le X hdec ht g1 g2
      case if_icmp cd off =>
        have h : mj_i1 st (fun y st => mj_i1 st fun z st => mj_br (mj_cc cd z y) (mj_x (fun y => (T y).2.2.2.2.2.2) C full Q (fun rest L st G M cb sb => ∀ i, rest = full.drop i → mj_J X (mj_pc full i) L st G M cb sb) 0 (full.drop (mj_hd aux)) L st G M cb sb) (mj_x (fun y => (T y).2.2.2.2.2.2) C full Q (fun rest L st G M cb sb => ∀ i, rest = full.drop i → mj_J X (mj_pc full i) L st G M cb sb) 0 (full.drop (i + 1)) L st G M cb sb)) := h
        obtain ⟨y, st, rfl, u1⟩ := mj_i1_e h
        obtain ⟨z, st, rfl, h1, h2⟩ := mj_i1_e u1
        have hn := hnx.resolve_left Bool.false_ne_true
        have ht := of_decide_eq_true hcx
        have g1 := fun q => ih (mj_hd aux) _ _ _ _ _ _ (h1 q)
        have g2 := fun q => ih (i + 1) _ _ _ _ _ _ (h2 q)
        rw [hn] at g2
        cases cd
        · exact mj_o_icmp_eq X hdec ht g1 g2
        · exact mj_o_icmp_ne X hdec ht g1 g2
        · exact mj_o_icmp_lt X hdec ht g1 g2
        · exact mj_o_icmp_ge X hdec ht g1 g2
        · exact mj_o_icmp_gt X hdec ht g1 g2
        · exact mj_o_icmp_le X hdec ht g1 g2
      case ifnull off =>
        have h : mj_r1 st (fun z st => mj_br (z = none) (mj_x (fun y => (T y).2.2.2.2.2.2) C full Q (fun rest L st G M cb sb => ∀ i, rest = full.drop i → mj_J X (mj_pc full i) L st G M cb sb) 0 (full.drop (mj_hd aux)) L st G M cb sb) (mj_x (fun y => (T y).2.2.2.2.2.2) C full Q (fun rest L st G M cb sb => ∀ i, rest = full.drop i → mj_J X (mj_pc full i) L st G M cb sb) 0 (full.drop (i + 1)) L st G M cb sb)) := h
        obtain ⟨z, st, rfl, h1, h2⟩ := mj_r1_e h
        have hn := hnx.resolve_left Bool.false_ne_true
        have ht := of_decide_eq_true hcx
        have g1 := fun q => ih (mj_hd aux) _ _ _ _ _ _ (h1 q)
        have g2 := fun q => ih (i + 1) _ _ _ _ _ _ (h2 q)
        rw [hn] at g2
        exact mj_o_ifnull X hdec ht g1 g2
      case ifnonnull off =>
        have h : mj_r1 st (fun z st => mj_br (z ≠ none) (mj_x (fun y => (T y).2.2.2.2.2.2) C full Q (fun rest L st G M cb sb => ∀ i, rest = full.drop i → mj_J X (mj_pc full i) L st G M cb sb) 0 (full.drop (mj_hd aux)) L st G M cb sb) (mj_x (fun y => (T y).2.2.2.2.2.2) C full Q (fun rest L st G M cb sb => ∀ i, rest = full.drop i → mj_J X (mj_pc full i) L st G M cb sb) 0 (full.drop (i + 1)) L st G M cb sb)) := h
        obtain ⟨z, st, rfl, h1, h2⟩ := mj_r1_e h
        have hn := hnx.resolve_left Bool.false_ne_true
        have ht := of_decide_eq_true hcx
        have g1 := fun q => ih (mj_hd aux) _ _ _ _ _ _ (h1 q)
        have g2 := fun q => ih (i + 1) _ _ _ _ _ _ (h2 q)
        rw [hn] at g2
        exact mj_o_ifnonnull X hdec ht g1 g2
      case goto off =>
        have h : mj_x (fun y => (T y).2.2.2.2.2.2) C full Q (fun rest L st G M cb sb => ∀ i, rest = full.drop i → mj_J X (mj_pc full i) L st G M cb sb) 0 (full.drop (mj_hd aux)) L st G M cb sb := h
        exact mj_o_goto X hdec (of_decide_eq_true hcx) (ih (mj_hd aux) _ _ _ _ _ _ h)
      case getfield k =>
        have h0 : aux ≠ [] ∧ mj_get (mj_hd aux) (mj_h1 aux) st G M (fun st => mj_x (fun y => (T y).2.2.2.2.2.2) C full Q (fun rest L st G M cb sb => ∀ i, rest = full.drop i → mj_J X (mj_pc full i) L st G M cb sb) 0 (full.drop (i + 1)) L st G M cb sb) := h
        have h := h0.2
        obtain ⟨a, st, rfl, t, nn, hG, ht, u1⟩ := mj_a1_e h
        have hn := hnx.resolve_left Bool.false_ne_true
        have hcx := mj_em h0.1 hcx
        simp only [Bool.and_eq_true, decide_eq_true_eq] at hcx
        obtain ⟨⟨c1, c2⟩, c3⟩ := hcx
        have hr := mj_vw c1
        have hs : mj_so (mj_hd aux) (mj_h1 aux) = mj_fs (mj_ty (mj_hd aux) (mj_h1 aux)) := rfl
        rcases mj_fs_le (mj_ty (mj_hd aux) (mj_h1 aux)) with q | q | q
        · rw [hs, q] at u1
          have g := ih (i + 1) _ _ _ _ _ _ u1
          rw [hn] at g
          exact mj_o_get X (v := .inl (M.1 a (mj_h1 aux))) hdec hr c2 (mj_layA _ _ hr) (mj_win c3) hG ht (fun hM => ⟨by rw [hs, q]; rfl, hM _ _⟩) g
        · rw [hs, q] at u1
          have g := ih (i + 1) _ _ _ _ _ _ u1
          rw [hn] at g
          exact mj_o_get X (v := .inr (.inl (M.2.1 a (mj_h1 aux)))) hdec hr c2 (mj_layA _ _ hr) (mj_win c3) hG ht (fun hM => ⟨by rw [hs, q]; rfl, trivial⟩) g
        · rw [hs, q] at u1
          obtain ⟨h1, h2⟩ := u1
          cases hm : M.2.2 a (mj_h1 aux) with
          | none =>
            have g := ih (i + 1) _ _ _ _ _ _ (h2 hm)
            rw [hn] at g
            exact mj_o_get X (v := .inr (.inr none)) hdec hr c2 (mj_layA _ _ hr) (mj_win c3) hG ht (fun hM => ⟨by rw [hs, q]; show _ = va_rf (M.2.2 a (mj_h1 aux)); rw [hm]; rfl, trivial⟩) g
          | some b =>
            have g := ih (i + 1) _ _ _ _ _ _ (h1 b hm)
            rw [hn] at g
            exact mj_o_get X (v := .inr (.inr (some b))) hdec hr c2 (mj_layA _ _ hr) (mj_win c3) hG ht (fun hM => ⟨by rw [hs, q]; show _ = va_rf (M.2.2 a (mj_h1 aux)); rw [hm]; rfl, trivial⟩) g
      case putfield k =>
        have h0 : aux ≠ [] ∧ mj_put (mj_hd aux) (mj_h1 aux) st G M (fun st M => mj_x (fun y => (T y).2.2.2.2.2.2) C full Q (fun rest L st G M cb sb => ∀ i, rest = full.drop i → mj_J X (mj_pc full i) L st G M cb sb) 0 (full.drop (i + 1)) L st G M cb sb) := h
        have h := h0.2
        have hcx := mj_em h0.1 hcx
        have hn := hnx.resolve_left Bool.false_ne_true
        simp only [Bool.and_eq_true, Bool.or_eq_true, Bool.not_eq_true', decide_eq_true_eq] at hcx
        obtain ⟨⟨⟨c1, c2⟩, c3⟩, c4⟩ := hcx
        have hr := mj_vw c1
        have hs : mj_so (mj_hd aux) (mj_h1 aux) = mj_fs (mj_ty (mj_hd aux) (mj_h1 aux)) := rfl
        have htc := mj_tcA _ _ hr _ c2
        have c5 := c4.imp id (fun q => (⟨hini q.1, q.2⟩ : meth.name = "<init>" ∧ _))
        unfold mj_put at h
        rcases mj_fs_le (mj_ty (mj_hd aux) (mj_h1 aux)) with q | q | q
        · rw [hs, q] at h
          obtain ⟨z, st, rfl, u1⟩ := mj_i1_e h
          obtain ⟨a, st, rfl, t, nn, hG, ht, h9, hb, u2⟩ := mj_a1_e u1
          have g := ih (i + 1) _ _ _ _ _ _ u2
          rw [hn] at g
          obtain ⟨n1, n2⟩ := mj_nar0 htc q hb
          exact mj_o_put X hdec hr c2 (mj_layA _ _ hr) (mj_win c3) (mj_tyA _ _ hr) (mj_nmA _ _ hr) c5 hG ht h9 n1 n2 (fun hM hz => by rw [hs, q]; exact mj_u0 hM hz) g
        · rw [hs, q] at h
          obtain ⟨z, st, rfl, u3⟩ := mj_l1_e h
          obtain ⟨a, st, rfl, t, nn, hG, ht, h9, u4⟩ := mj_a1_e u3
          have g := ih (i + 1) _ _ _ _ _ _ u4
          rw [hn] at g
          obtain ⟨n1, n2⟩ := mj_nar1 htc q (z := z)
          exact mj_o_put X hdec hr c2 (mj_layA _ _ hr) (mj_win c3) (mj_tyA _ _ hr) (mj_nmA _ _ hr) c5 hG ht h9 n1 n2 (fun hM hz => by rw [hs, q]; exact mj_u1 hM) g
        · rw [hs, q] at h
          obtain ⟨z, st, rfl, u5⟩ := mj_r1_e h
          obtain ⟨a, st, rfl, t, nn, hG, ht, h9, u6⟩ := mj_a1_e u5
          have g := ih (i + 1) _ _ _ _ _ _ u6
          rw [hn] at g
          obtain ⟨n1, n2⟩ := mj_nar2 htc (by rw [q]; decide) (by rw [q]; decide) (z := z)
          exact mj_o_put X hdec hr c2 (mj_layA _ _ hr) (mj_win c3) (mj_tyA _ _ hr) (mj_nmA _ _ hr) c5 hG ht h9 n1 n2 (fun hM hz => by rw [hs, q]; exact mj_u2 hM) g
      case iaload =>
        have h : mj_ald 0 st G (fun a i2 st => mj_x (fun y => (T y).2.2.2.2.2.2) C full Q (fun rest L st G M cb sb => ∀ i, rest = full.drop i → mj_J X (mj_pc full i) L st G M cb sb) 0 (full.drop (i + 1)) L (.inl (M.1 a i2) :: st) G M cb sb) := h
        obtain ⟨k, a, st, t, nn, rfl, hG, ht, h0, h1, u1⟩ := mj_ald_e h
        have hn := hnx.resolve_left Bool.false_ne_true
        have g := ih (i + 1) _ _ _ _ _ _ u1
        rw [hn] at g
        exact mj_o_iaload X hdec hG ht h0 h1 g
      case laload =>
        have h : mj_ald 3 st G (fun a i2 st => mj_x (fun y => (T y).2.2.2.2.2.2) C full Q (fun rest L st G M cb sb => ∀ i, rest = full.drop i → mj_J X (mj_pc full i) L st G M cb sb) 0 (full.drop (i + 1)) L (.inr (.inl (M.2.1 a i2)) :: st) G M cb sb) := h
        obtain ⟨k, a, st, t, nn, rfl, hG, ht, h0, h1, u1⟩ := mj_ald_e h
        have hn := hnx.resolve_left Bool.false_ne_true
        have g := ih (i + 1) _ _ _ _ _ _ u1
        rw [hn] at g
        exact mj_o_laload X hdec hG ht h0 h1 g
      case baload =>
        have h : mj_bald st G (fun a i2 st => mj_x (fun y => (T y).2.2.2.2.2.2) C full Q (fun rest L st G M cb sb => ∀ i, rest = full.drop i → mj_J X (mj_pc full i) L st G M cb sb) 0 (full.drop (i + 1)) L (.inl (M.1 a i2) :: st) G M cb sb) := h
        have hn := hnx.resolve_left Bool.false_ne_true
        rcases h with h | h
        · obtain ⟨k, a, st, t, nn, rfl, hG, ht, h0, h1, u1⟩ := mj_ald_e h
          have g := ih (i + 1) _ _ _ _ _ _ u1
          rw [hn] at g
          exact mj_o_baload X hdec hG ht h0 h1 g
        · obtain ⟨k, a, st, t, nn, rfl, hG, ht, h0, h1, u2⟩ := mj_ald_e h
          have g := ih (i + 1) _ _ _ _ _ _ u2
          rw [hn] at g
          exact mj_o_zaload X hdec hG ht h0 h1 g
      case aaload =>
        have h : mj_ald (mj_hd aux) st G (fun a i2 st => mj_rf (M.2.2 a i2) fun v => mj_x (fun y => (T y).2.2.2.2.2.2) C full Q (fun rest L st G M cb sb => ∀ i, rest = full.drop i → mj_J X (mj_pc full i) L st G M cb sb) 0 (full.drop (i + 1)) L (v :: st) G M cb sb) := h
        obtain ⟨k, a, st, t, nn, rfl, hG, ht, h0, h1, u1⟩ := mj_ald_e h
        have hn := hnx.resolve_left Bool.false_ne_true
        simp only [mj_cx, Bool.and_eq_true, decide_eq_true_eq] at hcx
        refine mj_o_aaload X hdec hG ht hcx.1.1 hcx.1.2 hcx.2 h0 h1 ⟨fun b hb => ?_, fun hb => ?_⟩
        · have g := ih (i + 1) _ _ _ _ _ _ (u1.1 b hb)
          rw [hn] at g
          exact g
        · have g := ih (i + 1) _ _ _ _ _ _ (u1.2 hb)
          rw [hn] at g
          exact g
      case iastore =>
        have h : mj_i1 st (fun z st => mj_aldw 0 st G fun a i2 st => mj_x (fun y => (T y).2.2.2.2.2.2) C full Q (fun rest L st G M cb sb => ∀ i, rest = full.drop i → mj_J X (mj_pc full i) L st G M cb sb) 0 (full.drop (i + 1)) L st G (mj_p0 M a i2 z) cb sb) := h
        obtain ⟨z, st, rfl, u1⟩ := mj_i1_e h
        obtain ⟨k, a, st, t, nn, rfl, hG, ht, h9, h0, h1, u2⟩ := mj_aldw_e u1
        have hn := hnx.resolve_left Bool.false_ne_true
        have g := ih (i + 1) _ _ _ _ _ _ u2
        rw [hn] at g
        exact mj_o_iastore X hdec hG ht h9 h0 h1 g
      case lastore =>
        have h : mj_l1 st (fun z st => mj_aldw 3 st G fun a i2 st => mj_x (fun y => (T y).2.2.2.2.2.2) C full Q (fun rest L st G M cb sb => ∀ i, rest = full.drop i → mj_J X (mj_pc full i) L st G M cb sb) 0 (full.drop (i + 1)) L st G (mj_p1 M a i2 z) cb sb) := h
        obtain ⟨z, st, rfl, u1⟩ := mj_l1_e h
        obtain ⟨k, a, st, t, nn, rfl, hG, ht, h9, h0, h1, u2⟩ := mj_aldw_e u1
        have hn := hnx.resolve_left Bool.false_ne_true
        have g := ih (i + 1) _ _ _ _ _ _ u2
        rw [hn] at g
        exact mj_o_lastore X hdec hG ht h9 h0 h1 g
      case bastore =>
        have h : mj_i1 st (fun z st => (mj_aldw 1 st G fun a i2 st => mj_x (fun y => (T y).2.2.2.2.2.2) C full Q (fun rest L st G M cb sb => ∀ i, rest = full.drop i → mj_J X (mj_pc full i) L st G M cb sb) 0 (full.drop (i + 1)) L st G (mj_p0 M a i2 (mj_nb z)) cb sb) ∨ ((z = 0 ∨ z = 1) ∧ mj_aldw 2 st G fun a i2 st => mj_x (fun y => (T y).2.2.2.2.2.2) C full Q (fun rest L st G M cb sb => ∀ i, rest = full.drop i → mj_J X (mj_pc full i) L st G M cb sb) 0 (full.drop (i + 1)) L st G (mj_p0 M a i2 z) cb sb)) := h
        obtain ⟨z, st, rfl, u1⟩ := mj_i1_e h
        have hn := hnx.resolve_left Bool.false_ne_true
        rcases u1 with h | ⟨hz, h⟩
        · obtain ⟨k, a, st, t, nn, rfl, hG, ht, h9, h0, h1, u2⟩ := mj_aldw_e h
          have g := ih (i + 1) _ _ _ _ _ _ u2
          rw [hn] at g
          exact mj_o_bastore X hdec hG ht h9 h0 h1 g
        · obtain ⟨k, a, st, t, nn, rfl, hG, ht, h9, h0, h1, u3⟩ := mj_aldw_e h
          have g := ih (i + 1) _ _ _ _ _ _ u3
          rw [hn] at g
          exact mj_o_zastore X hdec hG ht hz h9 h0 h1 g
      case arraylength =>
        have h : mj_a1 st (fun a st => ∃ t k j, G a = (t, k) ∧ t % 1000 = 100 + j ∧ j < 7 ∧ mj_in k ∧ mj_x (fun y => (T y).2.2.2.2.2.2) C full Q (fun rest L st G M cb sb => ∀ i, rest = full.drop i → mj_J X (mj_pc full i) L st G M cb sb) 0 (full.drop (i + 1)) L (.inl (k : Int) :: st) G M cb sb) := h
        obtain ⟨a, st, rfl, t, k, j, hG, ht, hj, hk, u1⟩ := mj_a1_e h
        have hn := hnx.resolve_left Bool.false_ne_true
        have g := ih (i + 1) _ _ _ _ _ _ u1
        rw [hn] at g
        exact mj_o_alen X hdec hG ht hj hk g
      case newarray aty =>
        have h : mj_i1 st (fun z st => 0 ≤ z ∧ z ≤ 100000 ∧ 1 ≤ cb ∧ z.toNat ≤ sb ∧ ∃ t, t % 1000 = 100 + mj_hd aux ∧ mj_new G M t z.toNat fun a G M => mj_x (fun y => (T y).2.2.2.2.2.2) C full Q (fun rest L st G M cb sb => ∀ i, rest = full.drop i → mj_J X (mj_pc full i) L st G M cb sb) 0 (full.drop (i + 1)) L (.inr (.inr (some a)) :: st) G M (cb - 1) (sb - z.toNat)) := h
        obtain ⟨z, st, rfl, h0, h9, h1, h2, t, ht, u1⟩ := mj_i1_e h
        have hn := hnx.resolve_left Bool.false_ne_true
        simp only [mj_cx, Bool.and_eq_true, decide_eq_true_eq] at hcx
        refine mj_o_newarray X hdec hcx.1.1 hcx.1.2 (mj_win hcx.2) ht h0 h9 h1 h2 (fun a ha => ?_)
        have g := ih (i + 1) _ _ _ _ _ _ (u1 a ha)
        rw [hn] at g
        exact g
      case multianewarray k dm =>
        have h : mj_i1 st (fun z st => mj_i1 st fun y st => 0 ≤ z ∧ z ≤ 1000 ∧ 0 ≤ y ∧ y ≤ 1000 ∧ 1 + y.toNat ≤ cb ∧ y.toNat + y.toNat * z.toNat ≤ sb ∧ ∃ t t2, t % 1000 = 104 ∧ t2 % 1000 = 100 ∧ ∀ a, (∀ x, a ≤ x → G x = (0, 0)) → mj_x (fun y => (T y).2.2.2.2.2.2) C full Q (fun rest L st G M cb sb => ∀ i, rest = full.drop i → mj_J X (mj_pc full i) L st G M cb sb) 0 (full.drop (i + 1)) L (.inr (.inr (some a)) :: st) (mj_gg G a t y.toNat t2 z.toNat) (mj_zz M a y.toNat) (cb - (1 + y.toNat)) (sb - (y.toNat + y.toNat * z.toNat))) := h
        obtain ⟨z, st, rfl, u1⟩ := mj_i1_e h
        obtain ⟨y, st, rfl, h0, h9, y0, y9, h1, h2, t, t2, ht, ht2, u2⟩ := mj_i1_e u1
        have hn := hnx.resolve_left Bool.false_ne_true
        simp only [mj_cx, Bool.and_eq_true, decide_eq_true_eq] at hcx
        obtain ⟨rfl, hcl⟩ := hcx
        refine mj_o_mna X hdec (mj_win hcl) hw3 ht ht2 h0 h9 y0 y9 h1 h2 (fun a ha => ?_)
        have g := ih (i + 1) _ _ _ _ _ _ (u2 a ha)
        rw [hn] at g
        exact g
      case new k =>
        have h0 : aux ≠ [] ∧ 1 ≤ cb ∧ mj_h1 aux ≤ sb ∧ ∃ t, t % 1000 = mj_hd aux + 1 ∧ mj_new G M t 0 fun a G M => mj_x (fun y => (T y).2.2.2.2.2.2) C full Q (fun rest L st G M cb sb => ∀ i, rest = full.drop i → mj_J X (mj_pc full i) L st G M cb sb) 0 (full.drop (i + 1)) L (.inr (.inr (some a)) :: st) G M (cb - 1) (sb - mj_h1 aux) := h
        obtain ⟨h1, h2, t, ht, u1⟩ := h0.2
        have hcx := mj_em h0.1 hcx
        have hn := hnx.resolve_left Bool.false_ne_true
        simp only [Bool.and_eq_true, decide_eq_true_eq] at hcx
        obtain ⟨⟨⟨c1, c2⟩, c3⟩, c4⟩ := hcx
        have hr := mj_vw c1
        refine mj_o_new X hdec hr (mj_layA _ _ hr) (mj_tyA _ _ hr) (fun k hk => mj_tc_nf (mj_tcA _ _ hr k hk)) (mj_win c2) (mj_win c3) (mj_win c4) ht h1 h2 (fun a ha => ?_)
        have g := ih (i + 1) _ _ _ _ _ _ (u1 a ha)
        rw [hn] at g
        exact g
      case invokevirtual k =>
        have h0 : aux ≠ [] ∧ mj_pop (mj_h1 aux) [] st (fun As st => mj_a1 st fun a st => mj_is G a (mj_h2 aux + 1) fun _ _ => mj_cat st ≤ 8 ∧ (T (mj_hd aux)).2.2.2.2.2.2.1 ≤ cb ∧ (T (mj_hd aux)).2.2.2.2.2.2.2 ≤ sb ∧ C (mj_hd aux) (.inr (.inr (some a)) :: As) G M fun r G M => mj_x (fun y => (T y).2.2.2.2.2.2) C full Q (fun rest L st G M cb sb => ∀ i, rest = full.drop i → mj_J X (mj_pc full i) L st G M cb sb) 0 (full.drop (i + 1)) L (mj_ret r st) G M (cb - (T (mj_hd aux)).2.2.2.2.2.2.1) (sb - (T (mj_hd aux)).2.2.2.2.2.2.2)) := h
        have h := h0.2
        have hcx := mj_em h0.1 hcx
        obtain ⟨As, st, rfl, hAs, u1⟩ := mj_pop_e _ _ _ _ h
        rw [List.append_nil] at u1
        obtain ⟨a, st, rfl, t, nn, hG, ht, h8, h1, h2, u2⟩ := mj_a1_e u1
        have hn := hnx.resolve_left Bool.false_ne_true
        simp only [Bool.and_eq_true, decide_eq_true_eq] at hcx
        obtain ⟨⟨c1, c2⟩, c3⟩ := hcx
        have hr := mj_vw c2
        have hm := hT (mj_hd aux)
        unfold mj_cm at hm
        rw [c1] at hm
        simp only [Bool.and_eq_true, decide_eq_true_eq] at hm
        obtain ⟨⟨⟨⟨⟨⟨⟨m1, m2⟩, m3⟩, m4⟩, m5⟩, m6⟩, m7⟩, ⟨m8, m9⟩, m10⟩ := hm
        have hcl : (T (mj_hd aux)).1.cls = (vwCl.getD (mj_h2 aux) (RX0, TX0, 0)).1 := m8
        refine mj_o_callV (d := d) X hdec (hC _ _ _ _ _ u2) ⟨hR.1, by have := hR.2; omega⟩ hr hcl ⟨m3, m4, m5⟩ hAs (mj_win c3) m9 (by rw [← hcl]; exact m10) (by rw [← hcl]; exact m2) m1 hG ht h8 h1 h2 (fun r G M hq => ?_)
        have g := ih (i + 1) _ _ _ _ _ _ hq
        rw [hn] at g
        exact g
      case invokestatic k =>
        cases aux with
        | nil => exact absurd rfl (show ([] : List Nat) ≠ [] from (show ([] : List Nat) ≠ [] ∧ _ from h).1)
        | cons y0 aux =>
          cases aux with
          | nil =>
            have h0 : [y0] ≠ [] ∧ mj_pop (mj_h1 [y0]) [] st (fun As st => mj_cat st ≤ 8 ∧ (T (mj_hd [y0])).2.2.2.2.2.2.1 ≤ cb ∧ (T (mj_hd [y0])).2.2.2.2.2.2.2 ≤ sb ∧ C (mj_hd [y0]) As G M fun r G M => mj_x (fun y => (T y).2.2.2.2.2.2) C full Q (fun rest L st G M cb sb => ∀ i, rest = full.drop i → mj_J X (mj_pc full i) L st G M cb sb) 0 (full.drop (i + 1)) L (mj_ret r st) G M (cb - (T (mj_hd [y0])).2.2.2.2.2.2.1) (sb - (T (mj_hd [y0])).2.2.2.2.2.2.2)) := h
            have h := h0.2
            obtain ⟨As, st, rfl, hAs, u1⟩ := mj_pop_e _ _ _ _ h
            rw [List.append_nil] at u1
            obtain ⟨h8, h1, h2, u2⟩ := u1
            have hn := hnx.resolve_left Bool.false_ne_true
            simp only [mj_cx, Bool.and_eq_true, decide_eq_true_eq] at hcx
            obtain ⟨⟨c1, c2⟩, c3⟩ := hcx
            have hm := hT (mj_hd [y0])
            unfold mj_cm at hm
            rw [c1, c2] at hm
            simp only [Bool.and_eq_true, decide_eq_true_eq] at hm
            obtain ⟨⟨⟨⟨⟨⟨⟨m1, m2⟩, m3⟩, m4⟩, m5⟩, m6⟩, m7⟩, m8⟩ := hm
            refine mj_o_callS (d := d) X hdec (hC _ _ _ _ _ u2) ⟨hR.1, by have := hR.2; omega⟩ ⟨m3, m4, m5⟩ hAs (mj_win c3) m8 m2 m1 h8 h1 h2 (fun r G M hq => ?_)
            have g := ih (i + 1) _ _ _ _ _ _ hq
            rw [hn] at g
            exact g
          | cons y1 aux =>
            cases aux with
            | cons y2 aux =>
              have h0 : (y0 :: y1 :: y2 :: aux) ≠ [] ∧ mj_pop (mj_h1 (y0 :: y1 :: y2 :: aux)) [] st (fun As st => mj_cat st ≤ 8 ∧ (T (mj_hd (y0 :: y1 :: y2 :: aux))).2.2.2.2.2.2.1 ≤ cb ∧ (T (mj_hd (y0 :: y1 :: y2 :: aux))).2.2.2.2.2.2.2 ≤ sb ∧ C (mj_hd (y0 :: y1 :: y2 :: aux)) As G M fun r G M => mj_x (fun y => (T y).2.2.2.2.2.2) C full Q (fun rest L st G M cb sb => ∀ i, rest = full.drop i → mj_J X (mj_pc full i) L st G M cb sb) 0 (full.drop (i + 1)) L (mj_ret r st) G M (cb - (T (mj_hd (y0 :: y1 :: y2 :: aux))).2.2.2.2.2.2.1) (sb - (T (mj_hd (y0 :: y1 :: y2 :: aux))).2.2.2.2.2.2.2)) := h
              have h := h0.2
              obtain ⟨As, st, rfl, hAs, u1⟩ := mj_pop_e _ _ _ _ h
              rw [List.append_nil] at u1
              obtain ⟨h8, h1, h2, u2⟩ := u1
              have hn := hnx.resolve_left Bool.false_ne_true
              simp only [mj_cx, Bool.and_eq_true, decide_eq_true_eq] at hcx
              obtain ⟨⟨c1, c2⟩, c3⟩ := hcx
              have hm := hT (mj_hd (y0 :: y1 :: y2 :: aux))
              unfold mj_cm at hm
              rw [c1, c2] at hm
              simp only [Bool.and_eq_true, decide_eq_true_eq] at hm
              obtain ⟨⟨⟨⟨⟨⟨⟨m1, m2⟩, m3⟩, m4⟩, m5⟩, m6⟩, m7⟩, m8⟩ := hm
              refine mj_o_callS (d := d) X hdec (hC _ _ _ _ _ u2) ⟨hR.1, by have := hR.2; omega⟩ ⟨m3, m4, m5⟩ hAs (mj_win c3) m8 m2 m1 h8 h1 h2 (fun r G M hq => ?_)
              have g := ih (i + 1) _ _ _ _ _ _ hq
              rw [hn] at g
              exact g
            | nil =>
            have hn := hnx.resolve_left Bool.false_ne_true
            match y0, h, hcx with
            | 0, h, hcx =>
              have h : mj_i1 st fun y st => mj_i1 st fun x st => mj_cat st ≤ 8 ∧ ∀ z, (x < y → z = y) → (¬ x < y → z = x) → mj_x (fun y => (T y).2.2.2.2.2.2) C full Q (fun rest L st G M cb sb => ∀ i, rest = full.drop i → mj_J X (mj_pc full i) L st G M cb sb) 0 (full.drop (i + 1)) L (.inl z :: st) G M cb sb := h
              obtain ⟨y, st, rfl, u1⟩ := mj_i1_e h
              obtain ⟨x, st, rfl, h8, u2⟩ := mj_i1_e u1
              refine mj_o_max X hdec (mj_win (of_decide_eq_true hcx)) hlw.1.1 hlw.2.2.2.1 hlw.1.2 h8 (fun z z1 z2 => ?_)
              have g := ih (i + 1) _ _ _ _ _ _ (u2 z z1 z2)
              rw [hn] at g
              exact g
            | 1, h, hcx =>
              have h : mj_i1 st fun y st => mj_i1 st fun x st => mj_cat st ≤ 8 ∧ ∀ z, (y < x → z = y) → (¬ y < x → z = x) → mj_x (fun y => (T y).2.2.2.2.2.2) C full Q (fun rest L st G M cb sb => ∀ i, rest = full.drop i → mj_J X (mj_pc full i) L st G M cb sb) 0 (full.drop (i + 1)) L (.inl z :: st) G M cb sb := h
              obtain ⟨y, st, rfl, u1⟩ := mj_i1_e h
              obtain ⟨x, st, rfl, h8, u2⟩ := mj_i1_e u1
              refine mj_o_min X hdec (mj_win (of_decide_eq_true hcx)) hlw.2.1.1 hlw.2.2.2.1 hlw.2.1.2 h8 (fun z z1 z2 => ?_)
              have g := ih (i + 1) _ _ _ _ _ _ (u2 z z1 z2)
              rw [hn] at g
              exact g
            | 2, h, hcx =>
              have h : mj_i1 st fun x st => mj_cat st ≤ 8 ∧ ∀ z, mj_in z → (0 ≤ x → z = x) → (x < 0 → x ≠ -2147483648 → z = -x) → mj_x (fun y => (T y).2.2.2.2.2.2) C full Q (fun rest L st G M cb sb => ∀ i, rest = full.drop i → mj_J X (mj_pc full i) L st G M cb sb) 0 (full.drop (i + 1)) L (.inl z :: st) G M cb sb := h
              obtain ⟨x, st, rfl, h8, u2⟩ := mj_i1_e h
              refine mj_o_abs X hdec (mj_win (of_decide_eq_true hcx)) hlw.2.2.1.1 hlw.2.2.2.1 hlw.2.2.1.2 h8 (fun z z0 z1 z2 => ?_)
              have g := ih (i + 1) _ _ _ _ _ _ (u2 z z0 z1 z2)
              rw [hn] at g
              exact g
            | 3, h, hcx =>
              have h : mj_cpy 0 st G (fun a b sp dp n2 st => mj_x (fun y => (T y).2.2.2.2.2.2) C full Q (fun rest L st G M cb sb => ∀ i, rest = full.drop i → mj_J X (mj_pc full i) L st G M cb sb) 0 (full.drop (i + 1)) L st G (mj_cp0 M a b sp dp n2) cb sb) := h
              obtain ⟨nn, st, rfl, u1⟩ := mj_i1_e h
              obtain ⟨dp, st, rfl, u2⟩ := mj_i1_e u1
              obtain ⟨b, st, rfl, u3⟩ := mj_a1_e u2
              obtain ⟨sp, st, rfl, u4⟩ := mj_i1_e u3
              obtain ⟨a, st, rfl, ta, na, hGa, hta, tb, nb, hGb, htb, h9, h1, h2, h3, h4, h5, h8, u5⟩ := mj_a1_e u4
              have g := ih (i + 1) _ _ _ _ _ _ u5
              rw [hn] at g
              exact mj_o_copy0 X hdec (mj_win (of_decide_eq_true hcx)) hlw.2.2.2.2.1 hlw.2.2.2.2.2.1 hlw.2.2.2.2.2.2 h8 hGa hta hGb htb h9 h1 h2 h3 h4 h5 g
            | 4, h, hcx =>
              have h : mj_cpy 3 st G (fun a b sp dp n2 st => mj_x (fun y => (T y).2.2.2.2.2.2) C full Q (fun rest L st G M cb sb => ∀ i, rest = full.drop i → mj_J X (mj_pc full i) L st G M cb sb) 0 (full.drop (i + 1)) L st G (mj_cp1 M a b sp dp n2) cb sb) := h
              obtain ⟨nn, st, rfl, u1⟩ := mj_i1_e h
              obtain ⟨dp, st, rfl, u2⟩ := mj_i1_e u1
              obtain ⟨b, st, rfl, u3⟩ := mj_a1_e u2
              obtain ⟨sp, st, rfl, u4⟩ := mj_i1_e u3
              obtain ⟨a, st, rfl, ta, na, hGa, hta, tb, nb, hGb, htb, h9, h1, h2, h3, h4, h5, h8, u5⟩ := mj_a1_e u4
              have g := ih (i + 1) _ _ _ _ _ _ u5
              rw [hn] at g
              exact mj_o_copy1 X hdec (mj_win (of_decide_eq_true hcx)) hlw.2.2.2.2.1 hlw.2.2.2.2.2.1 hlw.2.2.2.2.2.2 h8 hGa hta hGb htb h9 h1 h2 h3 h4 h5 g
            | f + 5, h, hcx => exact False.elim h
      case anewarray k =>
        have h : mj_i1 st (fun z st => 0 ≤ z ∧ z ≤ 100000 ∧ 1 ≤ cb ∧ z.toNat ≤ sb ∧ ∃ t, t % 1000 = 100 + mj_hd aux ∧ mj_new G M t z.toNat fun a G M => mj_x (fun y => (T y).2.2.2.2.2.2) C full Q (fun rest L st G M cb sb => ∀ i, rest = full.drop i → mj_J X (mj_pc full i) L st G M cb sb) 0 (full.drop (i + 1)) L (.inr (.inr (some a)) :: st) G M (cb - 1) (sb - z.toNat)) := h
        obtain ⟨z, st, rfl, h0, h9, h1, h2, t, ht, u1⟩ := mj_i1_e h
        have hn := hnx.resolve_left Bool.false_ne_true
        simp only [mj_cx, Bool.and_eq_true, decide_eq_true_eq] at hcx
        refine mj_o_anew X hdec hcx.1 (mj_win hcx.2) ht h0 h9 h1 h2 (fun a ha => ?_)
        have g := ih (i + 1) _ _ _ _ _ _ (u1 a ha)
        rw [hn] at g
        exact g
      case aastore =>
        have h : mj_r1 st (fun z st => mj_aldw (mj_hd aux) st G fun a i2 st => (∀ b, z = some b → mj_hd aux = 6 ∧ mj_is G b 7 fun _ _ => True) ∧ mj_x (fun y => (T y).2.2.2.2.2.2) C full Q (fun rest L st G M cb sb => ∀ i, rest = full.drop i → mj_J X (mj_pc full i) L st G M cb sb) 0 (full.drop (i + 1)) L st G (mj_p2 M a i2 z) cb sb) := h
        obtain ⟨z, st, rfl, u1⟩ := mj_r1_e h
        obtain ⟨k, a, st, t, nn, rfl, hG, ht, h9, h0, h1, hb, u2⟩ := mj_aldw_e u1
        have hn := hnx.resolve_left Bool.false_ne_true
        have g := ih (i + 1) _ _ _ _ _ _ u2
        rw [hn] at g
        exact mj_o_aastore X hdec (of_decide_eq_true hcx) hG ht h9 h0 h1 (fun b q => ⟨(hb b q).1, by obtain ⟨t', n', w1, w2, -⟩ := (hb b q).2; exact ⟨t', n', w1, w2⟩⟩) g
      case tableswitch df lo hi offs =>
        have h : mj_i1 st (fun z st => (z < lo ∨ hi < z → mj_x (fun y => (T y).2.2.2.2.2.2) C full Q (fun rest L st G M cb sb => ∀ i, rest = full.drop i → mj_J X (mj_pc full i) L st G M cb sb) 0 (full.drop (mj_hd aux)) L st G M cb sb) ∧ mj_sw z (fun t => mj_x (fun y => (T y).2.2.2.2.2.2) C full Q (fun rest L st G M cb sb => ∀ i, rest = full.drop i → mj_J X (mj_pc full i) L st G M cb sb) 0 (full.drop t) L st G M cb sb) lo (aux.drop 1)) := h
        obtain ⟨z, st, rfl, h1, h2⟩ := mj_i1_e h
        simp only [mj_cx, Bool.and_eq_true, decide_eq_true_eq] at hcx
        obtain ⟨⟨c1, c2⟩, c3⟩ := hcx
        refine mj_o_switch X (pcs := mj_pc full) hdec c1 c2 (fun k t hk => ?_) (fun q => ih (mj_hd aux) _ _ _ _ _ _ (h1 q)) (fun k t hk hz => ih t _ _ _ _ _ _ (mj_sw_e _ _ h2 k t hk hz))
        obtain ⟨o, o1, o2⟩ := mj_ct_at _ _ c3 k t hk
        exact ⟨o, by rw [← Array.getElem?_toList]; exact o1, o2⟩
      case invokespecial k =>
        cases aux with
        | nil =>
          have h : mj_a1 st (fun _ st => mj_cat st ≤ 8 ∧ mj_x (fun y => (T y).2.2.2.2.2.2) C full Q (fun rest L st G M cb sb => ∀ i, rest = full.drop i → mj_J X (mj_pc full i) L st G M cb sb) 0 (full.drop (i + 1)) L st G M cb sb) := h
          obtain ⟨a, st, rfl, h8, u1⟩ := mj_a1_e h
          have hn := hnx.resolve_left Bool.false_ne_true
          have g := ih (i + 1) _ _ _ _ _ _ u1
          rw [hn] at g
          exact mj_o_objInit X hdec (mj_win (of_decide_eq_true hcx)) ho2 ho3 h8 g
        | cons y aux =>
          have h : mj_pop (mj_h1 (y :: aux)) [] st (fun As st => mj_a1 st fun a st => mj_is G a (mj_h2 (y :: aux) + 1) fun _ _ => mj_cat st ≤ 8 ∧ (T y).2.2.2.2.2.2.1 ≤ cb ∧ (T y).2.2.2.2.2.2.2 ≤ sb ∧ C y (.inr (.inr (some a)) :: As) G M fun r G M => mj_x (fun y => (T y).2.2.2.2.2.2) C full Q (fun rest L st G M cb sb => ∀ i, rest = full.drop i → mj_J X (mj_pc full i) L st G M cb sb) 0 (full.drop (i + 1)) L (mj_ret r st) G M (cb - (T y).2.2.2.2.2.2.1) (sb - (T y).2.2.2.2.2.2.2)) := h
          obtain ⟨As, st, rfl, hAs, u2⟩ := mj_pop_e _ _ _ _ h
          rw [List.append_nil] at u2
          obtain ⟨a, st, rfl, t, nn, hG, ht, h8, h1, h2, u3⟩ := mj_a1_e u2
          have hn := hnx.resolve_left Bool.false_ne_true
          simp only [mj_cx, Bool.and_eq_true, decide_eq_true_eq] at hcx
          obtain ⟨c1, c3⟩ := hcx
          have hm := hT y
          unfold mj_cm at hm
          rw [c1] at hm
          simp only [Bool.and_eq_true, decide_eq_true_eq] at hm
          obtain ⟨⟨⟨⟨⟨⟨⟨m1, m2⟩, m3⟩, m4⟩, m5⟩, m6⟩, m7⟩, ⟨⟨m8, m9⟩, m10⟩, m11⟩ := hm
          have hq0 := hC _ _ _ _ _ u3
          unfold mj_Mt at hq0
          rw [m11] at hq0 m1
          refine mj_o_callI (d := d) X hdec hq0 ⟨hR.1, by have := hR.2; omega⟩ m10 ⟨m3, m4, m5⟩ hAs (mj_win c3) m9 m2 m1 h8 h1 h2 (fun r G M hq => ?_)
          have g := ih (i + 1) _ _ _ _ _ _ hq
          rw [hn] at g
          exact g
      case ireturn =>
        have h : mj_i1 st (fun z st => st = [] ∧ (imm = 1 → z = 0 ∨ z = 1) ∧ Q (some (.inl z)) G M) := h
        obtain ⟨z, st, rfl, rfl, h1, h2⟩ := mj_i1_e h
        have hc2 := of_decide_eq_true hcx
        exact mj_o_ireturn X hdec (hc2.imp (fun q => q.2) (fun q => ⟨q.2, h1 q.1⟩)) h2
      case return_ =>
        have h : st = [] ∧ Q none G M := h
        obtain ⟨rfl, h2⟩ := h
        exact mj_o_return X hdec (of_decide_eq_true hcx) h2
      all_goals exact h.elim
end MJS
end
section
/-! ===== a run of the small machine gives the method's contract ===== -/
theorem mj_w_lib : (Cond.static Lib.Math.max.name ∈ mj_tb ∧ Cond.code Lib.Math.max.name Lib.Math.max.code 2 (some .int) ∈ mj_tb) ∧ (Cond.static Lib.Math.min.name ∈ mj_tb ∧ Cond.code Lib.Math.min.name Lib.Math.min.code 2 (some .int) ∈ mj_tb) ∧ (Cond.static Lib.Math.abs.name ∈ mj_tb ∧ Cond.code Lib.Math.abs.name Lib.Math.abs.code 1 (some .int) ∈ mj_tb) ∧ Cond.initialized "java/lang/Math" ∈ mj_tb ∧ Cond.native arraycopyName ∈ mj_tb ∧ Cond.static arraycopyName ∈ mj_tb ∧ Cond.initialized "java/lang/System" ∈ mj_tb := by decide +kernel
theorem mj_w_arr : Cond.arrayClass .int ∈ mj_tb := by decide +kernel
theorem mj_w_oi : Cond.instanceMethod objectInit ∈ mj_tb := by decide +kernel
theorem mj_w_oc : Cond.code objectInit ⟨#[0xb1]⟩ 1 none ∈ mj_tb := by decide +kernel
theorem mj_cm_of {T : Nat → mj_T} {q : mj_T} (h : mj_ok1 T q = true) : mj_cm q = true := by
  unfold mj_ok1 at h
  rw [Bool.and_eq_true, Bool.and_eq_true] at h
  exact h.1.1
theorem mj_cm_pn {q : mj_T} (h : mj_cm q = true) : plainName q.1.cls = true ∧ q.2.2.1 ≤ 80 := by
  unfold mj_cm at h
  simp only [Bool.and_eq_true, decide_eq_true_eq] at h
  obtain ⟨⟨⟨⟨⟨⟨⟨m1, m2⟩, m3⟩, m4⟩, m5⟩, m6⟩, m7⟩, -⟩ := h
  exact ⟨m6, m7⟩
theorem mj_met {l : Launch} {D : va_G} {dA : Nat → ClassId} {B : Nat} {T : Nat → mj_T} (hT : ∀ y, mj_ok1 T (T y) = true) : ∀ (d y : Nat) (av : List mj_V) (G : mj_G) (M : mj_M) (Q : mj_P), mj_R T d y av G M Q → mj_Mt l D dA B (T y) d av G M Q
  | 0, _, _, _, _, _, h => h.elim
  | d + 1, y, av, G, M, Q, h => by
    obtain ⟨hwd, hrun⟩ := h
    have hq := hT y
    have hcm := mj_cm_of hq
    obtain ⟨hpn, h80⟩ := mj_cm_pn hcm
    unfold mj_ok1 at hq
    rw [Bool.and_eq_true, Bool.and_eq_true] at hq
    obtain ⟨⟨-, hca⟩, hp0⟩ := hq
    have hp0 := of_decide_eq_true hp0
    unfold mj_Mt
    refine Met.ofW (cc := (T y).2.1) (maxL := (T y).2.2.1) (ret := (T y).2.2.2.1) hpn rfl ?_
    intro p e s m args below meth c s₁ Bd hml hv
    obtain ⟨rfl, hH, hK, hok, hB⟩ := hv
    have hts := atoms_spec (ws := Cond.code (T y).1 (T y).2.1 (T y).2.2.1 (T y).2.2.2.1 :: mj_tb) Bd.pre
    have X : mj_X p l e (mj_rm (d + 1) (T y).2.2.2.2.2.2) s m (av.map mj_val).toArray below meth c (T y).1.cls (T y).2.1 (T y).2.2.2.1 D dA B (T y).2.2.1 (T y).2.2.2.2.2.2.1 (T y).2.2.2.2.2.2.2 Q :=
      ⟨⟨Bd.exec, Bd.bytes, hml, Bd.returns, findClass_of_methodNamed Bd.named⟩, fun w hw => hts w (List.mem_cons_of_mem _ hw), Bd.notSynchronized, hK, hB, ⟨by show 1 ≤ d + 1; omega, by show 100 ≤ 100 * (d + 1) + 100; omega, Nat.le_refl _, Nat.le_refl _⟩⟩
    have hini : decide ((T y).1.name = "<init>") = true → meth.name = "<init>" := fun q => by
      rw [(name_of_methodNamed Bd.named Bd.method).1]
      exact of_decide_eq_true q
    have g := mj_snd X (T := T) (C := mj_R T d) (full := (T y).2.2.2.2.1) (ini := decide ((T y).1.name = "<init>")) (d := d) hini ⟨Nat.le_refl _, Nat.le_refl _⟩ mj_w_arr mj_w_oi mj_w_oc mj_w_lib (fun y => mj_cm_of (hT y)) (fun y av G M Q h => mj_met hT d y av G M Q h)
      (fun i x hx => by have := mj_ca_at _ 0 i x hca hx; rw [Nat.zero_add] at this; exact this)
    have g := hrun _ g 0 rfl
    rw [hp0] at g
    rw [lg_entry_eq]
    have hl := lv_entry (av.map mj_val) (n := (T y).2.2.1) (by rw [mj_wd_eq]; exact hwd)
    exact g s.heap [] _ 0 0 hH va_S.rf ⟨by rw [mj_en_asc]; exact hl, mj_en_len av _ hwd, fun j v hj => mj_en_ok av _ j v hok hj⟩ (fun v hv => by cases hv) (by omega) (by omega)
theorem mj_ok1_mk {T : Nat → mj_T} {q : mj_T} (h1 : mj_cm q = true) (h2 : mj_ca T q.1.cls q.2.2.2.1 q.2.2.1 (decide (q.1.name = "<init>")) q.2.1 q.2.2.2.2.1 0 q.2.2.2.2.1 = true) (h3 : decide (mj_pc q.2.2.2.2.1 0 = 0) = true) : mj_ok1 T q = true := by
  unfold mj_ok1
  rw [h1, h2, h3]
  rfl
def mj_cr (q : mj_T) : Bool := decide (q.1.cls ≠ "java/lang/invoke/MethodHandle") && decide (q.1.cls ≠ "java/lang/invoke/VarHandle") && decide ((parseMethodDescriptor q.1.desc).map (fun d => d.parameters.length) = some q.2.2.2.2.2.1.2.2) && decide (plainName q.1.cls = true) && decide (q.2.2.1 ≤ 80)
theorem mj_cm0 {q : mj_T} (h1 : Cond.code q.1 q.2.1 q.2.2.1 q.2.2.2.1 ∈ mj_tb) (h2 : Cond.initialized q.1.cls ∈ mj_tb) (h3 : Cond.instanceMethod q.1 ∈ mj_tb) (h4 : Cond.selects q.1.cls q.1 q.1 ∈ mj_tb) (hk : q.2.2.2.2.2.1.1 = 0) (hr : (mj_cr q && decide (q.1.cls = mj_cls q.2.2.2.2.2.1.2.1)) = true) : mj_cm q = true := by
  unfold mj_cr at hr
  simp only [Bool.and_eq_true, decide_eq_true_eq] at hr
  obtain ⟨⟨⟨⟨⟨r1, r2⟩, r3⟩, r4⟩, r5⟩, r6⟩ := hr
  unfold mj_cm
  rw [hk]
  simp only [Bool.and_eq_true, decide_eq_true_eq]
  exact ⟨⟨⟨⟨⟨⟨⟨h1, h2⟩, r1⟩, r2⟩, r3⟩, r4⟩, r5⟩, ⟨r6, h3⟩, h4⟩
theorem mj_cm1 {q : mj_T} (h1 : Cond.code q.1 q.2.1 q.2.2.1 q.2.2.2.1 ∈ mj_tb) (h2 : Cond.initialized q.1.cls ∈ mj_tb) (h3 : Cond.static q.1 ∈ mj_tb) (hk : q.2.2.2.2.2.1.1 = 1) (hr : mj_cr q = true) : mj_cm q = true := by
  unfold mj_cr at hr
  simp only [Bool.and_eq_true, decide_eq_true_eq] at hr
  obtain ⟨⟨⟨⟨r1, r2⟩, r3⟩, r4⟩, r5⟩ := hr
  unfold mj_cm
  rw [hk]
  simp only [Bool.and_eq_true, decide_eq_true_eq]
  exact ⟨⟨⟨⟨⟨⟨⟨h1, h2⟩, r1⟩, r2⟩, r3⟩, r4⟩, r5⟩, h3⟩
theorem mj_cm2 {q : mj_T} (h1 : Cond.code q.1 q.2.1 q.2.2.1 q.2.2.2.1 ∈ mj_tb) (h2 : Cond.initialized q.1.cls ∈ mj_tb) (h3 : Cond.instanceMethod q.1 ∈ mj_tb) (hk : q.2.2.2.2.2.1.1 = 2) (hr : (mj_cr q && decide (q.1.cls = mj_cls q.2.2.2.2.2.1.2.1) && decide (q.1.name = "<init>") && decide (q.2.2.2.1 = none)) = true) : mj_cm q = true := by
  unfold mj_cr at hr
  simp only [Bool.and_eq_true, decide_eq_true_eq] at hr
  obtain ⟨⟨⟨⟨⟨⟨⟨r1, r2⟩, r3⟩, r4⟩, r5⟩, r6⟩, r7⟩, r8⟩ := hr
  unfold mj_cm
  rw [hk]
  simp only [Bool.and_eq_true, decide_eq_true_eq]
  exact ⟨⟨⟨⟨⟨⟨⟨h1, h2⟩, r1⟩, r2⟩, r3⟩, r4⟩, r5⟩, ⟨⟨r6, h3⟩, r7⟩, r8⟩
end
section
/-! ===== the small machine's step grows with what goes on behind it ===== -/
theorem mj_pop_m : ∀ (n : Nat) (acc st : List mj_V) {k k' : List mj_V → List mj_V → Prop}, (∀ a t, k a t → k' a t) → mj_pop n acc st k → mj_pop n acc st k'
  | 0, acc, st, _, _, hk, h => hk acc st h
  | n + 1, acc, [], _, _, _, h => h
  | n + 1, acc, v :: st, _, _, hk, h => mj_pop_m n (v :: acc) st hk h
theorem mj_sw_m {z : Int} {k k' : Nat → Prop} (hk : ∀ t, k t → k' t) : ∀ (ts : List Nat) (v : Int), mj_sw z k v ts → mj_sw z k' v ts
  | [], _, _ => trivial
  | t :: ts, v, h => ⟨fun q => hk t (h.1 q), mj_sw_m hk ts (v + 1) h.2⟩
theorem mj_a1_m {st : List mj_V} {k k' : Nat → List mj_V → Prop} (hk : ∀ a t, k a t → k' a t) (h : mj_a1 st k) : mj_a1 st k' := by
  obtain ⟨a, t, rfl, h⟩ := mj_a1_e h
  exact hk a t h
theorem mj_i1_m {st : List mj_V} {k k' : Int → List mj_V → Prop} (hk : ∀ a t, k a t → k' a t) (h : mj_i1 st k) : mj_i1 st k' := by
  obtain ⟨a, t, rfl, h⟩ := mj_i1_e h
  exact hk a t h
theorem mj_ald_m {j : Nat} {st : List mj_V} {G : mj_G} {k k' : Nat → Nat → List mj_V → Prop} (hk : ∀ a i t, k a i t → k' a i t) (h : mj_ald j st G k) : mj_ald j st G k' := by
  obtain ⟨i, a, st', t, n, rfl, h1, h2, h3, h4, h5⟩ := mj_ald_e h
  exact ⟨t, n, h1, h2, h3, h4, hk _ _ _ h5⟩
theorem mj_aldw_m {j : Nat} {st : List mj_V} {G : mj_G} {k k' : Nat → Nat → List mj_V → Prop} (hk : ∀ a i t, k a i t → k' a i t) (h : mj_aldw j st G k) : mj_aldw j st G k' := by
  obtain ⟨i, a, st', t, n, rfl, h1, h2, h9, h3, h4, h5⟩ := mj_aldw_e h
  exact ⟨t, n, h1, h2, h9, h3, h4, hk _ _ _ h5⟩
theorem mj_cpy_m {j : Nat} {st : List mj_V} {G : mj_G} {k k' : Nat → Nat → Nat → Nat → Nat → List mj_V → Prop} (hk : ∀ a b c d e t, k a b c d e t → k' a b c d e t) (h : mj_cpy j st G k) : mj_cpy j st G k' := by
  obtain ⟨nn, st, rfl, u1⟩ := mj_i1_e h
  obtain ⟨dp, st, rfl, u2⟩ := mj_i1_e u1
  obtain ⟨b, st, rfl, u3⟩ := mj_a1_e u2
  obtain ⟨sp, st, rfl, u4⟩ := mj_i1_e u3
  obtain ⟨a, st, rfl, ta, na, hGa, hta, tb, nb, hGb, htb, h9, h1, h2, h3, h4, h5, h8, u5⟩ := mj_a1_e u4
  exact ⟨ta, na, hGa, hta, tb, nb, hGb, htb, h9, h1, h2, h3, h4, h5, h8, hk _ _ _ _ _ _ u5⟩
theorem mj_lib_m {f : Nat} {st : List mj_V} {G : mj_G} {M : mj_M} {k k' : List mj_V → mj_M → Prop} (hk : ∀ t M, k t M → k' t M) (h : mj_lib f st G M k) : mj_lib f st G M k' := by
  match f, h with
  | 0, h => exact mj_i1_m (fun _ _ h => mj_i1_m (fun _ _ h => ⟨h.1, fun z a b => hk _ _ (h.2 z a b)⟩) h) h
  | 1, h => exact mj_i1_m (fun _ _ h => mj_i1_m (fun _ _ h => ⟨h.1, fun z a b => hk _ _ (h.2 z a b)⟩) h) h
  | 2, h => exact mj_i1_m (fun _ _ h => ⟨h.1, fun z a b c => hk _ _ (h.2 z a b c)⟩) h
  | 3, h => exact mj_cpy_m (k := fun a b sp dp n st => k st (mj_cp0 M a b sp dp n)) (k' := fun a b sp dp n st => k' st (mj_cp0 M a b sp dp n)) (fun _ _ _ _ _ _ h => hk _ _ h) h
  | 4, h => exact mj_cpy_m (k := fun a b sp dp n st => k st (mj_cp1 M a b sp dp n)) (k' := fun a b sp dp n st => k' st (mj_cp1 M a b sp dp n)) (fun _ _ _ _ _ _ h => hk _ _ h) h
  | n + 5, h => exact h.elim
def mj_mo (C : mj_C) : Prop := ∀ y av G M R R', (∀ r G M, R r G M → R' r G M) → C y av G M R → C y av G M R'
set_option maxHeartbeats 4000000 in
theorem mj_x_m {mcs : Nat → Nat × Nat} {C : mj_C} {full : List mj_E} {Q Q' : mj_P} {K K' : mj_S} (hC : mj_mo C) (hQ : ∀ r G M, Q r G M → Q' r G M) (hK : ∀ rest L st G M cb sb, K rest L st G M cb sb → K' rest L st G M cb sb) :
    ∀ (n : Nat) (rest : List mj_E) (L : mj_L) (st : List mj_V) (G : mj_G) (M : mj_M) (cb sb : Nat), mj_x mcs C full Q K n rest L st G M cb sb → mj_x mcs C full Q' K' n rest L st G M cb sb := by
  intro n
  induction n with
  | zero => intro rest L st G M cb sb h; exact hK _ _ _ _ _ _ _ h
  | succ n ih =>
    intro rest L st G M cb sb h
    cases rest with
    | nil => exact h
    | cons x rest =>
      obtain ⟨ins, pc, aux, imm⟩ := x
      cases ins
      case iload_n k =>
        have h : mj_ldi L k.val (fun v => mj_x mcs C full Q K n rest L (v :: st) G M cb sb) := h
        obtain ⟨z, h1, h2⟩ := mj_ldi_e h
        show mj_ldi L k.val (fun v => mj_x mcs C full Q' K' n rest L (v :: st) G M cb sb)
        unfold mj_ldi
        rw [h1]
        exact ih _ _ _ _ _ _ _ h2
      case iload k =>
        have h : mj_ldi L k (fun v => mj_x mcs C full Q K n rest L (v :: st) G M cb sb) := h
        obtain ⟨z, h1, h2⟩ := mj_ldi_e h
        show mj_ldi L k (fun v => mj_x mcs C full Q' K' n rest L (v :: st) G M cb sb)
        unfold mj_ldi
        rw [h1]
        exact ih _ _ _ _ _ _ _ h2
      case lload_n k =>
        have h : mj_ldl L k.val (fun v => mj_x mcs C full Q K n rest L (v :: st) G M cb sb) := h
        obtain ⟨z, h1, h2⟩ := mj_ldl_e h
        show mj_ldl L k.val (fun v => mj_x mcs C full Q' K' n rest L (v :: st) G M cb sb)
        unfold mj_ldl
        rw [h1]
        exact ih _ _ _ _ _ _ _ h2
      case lload k =>
        have h : mj_ldl L k (fun v => mj_x mcs C full Q K n rest L (v :: st) G M cb sb) := h
        obtain ⟨z, h1, h2⟩ := mj_ldl_e h
        show mj_ldl L k (fun v => mj_x mcs C full Q' K' n rest L (v :: st) G M cb sb)
        unfold mj_ldl
        rw [h1]
        exact ih _ _ _ _ _ _ _ h2
      case aload_n k =>
        have h : mj_lda L k.val (fun v => mj_x mcs C full Q K n rest L (v :: st) G M cb sb) := h
        obtain ⟨z, h1, h2⟩ := mj_lda_e h
        show mj_lda L k.val (fun v => mj_x mcs C full Q' K' n rest L (v :: st) G M cb sb)
        unfold mj_lda
        rw [h1]
        exact ih _ _ _ _ _ _ _ h2
      case aload k =>
        have h : mj_lda L k (fun v => mj_x mcs C full Q K n rest L (v :: st) G M cb sb) := h
        obtain ⟨z, h1, h2⟩ := mj_lda_e h
        show mj_lda L k (fun v => mj_x mcs C full Q' K' n rest L (v :: st) G M cb sb)
        unfold mj_lda
        rw [h1]
        exact ih _ _ _ _ _ _ _ h2
      case istore_n k =>
        obtain ⟨z, t, rfl, h2⟩ := mj_i1_e h
        exact ih _ _ _ _ _ _ _ h2
      case istore k =>
        obtain ⟨z, t, rfl, h2⟩ := mj_i1_e h
        exact ih _ _ _ _ _ _ _ h2
      case lstore_n k =>
        obtain ⟨z, t, rfl, h2⟩ := mj_l1_e h
        exact ih _ _ _ _ _ _ _ h2
      case lstore k =>
        obtain ⟨z, t, rfl, h2⟩ := mj_l1_e h
        exact ih _ _ _ _ _ _ _ h2
      case astore_n k =>
        obtain ⟨z, t, rfl, h2⟩ := mj_r1_e h
        exact ih _ _ _ _ _ _ _ h2
      case astore k =>
        obtain ⟨z, t, rfl, h2⟩ := mj_r1_e h
        exact ih _ _ _ _ _ _ _ h2
      case iinc k c =>
        have h : mj_ldi L k (fun v => mj_i1 [v] fun z _ => mj_in (z + c) ∧ mj_x mcs C full Q K n rest (mj_s1 L k (.inl (z + c))) st G M cb sb) := h
        obtain ⟨z, h1, h2⟩ := mj_ldi_e h
        show mj_ldi L k (fun v => mj_i1 [v] fun z _ => mj_in (z + c) ∧ mj_x mcs C full Q' K' n rest (mj_s1 L k (.inl (z + c))) st G M cb sb)
        unfold mj_ldi
        rw [h1]
        exact ⟨(show mj_in (z + c) ∧ _ from h2).1, ih _ _ _ _ _ _ _ (show mj_in (z + c) ∧ _ from h2).2⟩
      case iconst z =>
        exact ih _ _ _ _ _ _ _ h
      case bipush z =>
        exact ih _ _ _ _ _ _ _ h
      case sipush z =>
        exact ih _ _ _ _ _ _ _ h
      case ldc z =>
        exact ih _ _ _ _ _ _ _ h
      case ldc2_w z =>
        exact ih _ _ _ _ _ _ _ h
      case lconst z =>
        exact ih _ _ _ _ _ _ _ h
      case aconst_null =>
        exact ih _ _ _ _ _ _ _ h
      case goto z =>
        exact ih _ _ _ _ _ _ _ h
      case iadd =>
        obtain ⟨y, t, rfl, u1⟩ := mj_i1_e h
        obtain ⟨x, t, rfl, u2⟩ := mj_i1_e u1
        rcases u2 with ⟨h1, h2⟩ | h2
        · exact Or.inl ⟨h1, ih _ _ _ _ _ _ _ h2⟩
        · exact Or.inr (fun z hz hz2 => ih _ _ _ _ _ _ _ (h2 z hz hz2))
      case isub =>
        obtain ⟨y, t, rfl, u1⟩ := mj_i1_e h
        obtain ⟨x, t, rfl, u2⟩ := mj_i1_e u1
        rcases u2 with ⟨h1, h2⟩ | h2
        · exact Or.inl ⟨h1, ih _ _ _ _ _ _ _ h2⟩
        · exact Or.inr (fun z hz hz2 => ih _ _ _ _ _ _ _ (h2 z hz hz2))
      case imul =>
        obtain ⟨y, t, rfl, u1⟩ := mj_i1_e h
        obtain ⟨x, t, rfl, u2⟩ := mj_i1_e u1
        rcases u2 with ⟨h1, h2⟩ | h2
        · exact Or.inl ⟨h1, ih _ _ _ _ _ _ _ h2⟩
        · exact Or.inr (fun z hz hz2 => ih _ _ _ _ _ _ _ (h2 z hz hz2))
      case iand =>
        obtain ⟨y, t, rfl, u1⟩ := mj_i1_e h
        obtain ⟨x, t, rfl, u2⟩ := mj_i1_e u1
        exact fun z hz hz2 => ih _ _ _ _ _ _ _ (u2 z hz hz2)
      case ior =>
        obtain ⟨y, t, rfl, u1⟩ := mj_i1_e h
        obtain ⟨x, t, rfl, u2⟩ := mj_i1_e u1
        exact fun z hz hz2 => ih _ _ _ _ _ _ _ (u2 z hz hz2)
      case ishl =>
        obtain ⟨y, t, rfl, u1⟩ := mj_i1_e h
        obtain ⟨x, t, rfl, u2⟩ := mj_i1_e u1
        exact fun z hz hz2 => ih _ _ _ _ _ _ _ (u2 z hz hz2)
      case ishr =>
        obtain ⟨y, t, rfl, u1⟩ := mj_i1_e h
        obtain ⟨x, t, rfl, u2⟩ := mj_i1_e u1
        exact fun z hz hz2 => ih _ _ _ _ _ _ _ (u2 z hz hz2)
      case iushr =>
        obtain ⟨y, t, rfl, u1⟩ := mj_i1_e h
        obtain ⟨x, t, rfl, u2⟩ := mj_i1_e u1
        exact fun z hz hz2 => ih _ _ _ _ _ _ _ (u2 z hz hz2)
      case ineg =>
        obtain ⟨x, t, rfl, u2⟩ := mj_i1_e h
        exact fun z hz hz2 => ih _ _ _ _ _ _ _ (u2 z hz hz2)
      case i2b =>
        obtain ⟨x, t, rfl, u2⟩ := mj_i1_e h
        exact fun z hz hz2 => ih _ _ _ _ _ _ _ (u2 z hz hz2)
      case dup =>
        have h : mj_c1 st (fun v st => mj_x mcs C full Q K n rest L (v :: v :: st) G M cb sb) := h
        obtain ⟨v, t, rfl, h1, h2⟩ := mj_c1_e h
        rcases v with z | z | z
        · exact ih _ _ _ _ _ _ _ h2
        · exact absurd rfl (h1 z)
        · exact ih _ _ _ _ _ _ _ h2
      case pop =>
        have h : mj_c1 st (fun _ st => mj_x mcs C full Q K n rest L st G M cb sb) := h
        obtain ⟨v, t, rfl, h1, h2⟩ := mj_c1_e h
        rcases v with z | z | z
        · exact ih _ _ _ _ _ _ _ h2
        · exact absurd rfl (h1 z)
        · exact ih _ _ _ _ _ _ _ h2
      case dup2 =>
        have h : mj_c1 st (fun v st => mj_c1 st fun w st => mj_x mcs C full Q K n rest L (v :: w :: v :: w :: st) G M cb sb) := h
        obtain ⟨v, t, rfl, h1, u⟩ := mj_c1_e h
        obtain ⟨v2, t, rfl, h3, h2⟩ := mj_c1_e u
        rcases v with z | z | z <;> rcases v2 with z2 | z2 | z2 <;> first | exact absurd rfl (h1 z) | exact absurd rfl (h3 z2) | exact ih _ _ _ _ _ _ _ h2
      case ifCond c o =>
        obtain ⟨z, t, rfl, h1, h2⟩ := mj_i1_e h
        exact ⟨fun q => ih _ _ _ _ _ _ _ (h1 q), fun q => ih _ _ _ _ _ _ _ (h2 q)⟩
      case if_icmp c o =>
        obtain ⟨y, t, rfl, u⟩ := mj_i1_e h
        obtain ⟨z, t, rfl, h1, h2⟩ := mj_i1_e u
        exact ⟨fun q => ih _ _ _ _ _ _ _ (h1 q), fun q => ih _ _ _ _ _ _ _ (h2 q)⟩
      case ifnull o =>
        obtain ⟨z, t, rfl, h1, h2⟩ := mj_r1_e h
        exact ⟨fun q => ih _ _ _ _ _ _ _ (h1 q), fun q => ih _ _ _ _ _ _ _ (h2 q)⟩
      case ifnonnull o =>
        obtain ⟨z, t, rfl, h1, h2⟩ := mj_r1_e h
        exact ⟨fun q => ih _ _ _ _ _ _ _ (h1 q), fun q => ih _ _ _ _ _ _ _ (h2 q)⟩
      case tableswitch df lo hi offs =>
        obtain ⟨z, t, rfl, h1, h2⟩ := mj_i1_e h
        exact ⟨fun q => ih _ _ _ _ _ _ _ (h1 q), mj_sw_m (fun t h => ih _ _ _ _ _ _ _ h) _ _ h2⟩
      case getfield k =>
        obtain ⟨h0, u⟩ : aux ≠ [] ∧ mj_get (mj_hd aux) (mj_h1 aux) st G M (fun st => mj_x mcs C full Q K n rest L st G M cb sb) := h
        obtain ⟨a, t, rfl, tt, nn, hG, ht, u⟩ := mj_a1_e u
        refine ⟨h0, tt, nn, hG, ht, ?_⟩
        generalize mj_so (mj_hd aux) (mj_h1 aux) = so at u ⊢
        match so, u with
        | 0, u => exact ih _ _ _ _ _ _ _ u
        | 1, u => exact ih _ _ _ _ _ _ _ u
        | m + 2, u => exact ⟨fun b hb => ih _ _ _ _ _ _ _ (u.1 b hb), fun hb => ih _ _ _ _ _ _ _ (u.2 hb)⟩
      case putfield k =>
        obtain ⟨h0, u⟩ : aux ≠ [] ∧ mj_put (mj_hd aux) (mj_h1 aux) st G M (fun st M => mj_x mcs C full Q K n rest L st G M cb sb) := h
        refine ⟨h0, ?_⟩
        unfold mj_put at u ⊢
        generalize mj_so (mj_hd aux) (mj_h1 aux) = so at u ⊢
        match so, u with
        | 0, u =>
          obtain ⟨z, t, rfl, u⟩ := mj_i1_e u
          obtain ⟨a, t, rfl, tt, nn, hG, ht, h9, hb, u⟩ := mj_a1_e u
          exact ⟨tt, nn, hG, ht, h9, hb, ih _ _ _ _ _ _ _ u⟩
        | 1, u =>
          obtain ⟨z, t, rfl, u⟩ := mj_l1_e u
          obtain ⟨a, t, rfl, tt, nn, hG, ht, h9, u⟩ := mj_a1_e u
          exact ⟨tt, nn, hG, ht, h9, ih _ _ _ _ _ _ _ u⟩
        | m + 2, u =>
          obtain ⟨z, t, rfl, u⟩ := mj_r1_e u
          obtain ⟨a, t, rfl, tt, nn, hG, ht, h9, u⟩ := mj_a1_e u
          exact ⟨tt, nn, hG, ht, h9, ih _ _ _ _ _ _ _ u⟩
      case iaload =>
        exact mj_ald_m (k := fun a i st => mj_x mcs C full Q K n rest L (.inl (M.1 a i) :: st) G M cb sb) (k' := fun a i st => mj_x mcs C full Q' K' n rest L (.inl (M.1 a i) :: st) G M cb sb) (fun _ _ _ h => ih _ _ _ _ _ _ _ h) h
      case laload =>
        exact mj_ald_m (k := fun a i st => mj_x mcs C full Q K n rest L (.inr (.inl (M.2.1 a i)) :: st) G M cb sb) (k' := fun a i st => mj_x mcs C full Q' K' n rest L (.inr (.inl (M.2.1 a i)) :: st) G M cb sb) (fun _ _ _ h => ih _ _ _ _ _ _ _ h) h
      case baload =>
        rcases (show mj_bald st G (fun a i st => mj_x mcs C full Q K n rest L (.inl (M.1 a i) :: st) G M cb sb) from h) with h | h
        · exact Or.inl (mj_ald_m (k := fun a i st => mj_x mcs C full Q K n rest L (.inl (M.1 a i) :: st) G M cb sb) (k' := fun a i st => mj_x mcs C full Q' K' n rest L (.inl (M.1 a i) :: st) G M cb sb) (fun _ _ _ h => ih _ _ _ _ _ _ _ h) h)
        · exact Or.inr (mj_ald_m (k := fun a i st => mj_x mcs C full Q K n rest L (.inl (M.1 a i) :: st) G M cb sb) (k' := fun a i st => mj_x mcs C full Q' K' n rest L (.inl (M.1 a i) :: st) G M cb sb) (fun _ _ _ h => ih _ _ _ _ _ _ _ h) h)
      case aaload =>
        exact mj_ald_m (k := fun a i st => mj_rf (M.2.2 a i) fun v => mj_x mcs C full Q K n rest L (v :: st) G M cb sb) (k' := fun a i st => mj_rf (M.2.2 a i) fun v => mj_x mcs C full Q' K' n rest L (v :: st) G M cb sb) (fun _ _ _ h => ⟨fun b hb => ih _ _ _ _ _ _ _ (h.1 b hb), fun hb => ih _ _ _ _ _ _ _ (h.2 hb)⟩) h
      case iastore =>
        obtain ⟨z, t, rfl, u⟩ := mj_i1_e h
        exact mj_aldw_m (fun _ _ _ h => ih _ _ _ _ _ _ _ h) u
      case lastore =>
        obtain ⟨z, t, rfl, u⟩ := mj_l1_e h
        exact mj_aldw_m (fun _ _ _ h => ih _ _ _ _ _ _ _ h) u
      case bastore =>
        obtain ⟨z, t, rfl, u⟩ := mj_i1_e h
        rcases u with u | ⟨hz, u⟩
        · exact Or.inl (mj_aldw_m (fun _ _ _ h => ih _ _ _ _ _ _ _ h) u)
        · exact Or.inr ⟨hz, mj_aldw_m (fun _ _ _ h => ih _ _ _ _ _ _ _ h) u⟩
      case aastore =>
        obtain ⟨z, t, rfl, u⟩ := mj_r1_e h
        exact mj_aldw_m (k := fun a i st => (∀ b, z = some b → mj_hd aux = 6 ∧ mj_is G b 7 fun _ _ => True) ∧ mj_x mcs C full Q K n rest L st G (mj_p2 M a i z) cb sb) (k' := fun a i st => (∀ b, z = some b → mj_hd aux = 6 ∧ mj_is G b 7 fun _ _ => True) ∧ mj_x mcs C full Q' K' n rest L st G (mj_p2 M a i z) cb sb) (fun _ _ _ h => ⟨h.1, ih _ _ _ _ _ _ _ h.2⟩) u
      case arraylength =>
        obtain ⟨a, t, rfl, tt, k, j, h1, h2, h3, h4, u⟩ := mj_a1_e h
        exact ⟨tt, k, j, h1, h2, h3, h4, ih _ _ _ _ _ _ _ u⟩
      case newarray a =>
        obtain ⟨z, t, rfl, h1, h2, h3, h4, tt, h5, u⟩ := mj_i1_e h
        exact ⟨h1, h2, h3, h4, tt, h5, fun a ha => ih _ _ _ _ _ _ _ (u a ha)⟩
      case anewarray a =>
        obtain ⟨z, t, rfl, h1, h2, h3, h4, tt, h5, u⟩ := mj_i1_e h
        exact ⟨h1, h2, h3, h4, tt, h5, fun a ha => ih _ _ _ _ _ _ _ (u a ha)⟩
      case multianewarray a b =>
        obtain ⟨z, t, rfl, u⟩ := mj_i1_e h
        obtain ⟨y, t, rfl, h1, h2, h3, h4, h5, h6, t1, t2, h7, h8, u⟩ := mj_i1_e u
        exact ⟨h1, h2, h3, h4, h5, h6, t1, t2, h7, h8, fun a ha => ih _ _ _ _ _ _ _ (u a ha)⟩
      case new k =>
        obtain ⟨h0, h1, h2, t, ht, u⟩ : aux ≠ [] ∧ 1 ≤ cb ∧ mj_h1 aux ≤ sb ∧ ∃ t, t % 1000 = mj_hd aux + 1 ∧ mj_new G M t 0 fun a G M => mj_x mcs C full Q K n rest L (.inr (.inr (some a)) :: st) G M (cb - 1) (sb - mj_h1 aux) := h
        exact ⟨h0, h1, h2, t, ht, fun a ha => ih _ _ _ _ _ _ _ (u a ha)⟩
      case invokevirtual k =>
        exact ⟨h.1, mj_pop_m _ _ _ (fun As t h => mj_a1_m (fun a t h => by
            obtain ⟨tt, nn, h1, h2, h3, h4, h5, h6⟩ := h
            exact ⟨tt, nn, h1, h2, h3, h4, h5, hC _ _ _ _ _ _ (fun r G M h => ih _ _ _ _ _ _ _ h) h6⟩) h) h.2⟩
      case invokestatic k =>
        match aux, h with
        | [f, u], h => exact mj_lib_m (k := fun st M => mj_x mcs C full Q K n rest L st G M cb sb) (k' := fun st M => mj_x mcs C full Q' K' n rest L st G M cb sb) (fun _ _ h => ih _ _ _ _ _ _ _ h) h
        | [], h => exact absurd rfl h.1
        | [a], h => exact ⟨h.1, mj_pop_m _ _ _ (fun As t h => ⟨h.1, h.2.1, h.2.2.1, hC _ _ _ _ _ _ (fun r G M h => ih _ _ _ _ _ _ _ h) h.2.2.2⟩) h.2⟩
        | a :: b :: d :: aux, h => exact ⟨h.1, mj_pop_m _ _ _ (fun As t h => ⟨h.1, h.2.1, h.2.2.1, hC _ _ _ _ _ _ (fun r G M h => ih _ _ _ _ _ _ _ h) h.2.2.2⟩) h.2⟩
      case invokespecial k =>
        match aux, h with
        | [], h => exact mj_a1_m (fun _ _ h => ⟨h.1, ih _ _ _ _ _ _ _ h.2⟩) h
        | y :: aux, h => exact mj_pop_m _ _ _ (fun As t h => mj_a1_m (fun a t h => by
            obtain ⟨tt, nn, h1, h2, h3, h4, h5, h6⟩ := h
            exact ⟨tt, nn, h1, h2, h3, h4, h5, hC _ _ _ _ _ _ (fun r G M h => ih _ _ _ _ _ _ _ h) h6⟩) h) h
      case ireturn =>
        exact mj_i1_m (fun _ _ h => ⟨h.1, h.2.1, hQ _ _ _ h.2.2⟩) h
      case return_ =>
        exact ⟨h.1, hQ _ _ _ h.2⟩
      all_goals exact h
section MJW
variable {mcs : Nat → Nat × Nat} {C : mj_C} {full : List mj_E} {Q Q' : mj_P} {rest : List mj_E} {L : mj_L} {st : List mj_V} {G : mj_G} {M : mj_M} {cb sb : Nat}
theorem mj_W.step (hC : mj_mo C) (h : mj_x mcs C full Q (mj_W mcs C full Q) 1 rest L st G M cb sb) : mj_W mcs C full Q rest L st G M cb sb := by
  intro K hK
  exact hK _ _ _ _ _ _ _ (mj_x_m hC (fun _ _ _ h => h) (fun _ _ _ _ _ _ _ h => h K hK) 1 _ _ _ _ _ _ _ h)
theorem mj_W.out (hC : mj_mo C) (h : mj_W mcs C full Q rest L st G M cb sb) : mj_x mcs C full Q (mj_W mcs C full Q) 1 rest L st G M cb sb := by
  refine h (fun rest L st G M cb sb => mj_x mcs C full Q (mj_W mcs C full Q) 1 rest L st G M cb sb) (fun rest L st G M cb sb h => ?_)
  exact mj_x_m hC (fun _ _ _ h => h) (fun _ _ _ _ _ _ _ h => mj_W.step hC h) 1 _ _ _ _ _ _ _ h
theorem mj_x_1n {K : mj_S} (n : Nat) (h : mj_x mcs C full Q K (n + 1) rest L st G M cb sb) : mj_x mcs C full Q (fun rest L st G M cb sb => mj_x mcs C full Q K n rest L st G M cb sb) 1 rest L st G M cb sb := by
  cases rest with
  | nil => exact h
  | cons x rest => exact h
theorem mj_x_n1 {K : mj_S} (n : Nat) (h : mj_x mcs C full Q (fun rest L st G M cb sb => mj_x mcs C full Q K n rest L st G M cb sb) 1 rest L st G M cb sb) : mj_x mcs C full Q K (n + 1) rest L st G M cb sb := by
  cases rest with
  | nil => exact h
  | cons x rest => exact h
theorem mj_W.run (hC : mj_mo C) : ∀ (n : Nat) {rest : List mj_E} {L : mj_L} {st : List mj_V} {G : mj_G} {M : mj_M} {cb sb : Nat}, mj_x mcs C full Q (mj_W mcs C full Q) n rest L st G M cb sb → mj_W mcs C full Q rest L st G M cb sb
  | 0, _, _, _, _, _, _, _, h => h
  | n + 1, _, _, _, _, _, _, _, h => mj_W.step hC (mj_x_m hC (fun _ _ _ h => h) (fun _ _ _ _ _ _ _ h => mj_W.run hC n h) 1 _ _ _ _ _ _ _ (mj_x_1n n h))
theorem mj_W.stay (hC : mj_mo C) : ∀ (n : Nat) {rest : List mj_E} {L : mj_L} {st : List mj_V} {G : mj_G} {M : mj_M} {cb sb : Nat}, mj_W mcs C full Q rest L st G M cb sb → mj_x mcs C full Q (mj_W mcs C full Q) n rest L st G M cb sb
  | 0, _, _, _, _, _, _, _, h => h
  | n + 1, _, _, _, _, _, _, _, h => mj_x_n1 n (mj_x_m hC (fun _ _ _ h => h) (fun _ _ _ _ _ _ _ h => mj_W.stay hC n h) 1 _ _ _ _ _ _ _ (mj_W.out hC h))
theorem mj_W.imp (hC : mj_mo C) (hQ : ∀ r G M, Q r G M → Q' r G M) (h : mj_W mcs C full Q rest L st G M cb sb) : mj_W mcs C full Q' rest L st G M cb sb := by
  refine h (mj_W mcs C full Q') (fun rest L st G M cb sb h => mj_W.step hC ?_)
  exact mj_x_m hC hQ (fun _ _ _ _ _ _ _ h => h) 1 _ _ _ _ _ _ _ h
end MJW
theorem mj_R_mo (T : Nat → mj_T) : ∀ d, mj_mo (mj_R T d)
  | 0 => fun _ _ _ _ _ _ _ h => h
  | d + 1 => fun _ _ _ _ _ _ hR h => ⟨h.1, mj_W.imp (mj_R_mo T d) hR h.2⟩
end
section
/-! ===== the methods' lists, laid by a program ===== -/
set_option maxRecDepth 100000 in
def mt_X0_init : mj_T := (yX0_init, cX0_init, 1, none, [(.aload_n 0, 0, [], 0), (.invokespecial 3, 1, [], 0), (.aload_n 0, 4, [], 0), (.bipush 12, 5, [], 0), (.newarray .int, 7, [0, 1], 0), (.putfield 9, 9, [0, 0, 2], 0), (.aload_n 0, 12, [], 0), (.iconst 0, 13, [], 0), (.putfield 15, 14, [0, 1, 3], 0), (.aload_n 0, 17, [], 0), (.iconst 0, 18, [], 0), (.putfield 19, 19, [0, 2, 4], 0), (.aload_n 0, 22, [], 0), (.iconst (-1), 23, [], 0), (.putfield 23, 24, [0, 3, 5], 0), (.aload_n 0, 27, [], 0), (.iconst (-1), 28, [], 0), (.putfield 26, 29, [0, 4, 6], 0), (.aload_n 0, 32, [], 0), (.iconst 0, 33, [], 0), (.putfield 29, 34, [0, 5, 7], 0), (.aload_n 0, 37, [], 0), (.iconst 0, 38, [], 0), (.putfield 32, 39, [0, 6, 8], 0), (.aload_n 0, 42, [], 0), (.iconst 3, 43, [], 0), (.newarray .int, 44, [0, 1], 0), (.putfield 35, 46, [0, 7, 9], 0), (.aload_n 0, 49, [], 0), (.iconst 3, 50, [], 0), (.newarray .int, 51, [0, 1], 0), (.putfield 38, 53, [0, 8, 10], 0), (.aload_n 0, 56, [], 0), (.iconst 3, 57, [], 0), (.bipush 12, 58, [], 0), (.multianewarray 41 2, 60, [11], 0), (.putfield 43, 64, [0, 9, 12], 0), (.aload_n 0, 67, [], 0), (.iconst 3, 68, [], 0), (.bipush 13, 69, [], 0), (.multianewarray 41 2, 71, [11], 0), (.putfield 46, 75, [0, 10, 13], 0), (.aload_n 0, 78, [], 0), (.bipush 13, 79, [], 0), (.newarray .int, 81, [0, 1], 0), (.putfield 49, 83, [0, 11, 14], 0), (.aload_n 0, 86, [], 0), (.iconst 3, 87, [], 0), (.bipush 81, 88, [], 0), (.multianewarray 41 2, 90, [11], 0), (.putfield 52, 94, [0, 12, 15], 0), (.aload_n 0, 97, [], 0), (.bipush 81, 98, [], 0), (.newarray .int, 100, [0, 1], 0), (.putfield 55, 102, [0, 13, 16], 0), (.aload_n 0, 105, [], 0), (.bipush 81, 106, [], 0), (.newarray .int, 108, [0, 1], 0), (.putfield 58, 110, [0, 14, 17], 0), (.aload_n 0, 113, [], 0), (.iconst 0, 114, [], 0), (.putfield 61, 115, [0, 15, 18], 0), (.aload_n 0, 118, [], 0), (.bipush 12, 119, [], 0), (.newarray .int, 121, [0, 1], 0), (.putfield 64, 123, [0, 16, 19], 0), (.aload_n 0, 126, [], 0), (.bipush 12, 127, [], 0), (.newarray .int, 129, [0, 1], 0), (.putfield 67, 131, [0, 17, 20], 0), (.aload_n 0, 134, [], 0), (.iconst 0, 135, [], 0), (.putfield 70, 136, [0, 18, 21], 0), (.return_, 139, [], 0)], (2, 0, 0), (20, 544))
set_option maxRecDepth 100000 in
def mt_X1_clear : mj_T := (yX1_clear, cX1_clear, 2, none, [(.iconst 0, 0, [], 0), (.istore_n 1, 1, [], 0), (.iload_n 1, 2, [], 0), (.bipush 12, 3, [], 0), (.if_icmp .ge 30, 5, [22], 0), (.aload_n 0, 8, [], 0), (.getfield 9, 9, [1, 0, 22], 0), (.iload_n 1, 12, [], 0), (.iconst (-1), 13, [], 0), (.iastore, 14, [], 0), (.aload_n 0, 15, [], 0), (.getfield 15, 16, [1, 1, 23], 0), (.iload_n 1, 19, [], 0), (.iconst (-1), 20, [], 0), (.iastore, 21, [], 0), (.aload_n 0, 22, [], 0), (.getfield 18, 23, [1, 2, 24], 0), (.iload_n 1, 26, [], 0), (.iconst 0, 27, [], 0), (.iastore, 28, [], 0), (.iinc 1 1, 29, [], 0), (.goto (-30), 32, [2], 0), (.aload_n 0, 35, [], 0), (.iconst 0, 36, [], 0), (.putfield 21, 37, [1, 3, 25], 0), (.return_, 40, [], 0)], (0, 1, 0), (0, 0))
set_option maxRecDepth 100000 in
def mt_X1_copy : mj_T := (yX1_copy, cX1_copy, 2, none, [(.aload_n 1, 0, [], 0), (.getfield 9, 1, [1, 0, 22], 0), (.iconst 0, 4, [], 0), (.aload_n 0, 5, [], 0), (.getfield 9, 6, [1, 0, 22], 0), (.iconst 0, 9, [], 0), (.bipush 12, 10, [], 0), (.invokestatic 28, 12, [3, 26], 0), (.aload_n 1, 15, [], 0), (.getfield 15, 16, [1, 1, 23], 0), (.iconst 0, 19, [], 0), (.aload_n 0, 20, [], 0), (.getfield 15, 21, [1, 1, 23], 0), (.iconst 0, 24, [], 0), (.bipush 12, 25, [], 0), (.invokestatic 28, 27, [3, 26], 0), (.aload_n 1, 30, [], 0), (.getfield 18, 31, [1, 2, 24], 0), (.iconst 0, 34, [], 0), (.aload_n 0, 35, [], 0), (.getfield 18, 36, [1, 2, 24], 0), (.iconst 0, 39, [], 0), (.bipush 12, 40, [], 0), (.invokestatic 28, 42, [3, 26], 0), (.aload_n 0, 45, [], 0), (.aload_n 1, 46, [], 0), (.getfield 21, 47, [1, 3, 25], 0), (.putfield 21, 50, [1, 3, 25], 0), (.return_, 53, [], 0)], (0, 1, 1), (0, 0))
set_option maxRecDepth 100000 in
def mt_X1_init : mj_T := (yX1_init, cX1_init, 1, none, [(.aload_n 0, 0, [], 0), (.invokespecial 3, 1, [], 27), (.aload_n 0, 4, [], 0), (.bipush 12, 5, [], 0), (.newarray .int, 7, [0, 1], 0), (.putfield 9, 9, [1, 0, 22], 0), (.aload_n 0, 12, [], 0), (.bipush 12, 13, [], 0), (.newarray .int, 15, [0, 1], 0), (.putfield 15, 17, [1, 1, 23], 0), (.aload_n 0, 20, [], 0), (.bipush 12, 21, [], 0), (.newarray .int, 23, [0, 1], 0), (.putfield 18, 25, [1, 2, 24], 0), (.aload_n 0, 28, [], 0), (.iconst 0, 29, [], 0), (.putfield 21, 30, [1, 3, 25], 0), (.aload_n 0, 33, [], 0), (.invokevirtual 25, 34, [1, 0, 1, 28], 0), (.return_, 37, [], 0)], (2, 1, 0), (3, 36))
set_option maxRecDepth 100000 in
def mt_X1_readRows : mj_T := (yX1_readRows, cX1_readRows, 4, none, [(.aload_n 1, 0, [], 0), (.invokevirtual 34, 1, [23, 0, 7, 29], 0), (.iconst 0, 4, [], 0), (.istore_n 3, 5, [], 0), (.iload_n 3, 6, [], 0), (.bipush 12, 7, [], 0), (.if_icmp .gt 39, 9, [24], 0), (.aload_n 1, 12, [], 0), (.getfield 39, 13, [7, 4, 30], 0), (.ifCond .eq 32, 16, [24], 0), (.aload_n 0, 19, [], 0), (.aload_n 1, 20, [], 0), (.aload_n 2, 21, [], 0), (.invokevirtual 42, 22, [], 0), (.ifCond .eq 12, 25, [19], 0), (.aload_n 1, 28, [], 0), (.bipush 59, 29, [], 0), (.invokevirtual 46, 31, [], 0), (.ifCond .ne 4, 34, [20], 0), (.return_, 37, [], 0), (.aload_n 1, 38, [], 0), (.invokevirtual 34, 39, [23, 0, 7, 29], 0), (.iinc 3 1, 42, [], 0), (.goto (-39), 45, [4], 0), (.aload_n 1, 48, [], 0), (.invokevirtual 50, 49, [24, 0, 7, 31], 0), (.pop, 52, [], 0), (.return_, 53, [], 0)], (0, 1, 2), (0, 0))
set_option maxRecDepth 100000 in
def mt_X1_tells : mj_T := (yX1_tells, cX1_tells, 2, (some .boolean), [(.aload_n 0, 0, [], 0), (.getfield 9, 1, [1, 0, 22], 0), (.iload_n 1, 4, [], 0), (.iaload, 5, [], 0), (.iconst (-1), 6, [], 0), (.if_icmp .eq 7, 7, [8], 0), (.iconst 1, 10, [], 0), (.goto 4, 11, [9], 0), (.iconst 0, 14, [], 0), (.ireturn, 15, [], 1)], (0, 1, 1), (0, 0))
set_option maxRecDepth 100000 in
def mt_X2_init : mj_T := (yX2_init, cX2_init, 1, none, [(.aload_n 0, 0, [], 0), (.invokespecial 3, 1, [], 32), (.aload_n 0, 4, [], 0), (.bipush 40, 5, [], 0), (.iconst 3, 7, [], 0), (.multianewarray 11 2, 8, [33], 0), (.putfield 13, 12, [2, 0, 34], 0), (.aload_n 0, 15, [], 0), (.iconst 0, 16, [], 0), (.putfield 16, 17, [2, 1, 35], 0), (.aload_n 0, 20, [], 0), (.iconst 0, 21, [], 0), (.putfield 20, 22, [2, 2, 36], 0), (.aload_n 0, 25, [], 0), (.bipush 12, 26, [], 0), (.newarray .boolean, 28, [2, 37], 0), (.putfield 23, 30, [2, 3, 38], 0), (.aload_n 0, 33, [], 0), (.bipush 12, 34, [], 0), (.bipush 8, 36, [], 0), (.multianewarray 11 2, 38, [33], 0), (.putfield 27, 42, [2, 4, 39], 0), (.aload_n 0, 45, [], 0), (.iconst 0, 46, [], 0), (.putfield 30, 47, [2, 5, 40], 0), (.aload_n 0, 50, [], 0), (.new 33, 51, [9, 15, 41, 42, 43], 0), (.dup, 54, [], 0), (.invokespecial 35, 55, [34, 0, 9, 44], 0), (.putfield 36, 58, [2, 6, 45], 0), (.aload_n 0, 61, [], 0), (.new 33, 62, [9, 15, 41, 42, 43], 0), (.dup, 65, [], 0), (.invokespecial 35, 66, [34, 0, 9, 44], 0), (.putfield 40, 69, [2, 7, 46], 0), (.return_, 72, [], 0)], (2, 2, 0), (81, 574))
set_option maxRecDepth 100000 in
def mt_X2_readLevels : mj_T := (yX2_readLevels, cX2_readLevels, 8, (some .boolean), [(.iconst 1, 0, [], 0), (.iconst 2, 1, [], 0), (.iload_n 2, 2, [], 0), (.imul, 3, [], 0), (.iadd, 4, [], 0), (.istore_n 3, 5, [], 0), (.iconst 0, 6, [], 0), (.istore 4, 7, [], 0), (.iload 4, 9, [], 0), (.bipush 12, 11, [], 0), (.if_icmp .ge 17, 13, [18], 0), (.aload_n 0, 16, [], 0), (.getfield 23, 17, [2, 3, 38], 0), (.iload 4, 20, [], 0), (.iconst 0, 22, [], 0), (.bastore, 23, [], 0), (.iinc 4 1, 24, [], 0), (.goto (-18), 27, [8], 0), (.aload_n 0, 30, [], 0), (.iconst (-1), 31, [], 0), (.putfield 30, 32, [2, 5, 40], 0), (.iconst 0, 35, [], 0), (.istore 4, 36, [], 0), (.iload 4, 38, [], 0), (.aload_n 1, 40, [], 0), (.getfield 43, 41, [7, 1, 64], 0), (.if_icmp .ge 125, 44, [94], 0), (.iload 4, 47, [], 0), (.iload_n 3, 49, [], 0), (.iadd, 50, [], 0), (.aload_n 1, 51, [], 0), (.getfield 43, 52, [7, 1, 64], 0), (.if_icmp .gt 114, 55, [94], 0), (.aload_n 1, 58, [], 0), (.iload 4, 59, [], 0), (.invokevirtual 48, 61, [], 0), (.istore 5, 64, [], 0), (.iload 5, 66, [], 0), (.aload_n 0, 68, [], 0), (.getfield 30, 69, [2, 5, 40], 0), (.if_icmp .le 10, 72, [44], 0), (.iload 5, 75, [], 0), (.bipush 12, 77, [], 0), (.if_icmp .lt 5, 79, [46], 0), (.iconst 0, 82, [], 0), (.ireturn, 83, [], 1), (.iconst 0, 84, [], 0), (.istore 6, 85, [], 0), (.iload 6, 87, [], 0), (.iload_n 2, 89, [], 0), (.if_icmp .ge 56, 90, [81], 0), (.iload 6, 93, [], 0), (.bipush 8, 95, [], 0), (.if_icmp .ge 49, 97, [81], 0), (.iload 4, 100, [], 0), (.iconst 1, 102, [], 0), (.iadd, 103, [], 0), (.iconst 2, 104, [], 0), (.iload 6, 105, [], 0), (.imul, 107, [], 0), (.iadd, 108, [], 0), (.istore 7, 109, [], 0), (.aload_n 0, 111, [], 0), (.getfield 27, 112, [2, 4, 39], 0), (.iload 5, 115, [], 0), (.aaload, 117, [4], 0), (.iload 6, 118, [], 0), (.aload_n 1, 120, [], 0), (.iload 7, 121, [], 0), (.invokevirtual 48, 123, [], 0), (.sipush 256, 126, [], 0), (.imul, 129, [], 0), (.aload_n 1, 130, [], 0), (.iload 7, 131, [], 0), (.iconst 1, 133, [], 0), (.iadd, 134, [], 0), (.invokevirtual 48, 135, [], 0), (.iadd, 138, [], 0), (.iastore, 139, [], 0), (.iinc 6 1, 140, [], 0), (.goto (-56), 143, [48], 0), (.aload_n 0, 146, [], 0), (.getfield 23, 147, [2, 3, 38], 0), (.iload 5, 150, [], 0), (.iconst 1, 152, [], 0), (.bastore, 153, [], 0), (.aload_n 0, 154, [], 0), (.iload 5, 155, [], 0), (.putfield 30, 157, [2, 5, 40], 0), (.iload 4, 160, [], 0), (.iload_n 3, 162, [], 0), (.iadd, 163, [], 0), (.istore 4, 164, [], 0), (.goto (-128), 166, [23], 0), (.aload_n 0, 169, [], 0), (.getfield 30, 170, [2, 5, 40], 0), (.iconst (-1), 173, [], 0), (.if_icmp .eq 16, 174, [104], 0), (.iload 4, 177, [], 0), (.aload_n 1, 179, [], 0), (.getfield 43, 180, [7, 1, 64], 0), (.if_icmp .ne 7, 183, [104], 0), (.iconst 1, 186, [], 0), (.goto 4, 187, [105], 0), (.iconst 0, 190, [], 0), (.ireturn, 191, [], 1)], (0, 2, 2), (0, 0))
set_option maxRecDepth 100000 in
def mt_X3_clear : mj_T := (yX3_clear, cX3_clear, 3, none, [(.iconst 0, 0, [], 0), (.istore_n 1, 1, [], 0), (.iload_n 1, 2, [], 0), (.bipush 8, 3, [], 0), (.if_icmp .ge 69, 5, [45], 0), (.aload_n 0, 8, [], 0), (.getfield 9, 9, [3, 0, 65], 0), (.iload_n 1, 12, [], 0), (.lconst 0, 13, [], 0), (.lastore, 14, [], 0), (.aload_n 0, 15, [], 0), (.getfield 46, 16, [3, 10, 66], 0), (.iload_n 1, 19, [], 0), (.iconst 0, 20, [], 0), (.iastore, 21, [], 0), (.iconst 0, 22, [], 0), (.istore_n 2, 23, [], 0), (.iload_n 2, 24, [], 0), (.bipush 9, 25, [], 0), (.if_icmp .ge 18, 27, [29], 0), (.aload_n 0, 30, [], 0), (.getfield 17, 31, [3, 1, 67], 0), (.iload_n 1, 34, [], 0), (.aaload, 35, [4], 0), (.iload_n 2, 36, [], 0), (.iconst 0, 37, [], 0), (.iastore, 38, [], 0), (.iinc 2 1, 39, [], 0), (.goto (-18), 42, [17], 0), (.iconst 0, 45, [], 0), (.istore_n 2, 46, [], 0), (.iload_n 2, 47, [], 0), (.bipush 12, 48, [], 0), (.if_icmp .ge 18, 50, [43], 0), (.aload_n 0, 53, [], 0), (.getfield 20, 54, [3, 2, 68], 0), (.iload_n 1, 57, [], 0), (.aaload, 58, [4], 0), (.iload_n 2, 59, [], 0), (.iconst 0, 60, [], 0), (.iastore, 61, [], 0), (.iinc 2 1, 62, [], 0), (.goto (-18), 65, [31], 0), (.iinc 1 1, 68, [], 0), (.goto (-69), 71, [2], 0), (.iconst 0, 74, [], 0), (.istore_n 1, 75, [], 0), (.iload_n 1, 76, [], 0), (.bipush 12, 77, [], 0), (.if_icmp .ge 16, 79, [57], 0), (.aload_n 0, 82, [], 0), (.getfield 23, 83, [3, 3, 69], 0), (.iload_n 1, 86, [], 0), (.iconst 0, 87, [], 0), (.iastore, 88, [], 0), (.iinc 1 1, 89, [], 0), (.goto (-16), 92, [47], 0), (.aload_n 0, 95, [], 0), (.iconst 0, 96, [], 0), (.putfield 27, 97, [3, 4, 70], 0), (.aload_n 0, 100, [], 0), (.iconst 0, 101, [], 0), (.putfield 31, 102, [3, 5, 71], 0), (.aload_n 0, 105, [], 0), (.iconst 0, 106, [], 0), (.putfield 34, 107, [3, 6, 72], 0), (.aload_n 0, 110, [], 0), (.iconst 0, 111, [], 0), (.putfield 37, 112, [3, 7, 73], 0), (.aload_n 0, 115, [], 0), (.iconst 3, 116, [], 0), (.putfield 40, 117, [3, 8, 74], 0), (.aload_n 0, 120, [], 0), (.iconst 0, 121, [], 0), (.putfield 49, 122, [3, 11, 75], 0), (.aload_n 0, 125, [], 0), (.iconst 0, 126, [], 0), (.putfield 52, 127, [3, 12, 76], 0), (.aload_n 0, 130, [], 0), (.iconst 0, 131, [], 0), (.putfield 56, 132, [3, 13, 77], 0), (.aload_n 0, 135, [], 0), (.iconst 0, 136, [], 0), (.putfield 59, 137, [3, 14, 78], 0), (.return_, 140, [], 0)], (0, 3, 0), (0, 0))
set_option maxRecDepth 100000 in
def mt_X3_copy : mj_T := (yX3_copy, cX3_copy, 3, none, [(.aload_n 1, 0, [], 0), (.getfield 9, 1, [3, 0, 65], 0), (.iconst 0, 4, [], 0), (.aload_n 0, 5, [], 0), (.getfield 9, 6, [3, 0, 65], 0), (.iconst 0, 9, [], 0), (.bipush 8, 10, [], 0), (.invokestatic 62, 12, [4, 79], 0), (.iconst 0, 15, [], 0), (.istore_n 2, 16, [], 0), (.iload_n 2, 17, [], 0), (.bipush 8, 18, [], 0), (.if_icmp .ge 47, 20, [39], 0), (.aload_n 1, 23, [], 0), (.getfield 17, 24, [3, 1, 67], 0), (.iload_n 2, 27, [], 0), (.aaload, 28, [4], 0), (.iconst 0, 29, [], 0), (.aload_n 0, 30, [], 0), (.getfield 17, 31, [3, 1, 67], 0), (.iload_n 2, 34, [], 0), (.aaload, 35, [4], 0), (.iconst 0, 36, [], 0), (.bipush 9, 37, [], 0), (.invokestatic 62, 39, [3, 79], 0), (.aload_n 1, 42, [], 0), (.getfield 20, 43, [3, 2, 68], 0), (.iload_n 2, 46, [], 0), (.aaload, 47, [4], 0), (.iconst 0, 48, [], 0), (.aload_n 0, 49, [], 0), (.getfield 20, 50, [3, 2, 68], 0), (.iload_n 2, 53, [], 0), (.aaload, 54, [4], 0), (.iconst 0, 55, [], 0), (.bipush 12, 56, [], 0), (.invokestatic 62, 58, [3, 79], 0), (.iinc 2 1, 61, [], 0), (.goto (-47), 64, [10], 0), (.aload_n 1, 67, [], 0), (.getfield 23, 68, [3, 3, 69], 0), (.iconst 0, 71, [], 0), (.aload_n 0, 72, [], 0), (.getfield 23, 73, [3, 3, 69], 0), (.iconst 0, 76, [], 0), (.bipush 12, 77, [], 0), (.invokestatic 62, 79, [3, 79], 0), (.aload_n 0, 82, [], 0), (.aload_n 1, 83, [], 0), (.getfield 27, 84, [3, 4, 70], 0), (.putfield 27, 87, [3, 4, 70], 0), (.aload_n 0, 90, [], 0), (.aload_n 1, 91, [], 0), (.getfield 31, 92, [3, 5, 71], 0), (.putfield 31, 95, [3, 5, 71], 0), (.aload_n 0, 98, [], 0), (.aload_n 1, 99, [], 0), (.getfield 34, 100, [3, 6, 72], 0), (.putfield 34, 103, [3, 6, 72], 0), (.aload_n 0, 106, [], 0), (.aload_n 1, 107, [], 0), (.getfield 37, 108, [3, 7, 73], 0), (.putfield 37, 111, [3, 7, 73], 0), (.aload_n 0, 114, [], 0), (.aload_n 1, 115, [], 0), (.getfield 40, 116, [3, 8, 74], 0), (.putfield 40, 119, [3, 8, 74], 0), (.aload_n 0, 122, [], 0), (.aload_n 1, 123, [], 0), (.getfield 43, 124, [3, 9, 80], 0), (.putfield 43, 127, [3, 9, 80], 0), (.return_, 130, [], 0)], (0, 3, 1), (0, 0))
set_option maxRecDepth 100000 in
def mt_X3_init : mj_T := (yX3_init, cX3_init, 1, none, [(.aload_n 0, 0, [], 0), (.invokespecial 3, 1, [], 81), (.aload_n 0, 4, [], 0), (.bipush 8, 5, [], 0), (.newarray .long, 7, [3, 82], 0), (.putfield 9, 9, [3, 0, 65], 0), (.aload_n 0, 12, [], 0), (.bipush 8, 13, [], 0), (.bipush 9, 15, [], 0), (.multianewarray 15 2, 17, [83], 0), (.putfield 17, 21, [3, 1, 67], 0), (.aload_n 0, 24, [], 0), (.bipush 8, 25, [], 0), (.bipush 12, 27, [], 0), (.multianewarray 15 2, 29, [83], 0), (.putfield 20, 33, [3, 2, 68], 0), (.aload_n 0, 36, [], 0), (.bipush 12, 37, [], 0), (.newarray .int, 39, [0, 1], 0), (.putfield 23, 41, [3, 3, 69], 0), (.aload_n 0, 44, [], 0), (.iconst 0, 45, [], 0), (.putfield 27, 46, [3, 4, 70], 0), (.aload_n 0, 49, [], 0), (.iconst 0, 50, [], 0), (.putfield 31, 51, [3, 5, 71], 0), (.aload_n 0, 54, [], 0), (.iconst 0, 55, [], 0), (.putfield 34, 56, [3, 6, 72], 0), (.aload_n 0, 59, [], 0), (.iconst 0, 60, [], 0), (.putfield 37, 61, [3, 7, 73], 0), (.aload_n 0, 64, [], 0), (.iconst 3, 65, [], 0), (.putfield 40, 66, [3, 8, 74], 0), (.aload_n 0, 69, [], 0), (.iconst 0, 70, [], 0), (.putfield 43, 71, [3, 9, 80], 0), (.aload_n 0, 74, [], 0), (.bipush 8, 75, [], 0), (.newarray .int, 77, [0, 1], 0), (.putfield 46, 79, [3, 10, 66], 0), (.aload_n 0, 82, [], 0), (.iconst 0, 83, [], 0), (.putfield 49, 84, [3, 11, 75], 0), (.aload_n 0, 87, [], 0), (.iconst 0, 88, [], 0), (.putfield 52, 89, [3, 12, 76], 0), (.aload_n 0, 92, [], 0), (.iconst 0, 93, [], 0), (.putfield 56, 94, [3, 13, 77], 0), (.aload_n 0, 97, [], 0), (.iconst 0, 98, [], 0), (.putfield 59, 99, [3, 14, 78], 0), (.return_, 102, [], 0)], (2, 3, 0), (21, 212))
set_option maxRecDepth 100000 in
def mt_X3_readRows : mj_T := (yX3_readRows, cX3_readRows, 3, (some .int), [(.iconst 0, 0, [], 0), (.istore_n 2, 1, [], 0), (.aload_n 1, 2, [], 0), (.invokevirtual 74, 3, [23, 0, 7, 84], 0), (.aload_n 1, 6, [], 0), (.getfield 79, 7, [7, 4, 85], 0), (.ifCond .eq 39, 10, [24], 0), (.iload_n 2, 13, [], 0), (.sipush 940, 14, [], 0), (.if_icmp .ge 32, 17, [24], 0), (.aload_n 0, 20, [], 0), (.aload_n 1, 21, [], 0), (.invokevirtual 82, 22, [], 0), (.ifCond .eq 12, 25, [18], 0), (.aload_n 1, 28, [], 0), (.bipush 59, 29, [], 0), (.invokevirtual 86, 31, [], 0), (.ifCond .ne 5, 34, [20], 0), (.iload_n 2, 37, [], 0), (.ireturn, 38, [], 0), (.iinc 2 1, 39, [], 0), (.aload_n 1, 42, [], 0), (.invokevirtual 74, 43, [23, 0, 7, 84], 0), (.goto (-40), 46, [4], 0), (.aload_n 1, 49, [], 0), (.invokevirtual 90, 50, [24, 0, 7, 86], 0), (.pop, 53, [], 0), (.iload_n 2, 54, [], 0), (.ireturn, 55, [], 0)], (0, 3, 1), (0, 0))
set_option maxRecDepth 100000 in
def mt_X4_init : mj_T := (yX4_init, cX4_init, 1, none, [(.aload_n 0, 0, [], 0), (.invokespecial 3, 1, [], 87), (.aload_n 0, 4, [], 0), (.iconst 0, 5, [], 0), (.putfield 9, 6, [4, 0, 88], 0), (.aload_n 0, 9, [], 0), (.bipush 8, 10, [], 0), (.newarray .int, 12, [0, 1], 0), (.putfield 15, 14, [4, 1, 89], 0), (.aload_n 0, 17, [], 0), (.bipush 12, 18, [], 0), (.newarray .int, 20, [0, 1], 0), (.putfield 19, 22, [4, 2, 90], 0), (.aload_n 0, 25, [], 0), (.bipush 12, 26, [], 0), (.newarray .int, 28, [0, 1], 0), (.putfield 22, 30, [4, 3, 91], 0), (.return_, 33, [], 0)], (2, 4, 0), (3, 32))
set_option maxRecDepth 100000 in
def mt_X5_begins : mj_T := (yX5_begins, cX5_begins, 1, (some .boolean), [(.aload_n 0, 0, [], 0), (.ifnull 35, 1, [16], 0), (.aload_n 0, 4, [], 0), (.getstatic 83, 5, [], 0), (.if_acmp .eq 24, 8, [14], 0), (.aload_n 0, 11, [], 0), (.getstatic 86, 12, [], 0), (.if_acmp .eq 17, 15, [14], 0), (.aload_n 0, 18, [], 0), (.getstatic 89, 19, [], 0), (.if_acmp .eq 10, 22, [14], 0), (.aload_n 0, 25, [], 0), (.invokevirtual 96, 26, [], 0), (.ifCond .eq 7, 29, [16], 0), (.iconst 1, 32, [], 0), (.goto 4, 33, [17], 0), (.iconst 0, 36, [], 0), (.ireturn, 37, [], 1)], (1, 5, 1), (0, 0))
set_option maxRecDepth 100000 in
def mt_X5_clear : mj_T := (yX5_clear, cX5_clear, 1, none, [(.aload_n 0, 0, [], 0), (.iconst 0, 1, [], 0), (.putfield 28, 2, [5, 4, 92], 0), (.aload_n 0, 5, [], 0), (.iconst 0, 6, [], 0), (.putfield 32, 7, [5, 5, 93], 0), (.return_, 10, [], 0)], (0, 5, 0), (0, 0))
set_option maxRecDepth 100000 in
def mt_X5_copy : mj_T := (yX5_copy, cX5_copy, 3, none, [(.iconst 0, 0, [], 0), (.istore_n 2, 1, [], 0), (.iload_n 2, 2, [], 0), (.bipush 40, 3, [], 0), (.if_icmp .ge 45, 5, [31], 0), (.aload_n 0, 8, [], 0), (.getfield 13, 9, [5, 0, 94], 0), (.iload_n 2, 12, [], 0), (.aload_n 1, 13, [], 0), (.getfield 13, 14, [5, 0, 94], 0), (.iload_n 2, 17, [], 0), (.aaload, 18, [5], 0), (.aastore, 19, [5], 0), (.aload_n 0, 20, [], 0), (.getfield 17, 21, [5, 1, 95], 0), (.iload_n 2, 24, [], 0), (.aload_n 1, 25, [], 0), (.getfield 17, 26, [5, 1, 95], 0), (.iload_n 2, 29, [], 0), (.iaload, 30, [], 0), (.iastore, 31, [], 0), (.aload_n 0, 32, [], 0), (.getfield 21, 33, [5, 2, 96], 0), (.iload_n 2, 36, [], 0), (.aload_n 1, 37, [], 0), (.getfield 21, 38, [5, 2, 96], 0), (.iload_n 2, 41, [], 0), (.iaload, 42, [], 0), (.iastore, 43, [], 0), (.iinc 2 1, 44, [], 0), (.goto (-45), 47, [2], 0), (.aload_n 0, 50, [], 0), (.aload_n 1, 51, [], 0), (.getfield 28, 52, [5, 4, 92], 0), (.putfield 28, 55, [5, 4, 92], 0), (.aload_n 0, 58, [], 0), (.aload_n 1, 59, [], 0), (.getfield 32, 60, [5, 5, 93], 0), (.putfield 32, 63, [5, 5, 93], 0), (.return_, 66, [], 0)], (0, 5, 1), (0, 0))
set_option maxRecDepth 100000 in
def mt_X5_init : mj_T := (yX5_init, cX5_init, 1, none, [(.aload_n 0, 0, [], 0), (.invokespecial 5, 1, [], 97), (.aload_n 0, 4, [], 0), (.bipush 40, 5, [], 0), (.anewarray 11, 7, [5, 98], 0), (.putfield 13, 10, [5, 0, 94], 0), (.aload_n 0, 13, [], 0), (.bipush 40, 14, [], 0), (.newarray .int, 16, [0, 1], 0), (.putfield 17, 18, [5, 1, 95], 0), (.aload_n 0, 21, [], 0), (.bipush 40, 22, [], 0), (.newarray .int, 24, [0, 1], 0), (.putfield 21, 26, [5, 2, 96], 0), (.aload_n 0, 29, [], 0), (.bipush 40, 30, [], 0), (.newarray .boolean, 32, [2, 37], 0), (.putfield 24, 34, [5, 3, 99], 0), (.aload_n 0, 37, [], 0), (.iconst 0, 38, [], 0), (.putfield 28, 39, [5, 4, 92], 0), (.aload_n 0, 42, [], 0), (.iconst 0, 43, [], 0), (.putfield 32, 44, [5, 5, 93], 0), (.return_, 47, [], 0)], (2, 5, 0), (4, 160))
set_option maxRecDepth 100000 in
def mt_X5_readAll : mj_T := (yX5_readAll, cX5_readAll, 4, (some .boolean), [(.aload_n 0, 0, [], 0), (.aload_n 1, 1, [], 0), (.iload_n 2, 2, [], 0), (.invokevirtual 62, 3, [19, 2, 5, 100], 0), (.ifCond .ne 5, 6, [7], 0), (.iconst 0, 9, [], 0), (.ireturn, 10, [], 1), (.iconst 0, 11, [], 0), (.istore_n 3, 12, [], 0), (.iload_n 3, 13, [], 0), (.bipush 20, 14, [], 0), (.if_icmp .ge 44, 16, [33], 0), (.aload_n 1, 19, [], 0), (.getfield 51, 20, [7, 9, 101], 0), (.getstatic 65, 23, [], 0), (.if_acmp .ne 34, 26, [33], 0), (.aload_n 1, 29, [], 0), (.invokevirtual 35, 30, [23, 0, 7, 102], 0), (.aload_n 0, 33, [], 0), (.aload_n 1, 34, [], 0), (.iload_n 2, 35, [], 0), (.invokevirtual 62, 36, [19, 2, 5, 100], 0), (.ifCond .ne 5, 39, [25], 0), (.iconst 0, 42, [], 0), (.ireturn, 43, [], 1), (.aload_n 0, 44, [], 0), (.getstatic 65, 45, [], 0), (.iconst 0, 48, [], 0), (.iconst 0, 49, [], 0), (.invokevirtual 58, 50, [], 0), (.pop, 53, [], 0), (.iinc 3 1, 54, [], 0), (.goto (-44), 57, [9], 0), (.iconst 1, 60, [], 0), (.ireturn, 61, [], 1)], (0, 5, 2), (0, 0))
set_option maxRecDepth 100000 in
def mt_X5_readCond : mj_T := (yX5_readCond, cX5_readCond, 4, (some .boolean), [(.aload_n 0, 0, [], 0), (.aload_n 1, 1, [], 0), (.iload_n 2, 2, [], 0), (.invokevirtual 48, 3, [17, 2, 5, 103], 0), (.ifCond .ne 5, 6, [7], 0), (.iconst 0, 9, [], 0), (.ireturn, 10, [], 1), (.iconst 0, 11, [], 0), (.istore_n 3, 12, [], 0), (.iload_n 3, 13, [], 0), (.bipush 20, 14, [], 0), (.if_icmp .ge 44, 16, [33], 0), (.aload_n 1, 19, [], 0), (.getfield 51, 20, [7, 9, 101], 0), (.getstatic 55, 23, [], 0), (.if_acmp .ne 34, 26, [33], 0), (.aload_n 1, 29, [], 0), (.invokevirtual 35, 30, [23, 0, 7, 102], 0), (.aload_n 0, 33, [], 0), (.aload_n 1, 34, [], 0), (.iload_n 2, 35, [], 0), (.invokevirtual 48, 36, [17, 2, 5, 103], 0), (.ifCond .ne 5, 39, [25], 0), (.iconst 0, 42, [], 0), (.ireturn, 43, [], 1), (.aload_n 0, 44, [], 0), (.getstatic 55, 45, [], 0), (.iconst 0, 48, [], 0), (.iconst 0, 49, [], 0), (.invokevirtual 58, 50, [], 0), (.pop, 53, [], 0), (.iinc 3 1, 54, [], 0), (.goto (-44), 57, [9], 0), (.iconst 1, 60, [], 0), (.ireturn, 61, [], 1)], (0, 5, 2), (0, 0))
set_option maxRecDepth 100000 in
def mt_X5_readOne : mj_T := (yX5_readOne, cX5_readOne, 5, (some .boolean), [(.aload_n 1, 0, [], 0), (.getfield 51, 1, [7, 9, 101], 0), (.astore_n 3, 4, [], 0), (.aload_n 1, 5, [], 0), (.bipush 40, 6, [], 0), (.invokevirtual 68, 8, [27, 1, 7, 104], 0), (.istore 4, 11, [], 0), (.iload 4, 13, [], 0), (.ifCond .ne 16, 15, [16], 0), (.aload_n 3, 18, [], 0), (.invokestatic 72, 19, [13, 1, 5, 105], 0), (.ifCond .ne 9, 22, [16], 0), (.aload_n 1, 25, [], 0), (.iconst 1, 26, [], 0), (.invokevirtual 76, 27, [30, 1, 7, 106], 0), (.ireturn, 30, [], 1), (.aload_n 0, 31, [], 0), (.getfield 32, 32, [5, 5, 93], 0), (.bipush 20, 35, [], 0), (.if_icmp .ge 9, 37, [23], 0), (.iload_n 2, 40, [], 0), (.bipush 8, 41, [], 0), (.if_icmp .le 9, 43, [27], 0), (.aload_n 1, 46, [], 0), (.iconst 4, 47, [], 0), (.invokevirtual 76, 48, [30, 1, 7, 106], 0), (.ireturn, 51, [], 1), (.aload_n 0, 52, [], 0), (.dup, 53, [], 0), (.getfield 32, 54, [5, 5, 93], 0), (.iconst 1, 57, [], 0), (.iadd, 58, [], 0), (.putfield 32, 59, [5, 5, 93], 0), (.aload_n 1, 62, [], 0), (.invokevirtual 35, 63, [23, 0, 7, 102], 0), (.iload 4, 66, [], 0), (.ifCond .eq 28, 68, [52], 0), (.aload_n 0, 71, [], 0), (.aload_n 1, 72, [], 0), (.iload_n 2, 73, [], 0), (.iconst 1, 74, [], 0), (.iadd, 75, [], 0), (.invokevirtual 40, 76, [18, 2, 5, 107], 0), (.ifCond .eq 15, 79, [50], 0), (.aload_n 0, 82, [], 0), (.aload_n 1, 83, [], 0), (.invokevirtual 79, 84, [], 0), (.ifCond .eq 7, 87, [50], 0), (.iconst 1, 90, [], 0), (.goto 4, 91, [51], 0), (.iconst 0, 94, [], 0), (.ireturn, 95, [], 1), (.aload_n 3, 96, [], 0), (.getstatic 83, 97, [], 0), (.if_acmp .ne 32, 100, [72], 0), (.aload_n 0, 103, [], 0), (.aload_n 1, 104, [], 0), (.iload_n 2, 105, [], 0), (.iconst 1, 106, [], 0), (.iadd, 107, [], 0), (.invokevirtual 62, 108, [19, 2, 5, 100], 0), (.ifCond .eq 19, 111, [70], 0), (.aload_n 0, 114, [], 0), (.getstatic 83, 115, [], 0), (.iconst 0, 118, [], 0), (.iconst 0, 119, [], 0), (.invokevirtual 58, 120, [], 0), (.ifCond .eq 7, 123, [70], 0), (.iconst 1, 126, [], 0), (.goto 4, 127, [71], 0), (.iconst 0, 130, [], 0), (.ireturn, 131, [], 1), (.aload_n 3, 132, [], 0), (.getstatic 86, 133, [], 0), (.if_acmp .eq 10, 136, [78], 0), (.aload_n 3, 139, [], 0), (.getstatic 89, 140, [], 0), (.if_acmp .ne 11, 143, [84], 0), (.aload_n 0, 146, [], 0), (.aload_n 3, 147, [], 0), (.iconst 0, 148, [], 0), (.iconst 0, 149, [], 0), (.invokevirtual 58, 150, [], 0), (.ireturn, 153, [], 1), (.aload_n 0, 154, [], 0), (.aload_n 1, 155, [], 0), (.aload_n 3, 156, [], 0), (.invokevirtual 92, 157, [], 0), (.ireturn, 160, [], 1)], (0, 5, 2), (0, 0))
set_option maxRecDepth 100000 in
def mt_X5_readText : mj_T := (yX5_readText, cX5_readText, 2, none, [(.aload_n 1, 0, [], 0), (.invokevirtual 35, 1, [23, 0, 7, 102], 0), (.aload_n 0, 4, [], 0), (.aload_n 1, 5, [], 0), (.iconst 1, 6, [], 0), (.invokevirtual 40, 7, [18, 2, 5, 107], 0), (.ifCond .eq 8, 10, [10], 0), (.aload_n 1, 13, [], 0), (.invokevirtual 44, 14, [24, 0, 7, 108], 0), (.pop, 17, [], 0), (.return_, 18, [], 0)], (0, 5, 1), (0, 0))
set_option maxRecDepth 100000 in
def mt_X6_copy : mj_T := (yX6_copy, cX6_copy, 2, none, [(.aload_n 0, 0, [], 0), (.getfield 10, 1, [6, 0, 109], 0), (.aload_n 1, 4, [], 0), (.getfield 10, 5, [6, 0, 109], 0), (.invokevirtual 37, 8, [9, 1, 3, 110], 0), (.aload_n 0, 11, [], 0), (.getfield 19, 12, [6, 1, 111], 0), (.aload_n 1, 15, [], 0), (.getfield 19, 16, [6, 1, 111], 0), (.invokevirtual 41, 19, [2, 1, 1, 112], 0), (.aload_n 0, 22, [], 0), (.getfield 26, 23, [6, 2, 113], 0), (.aload_n 1, 26, [], 0), (.getfield 26, 27, [6, 2, 113], 0), (.invokevirtual 44, 30, [15, 1, 5, 114], 0), (.aload_n 0, 33, [], 0), (.getfield 33, 34, [6, 3, 115], 0), (.aload_n 1, 37, [], 0), (.getfield 33, 38, [6, 3, 115], 0), (.invokevirtual 47, 41, [33, 1, 9, 116], 0), (.return_, 44, [], 0)], (0, 6, 1), (0, 0))
set_option maxRecDepth 100000 in
def mt_X6_init : mj_T := (yX6_init, cX6_init, 1, none, [(.aload_n 0, 0, [], 0), (.invokespecial 1, 1, [], 117), (.aload_n 0, 4, [], 0), (.new 7, 5, [3, 15, 118, 119, 120], 0), (.dup, 8, [], 0), (.invokespecial 9, 9, [10, 0, 3, 121], 0), (.putfield 10, 12, [6, 0, 109], 0), (.aload_n 0, 15, [], 0), (.new 16, 16, [1, 4, 122, 123, 124], 0), (.dup, 19, [], 0), (.invokespecial 18, 20, [3, 0, 1, 125], 0), (.putfield 19, 23, [6, 1, 111], 0), (.aload_n 0, 26, [], 0), (.new 23, 27, [5, 6, 126, 127, 128], 0), (.dup, 30, [], 0), (.invokespecial 25, 31, [16, 0, 5, 129], 0), (.putfield 26, 34, [6, 2, 113], 0), (.aload_n 0, 37, [], 0), (.new 30, 38, [9, 15, 130, 42, 43], 0), (.dup, 41, [], 0), (.invokespecial 32, 42, [34, 0, 9, 131], 0), (.putfield 33, 45, [6, 3, 115], 0), (.return_, 48, [], 0)], (2, 6, 0), (44, 580))
set_option maxRecDepth 100000 in
def mt_X7_advance : mj_T := (yX7_advance, cX7_advance, 2, none, [(.aload_n 0, 0, [], 0), (.getfield 15, 1, [7, 1, 132], 0), (.aload_n 0, 4, [], 0), (.getfield 45, 5, [7, 10, 133], 0), (.invokestatic 51, 8, [1, 134], 0), (.istore_n 1, 11, [], 0), (.aload_n 0, 12, [], 0), (.getfield 48, 13, [7, 11, 135], 0), (.iload_n 1, 16, [], 0), (.if_icmp .ge 42, 17, [29], 0), (.aload_n 0, 20, [], 0), (.aload_n 0, 21, [], 0), (.getfield 48, 22, [7, 11, 135], 0), (.invokevirtual 57, 25, [], 0), (.bipush 32, 28, [], 0), (.if_icmp .eq 16, 30, [22], 0), (.aload_n 0, 33, [], 0), (.aload_n 0, 34, [], 0), (.getfield 48, 35, [7, 11, 135], 0), (.invokevirtual 57, 38, [], 0), (.bipush 10, 41, [], 0), (.if_icmp .ne 16, 43, [29], 0), (.aload_n 0, 46, [], 0), (.dup, 47, [], 0), (.getfield 48, 48, [7, 11, 135], 0), (.iconst 1, 51, [], 0), (.iadd, 52, [], 0), (.putfield 48, 53, [7, 11, 135], 0), (.goto (-44), 56, [6], 0), (.aload_n 0, 59, [], 0), (.aconst_null, 60, [], 0), (.putfield 41, 61, [7, 9, 136], 0), (.aload_n 0, 64, [], 0), (.lconst 0, 65, [], 0), (.putfield 37, 66, [7, 8, 137], 0), (.aload_n 0, 69, [], 0), (.iconst 0, 70, [], 0), (.putfield 31, 71, [7, 6, 138], 0), (.aload_n 0, 74, [], 0), (.iconst 0, 75, [], 0), (.putfield 34, 76, [7, 7, 139], 0), (.aload_n 0, 79, [], 0), (.getfield 48, 80, [7, 11, 135], 0), (.iload_n 1, 83, [], 0), (.if_icmp .lt 14, 84, [52], 0), (.aload_n 0, 87, [], 0), (.iconst 0, 88, [], 0), (.putfield 25, 89, [7, 4, 140], 0), (.aload_n 0, 92, [], 0), (.iload_n 1, 93, [], 0), (.putfield 28, 94, [7, 5, 141], 0), (.return_, 97, [], 0), (.aload_n 0, 98, [], 0), (.aload_n 0, 99, [], 0), (.getfield 48, 100, [7, 11, 135], 0), (.putfield 28, 103, [7, 5, 141], 0), (.aload_n 0, 106, [], 0), (.aload_n 0, 107, [], 0), (.getfield 48, 108, [7, 11, 135], 0), (.invokevirtual 57, 111, [], 0), (.invokestatic 61, 114, [], 0), (.ifCond .ne 17, 117, [68], 0), (.aload_n 0, 120, [], 0), (.aload_n 0, 121, [], 0), (.getfield 48, 122, [7, 11, 135], 0), (.invokevirtual 57, 125, [], 0), (.invokestatic 65, 128, [], 0), (.ifCond .eq 10, 131, [71], 0), (.aload_n 0, 134, [], 0), (.invokevirtual 68, 135, [], 0), (.goto 30, 138, [86], 0), (.aload_n 0, 141, [], 0), (.iconst 3, 142, [], 0), (.putfield 25, 143, [7, 4, 140], 0), (.aload_n 0, 146, [], 0), (.aload_n 0, 147, [], 0), (.aload_n 0, 148, [], 0), (.getfield 48, 149, [7, 11, 135], 0), (.invokevirtual 57, 152, [], 0), (.putfield 34, 155, [7, 7, 139], 0), (.aload_n 0, 158, [], 0), (.dup, 159, [], 0), (.getfield 48, 160, [7, 11, 135], 0), (.iconst 1, 163, [], 0), (.iadd, 164, [], 0), (.putfield 48, 165, [7, 11, 135], 0), (.return_, 168, [], 0)], (0, 7, 0), (0, 0))
set_option maxRecDepth 100000 in
def mt_X7_finish : mj_T := (yX7_finish, cX7_finish, 1, (some .boolean), [(.aload_n 0, 0, [], 0), (.getfield 25, 1, [7, 4, 140], 0), (.ifCond .ne 14, 4, [8], 0), (.aload_n 0, 7, [], 0), (.getfield 15, 8, [7, 1, 132], 0), (.aload_n 0, 11, [], 0), (.getfield 45, 12, [7, 10, 133], 0), (.if_icmp .le 11, 15, [12], 0), (.aload_n 0, 18, [], 0), (.iconst 1, 19, [], 0), (.invokevirtual 77, 20, [30, 1, 7, 142], 0), (.ifCond .eq 7, 23, [14], 0), (.iconst 1, 26, [], 0), (.goto 4, 27, [15], 0), (.iconst 0, 30, [], 0), (.ireturn, 31, [], 1)], (0, 7, 0), (0, 0))
set_option maxRecDepth 100000 in
def mt_X7_hasRoom : mj_T := (yX7_hasRoom, cX7_hasRoom, 1, (some .boolean), [(.aload_n 0, 0, [], 0), (.getfield 15, 1, [7, 1, 132], 0), (.bipush 20, 4, [], 0), (.iadd, 6, [], 0), (.sipush 940, 7, [], 0), (.if_icmp .gt 7, 10, [8], 0), (.iconst 1, 13, [], 0), (.goto 4, 14, [9], 0), (.iconst 0, 17, [], 0), (.ireturn, 18, [], 1)], (0, 7, 0), (0, 0))
set_option maxRecDepth 100000 in
def mt_X7_init : mj_T := (yX7_init, cX7_init, 1, none, [(.aload_n 0, 0, [], 0), (.invokespecial 3, 1, [], 143), (.aload_n 0, 4, [], 0), (.sipush 940, 5, [], 0), (.newarray .byte, 8, [1, 144], 0), (.putfield 11, 10, [7, 0, 145], 0), (.aload_n 0, 13, [], 0), (.iconst 0, 14, [], 0), (.putfield 15, 15, [7, 1, 132], 0), (.aload_n 0, 18, [], 0), (.iconst 0, 19, [], 0), (.putfield 19, 20, [7, 2, 146], 0), (.aload_n 0, 23, [], 0), (.iconst 0, 24, [], 0), (.putfield 22, 25, [7, 3, 147], 0), (.aload_n 0, 28, [], 0), (.iconst 0, 29, [], 0), (.putfield 25, 30, [7, 4, 140], 0), (.aload_n 0, 33, [], 0), (.iconst 0, 34, [], 0), (.putfield 28, 35, [7, 5, 141], 0), (.aload_n 0, 38, [], 0), (.iconst 0, 39, [], 0), (.putfield 31, 40, [7, 6, 138], 0), (.aload_n 0, 43, [], 0), (.iconst 0, 44, [], 0), (.putfield 34, 45, [7, 7, 139], 0), (.aload_n 0, 48, [], 0), (.lconst 0, 49, [], 0), (.putfield 37, 50, [7, 8, 137], 0), (.aload_n 0, 53, [], 0), (.aconst_null, 54, [], 0), (.putfield 41, 55, [7, 9, 136], 0), (.aload_n 0, 58, [], 0), (.iconst 0, 59, [], 0), (.putfield 45, 60, [7, 10, 133], 0), (.aload_n 0, 63, [], 0), (.iconst 0, 64, [], 0), (.putfield 48, 65, [7, 11, 135], 0), (.return_, 68, [], 0)], (2, 7, 0), (1, 940))
set_option maxRecDepth 100000 in
def mt_X7_isSign : mj_T := (yX7_isSign, cX7_isSign, 2, (some .boolean), [(.aload_n 0, 0, [], 0), (.getfield 25, 1, [7, 4, 140], 0), (.iconst 3, 4, [], 0), (.if_icmp .ne 15, 5, [10], 0), (.aload_n 0, 8, [], 0), (.getfield 34, 9, [7, 7, 139], 0), (.iload_n 1, 12, [], 0), (.if_icmp .ne 7, 13, [10], 0), (.iconst 1, 16, [], 0), (.goto 4, 17, [11], 0), (.iconst 0, 20, [], 0), (.ireturn, 21, [], 1)], (0, 7, 1), (0, 0))
set_option maxRecDepth 100000 in
def mt_X7_open : mj_T := (yX7_open, cX7_open, 2, none, [(.aload_n 0, 0, [], 0), (.iload_n 1, 1, [], 0), (.putfield 45, 2, [7, 10, 133], 0), (.aload_n 0, 5, [], 0), (.iconst 0, 6, [], 0), (.putfield 48, 7, [7, 11, 135], 0), (.aload_n 0, 10, [], 0), (.iconst 0, 11, [], 0), (.putfield 19, 12, [7, 2, 146], 0), (.aload_n 0, 15, [], 0), (.iconst 0, 16, [], 0), (.putfield 22, 17, [7, 3, 147], 0), (.return_, 20, [], 0)], (0, 7, 1), (0, 0))
set_option maxRecDepth 100000 in
def mt_X7_put : mj_T := (yX7_put, cX7_put, 3, none, [(.bipush 24, 0, [], 0), (.istore_n 2, 2, [], 0), (.iload_n 2, 3, [], 0), (.ifCond .lt 42, 4, [25], 0), (.aload_n 0, 7, [], 0), (.getfield 15, 8, [7, 1, 132], 0), (.sipush 940, 11, [], 0), (.if_icmp .ge 32, 14, [25], 0), (.aload_n 0, 17, [], 0), (.getfield 11, 18, [7, 0, 145], 0), (.aload_n 0, 21, [], 0), (.getfield 15, 22, [7, 1, 132], 0), (.iload_n 1, 25, [], 0), (.iload_n 2, 26, [], 0), (.iushr, 27, [], 0), (.i2b, 28, [], 0), (.bastore, 29, [], 0), (.aload_n 0, 30, [], 0), (.dup, 31, [], 0), (.getfield 15, 32, [7, 1, 132], 0), (.iconst 1, 35, [], 0), (.iadd, 36, [], 0), (.putfield 15, 37, [7, 1, 132], 0), (.iinc 2 (-8), 40, [], 0), (.goto (-40), 43, [2], 0), (.return_, 46, [], 0)], (0, 7, 1), (0, 0))
set_option maxRecDepth 100000 in
def mt_X7_refuse : mj_T := (yX7_refuse, cX7_refuse, 2, (some .boolean), [(.aload_n 0, 0, [], 0), (.iload_n 1, 1, [], 0), (.putfield 19, 2, [7, 2, 146], 0), (.aload_n 0, 5, [], 0), (.aload_n 0, 6, [], 0), (.getfield 28, 7, [7, 5, 141], 0), (.putfield 22, 10, [7, 3, 147], 0), (.iconst 0, 13, [], 0), (.ireturn, 14, [], 1)], (0, 7, 1), (0, 0))
set_option maxRecDepth 100000 in
def mt_X8_back : mj_T := (yX8_back, cX8_back, 2, (some .int), [(.aload_n 0, 0, [], 0), (.getfield 21, 1, [8, 3, 148], 0), (.ifCond .gt 5, 4, [5], 0), (.iconst (-1), 7, [], 0), (.ireturn, 8, [], 0), (.aload_n 0, 9, [], 0), (.dup, 10, [], 0), (.getfield 21, 11, [8, 3, 148], 0), (.iconst 1, 14, [], 0), (.isub, 15, [], 0), (.putfield 21, 16, [8, 3, 148], 0), (.aload_n 1, 19, [], 0), (.aload_n 0, 20, [], 0), (.getfield 11, 21, [8, 0, 149], 0), (.aload_n 0, 24, [], 0), (.getfield 21, 25, [8, 3, 148], 0), (.iaload, 28, [], 0), (.aload_n 0, 29, [], 0), (.getfield 15, 30, [8, 1, 150], 0), (.aload_n 0, 33, [], 0), (.getfield 21, 34, [8, 3, 148], 0), (.iaload, 37, [], 0), (.aload_n 0, 38, [], 0), (.getfield 18, 39, [8, 2, 151], 0), (.aload_n 0, 42, [], 0), (.getfield 21, 43, [8, 3, 148], 0), (.iaload, 46, [], 0), (.invokevirtual 31, 47, [], 0), (.aload_n 0, 50, [], 0), (.getfield 21, 51, [8, 3, 148], 0), (.ireturn, 54, [], 0)], (0, 8, 1), (0, 0))
set_option maxRecDepth 100000 in
def mt_X8_init : mj_T := (yX8_init, cX8_init, 1, none, [(.aload_n 0, 0, [], 0), (.invokespecial 3, 1, [], 152), (.aload_n 0, 4, [], 0), (.bipush 8, 5, [], 0), (.newarray .int, 7, [0, 1], 0), (.putfield 11, 9, [8, 0, 149], 0), (.aload_n 0, 12, [], 0), (.bipush 8, 13, [], 0), (.newarray .int, 15, [0, 1], 0), (.putfield 15, 17, [8, 1, 150], 0), (.aload_n 0, 20, [], 0), (.bipush 8, 21, [], 0), (.newarray .int, 23, [0, 1], 0), (.putfield 18, 25, [8, 2, 151], 0), (.aload_n 0, 28, [], 0), (.iconst 0, 29, [], 0), (.putfield 21, 30, [8, 3, 148], 0), (.return_, 33, [], 0)], (2, 8, 0), (3, 24))
set_option maxRecDepth 100000 in
def mt_X10_copy : mj_T := (yX10_copy, cX10_copy, 3, none, [(.aload_n 0, 0, [], 0), (.aload_n 1, 1, [], 0), (.getfield 9, 2, [9, 0, 48], 0), (.putfield 9, 5, [9, 0, 48], 0), (.aload_n 0, 8, [], 0), (.aload_n 1, 9, [], 0), (.getfield 15, 10, [9, 1, 49], 0), (.putfield 15, 13, [9, 1, 49], 0), (.aload_n 0, 16, [], 0), (.aload_n 1, 17, [], 0), (.getfield 19, 18, [9, 2, 50], 0), (.putfield 19, 21, [9, 2, 50], 0), (.aload_n 1, 24, [], 0), (.getfield 22, 25, [9, 3, 51], 0), (.iconst 0, 28, [], 0), (.aload_n 0, 29, [], 0), (.getfield 22, 30, [9, 3, 51], 0), (.iconst 0, 33, [], 0), (.bipush 12, 34, [], 0), (.invokestatic 67, 36, [3, 153], 0), (.aload_n 1, 39, [], 0), (.getfield 26, 40, [9, 4, 52], 0), (.iconst 0, 43, [], 0), (.aload_n 0, 44, [], 0), (.getfield 26, 45, [9, 4, 52], 0), (.iconst 0, 48, [], 0), (.bipush 12, 49, [], 0), (.invokestatic 67, 51, [3, 153], 0), (.aload_n 1, 54, [], 0), (.getfield 29, 55, [9, 5, 53], 0), (.iconst 0, 58, [], 0), (.aload_n 0, 59, [], 0), (.getfield 29, 60, [9, 5, 53], 0), (.iconst 0, 63, [], 0), (.bipush 12, 64, [], 0), (.invokestatic 67, 66, [3, 153], 0), (.iconst 0, 69, [], 0), (.istore_n 2, 70, [], 0), (.iload_n 2, 71, [], 0), (.bipush 8, 72, [], 0), (.if_icmp .ge 28, 74, [55], 0), (.aload_n 1, 77, [], 0), (.getfield 34, 78, [9, 6, 55], 0), (.iload_n 2, 81, [], 0), (.aaload, 82, [4], 0), (.iconst 0, 83, [], 0), (.aload_n 0, 84, [], 0), (.getfield 34, 85, [9, 6, 55], 0), (.iload_n 2, 88, [], 0), (.aaload, 89, [4], 0), (.iconst 0, 90, [], 0), (.bipush 11, 91, [], 0), (.invokestatic 67, 93, [3, 153], 0), (.iinc 2 1, 96, [], 0), (.goto (-28), 99, [38], 0), (.aload_n 0, 102, [], 0), (.aload_n 1, 103, [], 0), (.getfield 37, 104, [9, 7, 56], 0), (.putfield 37, 107, [9, 7, 56], 0), (.aload_n 0, 110, [], 0), (.aload_n 1, 111, [], 0), (.getfield 40, 112, [9, 8, 57], 0), (.putfield 40, 115, [9, 8, 57], 0), (.aload_n 0, 118, [], 0), (.aload_n 1, 119, [], 0), (.getfield 43, 120, [9, 9, 58], 0), (.putfield 43, 123, [9, 9, 58], 0), (.aload_n 0, 126, [], 0), (.aload_n 1, 127, [], 0), (.getfield 46, 128, [9, 10, 59], 0), (.putfield 46, 131, [9, 10, 59], 0), (.aload_n 0, 134, [], 0), (.aload_n 1, 135, [], 0), (.getfield 49, 136, [9, 11, 60], 0), (.putfield 49, 139, [9, 11, 60], 0), (.aload_n 0, 142, [], 0), (.aload_n 1, 143, [], 0), (.getfield 52, 144, [9, 12, 61], 0), (.putfield 52, 147, [9, 12, 61], 0), (.aload_n 0, 150, [], 0), (.aload_n 1, 151, [], 0), (.getfield 55, 152, [9, 13, 62], 0), (.putfield 55, 155, [9, 13, 62], 0), (.aload_n 0, 158, [], 0), (.aload_n 1, 159, [], 0), (.getfield 58, 160, [9, 14, 63], 0), (.putfield 58, 163, [9, 14, 63], 0), (.return_, 166, [], 0)], (0, 9, 1), (0, 0))
set_option maxRecDepth 100000 in
def mt_X10_init : mj_T := (yX10_init, cX10_init, 1, none, [(.aload_n 0, 0, [], 0), (.invokespecial 3, 1, [], 47), (.aload_n 0, 4, [], 0), (.iconst 0, 5, [], 0), (.putfield 9, 6, [9, 0, 48], 0), (.aload_n 0, 9, [], 0), (.iconst 0, 10, [], 0), (.putfield 15, 11, [9, 1, 49], 0), (.aload_n 0, 14, [], 0), (.iconst 0, 15, [], 0), (.putfield 19, 16, [9, 2, 50], 0), (.aload_n 0, 19, [], 0), (.bipush 12, 20, [], 0), (.newarray .int, 22, [0, 1], 0), (.putfield 22, 24, [9, 3, 51], 0), (.aload_n 0, 27, [], 0), (.bipush 12, 28, [], 0), (.newarray .int, 30, [0, 1], 0), (.putfield 26, 32, [9, 4, 52], 0), (.aload_n 0, 35, [], 0), (.bipush 12, 36, [], 0), (.newarray .int, 38, [0, 1], 0), (.putfield 29, 40, [9, 5, 53], 0), (.aload_n 0, 43, [], 0), (.bipush 8, 44, [], 0), (.bipush 11, 46, [], 0), (.multianewarray 32 2, 48, [54], 0), (.putfield 34, 52, [9, 6, 55], 0), (.aload_n 0, 55, [], 0), (.bipush 8, 56, [], 0), (.putfield 37, 58, [9, 7, 56], 0), (.aload_n 0, 61, [], 0), (.iconst 0, 62, [], 0), (.putfield 40, 63, [9, 8, 57], 0), (.aload_n 0, 66, [], 0), (.iconst 0, 67, [], 0), (.putfield 43, 68, [9, 9, 58], 0), (.aload_n 0, 71, [], 0), (.iconst 0, 72, [], 0), (.putfield 46, 73, [9, 10, 59], 0), (.aload_n 0, 76, [], 0), (.iconst 0, 77, [], 0), (.putfield 49, 78, [9, 11, 60], 0), (.aload_n 0, 81, [], 0), (.iconst 0, 82, [], 0), (.putfield 52, 83, [9, 12, 61], 0), (.aload_n 0, 86, [], 0), (.iconst 0, 87, [], 0), (.putfield 55, 88, [9, 13, 62], 0), (.aload_n 0, 91, [], 0), (.iconst 0, 92, [], 0), (.putfield 58, 93, [9, 14, 63], 0), (.return_, 96, [], 0)], (2, 9, 0), (12, 132))
set_option maxRecDepth 100000 in
def mt_X11_begin : mj_T := (yX11_begin, cX11_begin, 1, (some .boolean), [(.aload_n 0, 0, [], 0), (.getfield 19, 1, [10, 1, 154], 0), (.getfield 94, 4, [6, 0, 155], 0), (.getfield 160, 7, [3, 4, 156], 0), (.ifCond .ne 5, 10, [7], 0), (.iconst 0, 13, [], 0), (.ireturn, 14, [], 1), (.aload_n 0, 15, [], 0), (.getfield 19, 16, [10, 1, 154], 0), (.getfield 130, 19, [6, 3, 157], 0), (.aload_n 0, 22, [], 0), (.getfield 19, 23, [10, 1, 154], 0), (.getfield 94, 26, [6, 0, 155], 0), (.invokevirtual 205, 29, [], 0), (.iconst 1, 32, [], 0), (.ireturn, 33, [], 1)], (0, 10, 0), (0, 0))
set_option maxRecDepth 100000 in
def mt_X11_bid : mj_T := (yX11_bid, cX11_bid, 3, (some .int), [(.aload_n 0, 0, [], 0), (.iload_n 1, 1, [], 0), (.invokevirtual 145, 2, [55, 1, 10, 158], 0), (.ifCond .eq 10, 5, [7], 0), (.iload_n 2, 8, [], 0), (.invokestatic 163, 9, [54, 1, 10, 159], 0), (.ifCond .ne 5, 12, [9], 0), (.iconst (-1), 15, [], 0), (.ireturn, 16, [], 0), (.aload_n 0, 17, [], 0), (.getfield 19, 18, [10, 1, 154], 0), (.getfield 94, 21, [6, 0, 155], 0), (.getfield 166, 24, [3, 2, 160], 0), (.iload_n 1, 27, [], 0), (.aaload, 28, [4], 0), (.iload_n 2, 29, [], 0), (.iaload, 30, [], 0), (.ireturn, 31, [], 0)], (0, 10, 2), (0, 0))
set_option maxRecDepth 100000 in
def mt_X11_bidsOf : mj_T := (yX11_bidsOf, cX11_bidsOf, 4, (some .int), [(.aload_n 0, 0, [], 0), (.iload_n 1, 1, [], 0), (.invokevirtual 145, 2, [55, 1, 10, 158], 0), (.ifCond .ne 5, 5, [6], 0), (.iconst (-1), 8, [], 0), (.ireturn, 9, [], 0), (.iconst 0, 10, [], 0), (.istore_n 2, 11, [], 0), (.iconst 0, 12, [], 0), (.istore_n 3, 13, [], 0), (.iload_n 3, 14, [], 0), (.bipush 12, 15, [], 0), (.if_icmp .ge 26, 17, [26], 0), (.iload_n 2, 20, [], 0), (.aload_n 0, 21, [], 0), (.getfield 19, 22, [10, 1, 154], 0), (.getfield 94, 25, [6, 0, 155], 0), (.getfield 166, 28, [3, 2, 160], 0), (.iload_n 1, 31, [], 0), (.aaload, 32, [4], 0), (.iload_n 3, 33, [], 0), (.iaload, 34, [], 0), (.iadd, 35, [], 0), (.istore_n 2, 36, [], 0), (.iinc 3 1, 37, [], 0), (.goto (-26), 40, [10], 0), (.iload_n 2, 43, [], 0), (.ireturn, 44, [], 0)], (0, 10, 1), (0, 0))
set_option maxRecDepth 100000 in
def mt_X11_byteAt : mj_T := (yX11_byteAt, cX11_byteAt, 2, (some .int), [(.iload_n 1, 0, [], 0), (.ifCond .lt 27, 1, [14], 0), (.iload_n 1, 4, [], 0), (.aload_n 0, 5, [], 0), (.getfield 73, 6, [10, 11, 161], 0), (.if_icmp .ge 19, 9, [14], 0), (.iload_n 1, 12, [], 0), (.sipush 300, 13, [], 0), (.if_icmp .ge 12, 16, [14], 0), (.aload_n 0, 19, [], 0), (.getfield 69, 20, [10, 10, 162], 0), (.iload_n 1, 23, [], 0), (.baload, 24, [], 0), (.goto 4, 25, [15], 0), (.iconst (-1), 28, [], 0), (.ireturn, 29, [], 0)], (0, 10, 1), (0, 0))
set_option maxRecDepth 100000 in
def mt_X11_cheapest : mj_T := (yX11_cheapest, cX11_cheapest, 1, (some .int), [(.aload_n 0, 0, [], 0), (.getfield 19, 1, [10, 1, 154], 0), (.getfield 94, 4, [6, 0, 155], 0), (.getfield 160, 7, [3, 4, 156], 0), (.ifCond .eq 17, 10, [11], 0), (.aload_n 0, 13, [], 0), (.getfield 19, 14, [10, 1, 154], 0), (.getfield 94, 17, [6, 0, 155], 0), (.getfield 160, 20, [3, 4, 156], 0), (.iconst 3, 23, [], 0), (.if_icmp .le 6, 24, [13], 0), (.bipush (-2), 27, [], 0), (.ireturn, 29, [], 0), (.aload_n 0, 30, [], 0), (.getfield 44, 31, [10, 6, 163], 0), (.aload_n 0, 34, [], 0), (.getfield 19, 35, [10, 1, 154], 0), (.getfield 94, 38, [6, 0, 155], 0), (.invokevirtual 231, 41, [], 0), (.ireturn, 44, [], 0)], (0, 10, 0), (0, 0))
set_option maxRecDepth 100000 in
def mt_X11_closeTape : mj_T := (yX11_closeTape, cX11_closeTape, 2, (some .int), [(.aload_n 0, 0, [], 0), (.getfield 10, 1, [10, 0, 164], 0), (.iconst 0, 4, [], 0), (.putfield 91, 5, [7, 1, 165], 0), (.aload_n 0, 8, [], 0), (.aload_n 0, 9, [], 0), (.getfield 10, 10, [10, 0, 164], 0), (.getfield 110, 13, [7, 2, 166], 0), (.putfield 77, 16, [10, 12, 167], 0), (.aload_n 0, 19, [], 0), (.getfield 77, 20, [10, 12, 167], 0), (.ifCond .ne 7, 23, [14], 0), (.iload_n 1, 26, [], 0), (.goto 12, 27, [19], 0), (.iconst (-1), 30, [], 0), (.aload_n 0, 31, [], 0), (.getfield 10, 32, [10, 0, 164], 0), (.getfield 142, 35, [7, 3, 168], 0), (.isub, 38, [], 0), (.ireturn, 39, [], 0)], (0, 10, 1), (0, 0))
set_option maxRecDepth 100000 in
def mt_X11_contract : mj_T := (yX11_contract, cX11_contract, 3, (some .int), [(.iload_n 1, 0, [], 0), (.invokestatic 163, 1, [54, 1, 10, 159], 0), (.ifCond .eq 17, 4, [9], 0), (.aload_n 0, 7, [], 0), (.getfield 19, 8, [10, 1, 154], 0), (.getfield 116, 11, [6, 1, 169], 0), (.iload_n 1, 14, [], 0), (.invokevirtual 193, 15, [5, 1, 1, 170], 0), (.ifCond .ne 5, 18, [11], 0), (.iconst (-1), 21, [], 0), (.ireturn, 22, [], 0), (.iload_n 2, 23, [], 0), (.tableswitch 67 0 2 #[28, 41, 54], 24, [34, 13, 20, 27], 28), (.aload_n 0, 52, [], 0), (.getfield 19, 53, [10, 1, 154], 0), (.getfield 116, 56, [6, 1, 169], 0), (.getfield 196, 59, [1, 0, 171], 0), (.iload_n 1, 62, [], 0), (.iaload, 63, [], 0), (.ireturn, 64, [], 0), (.aload_n 0, 65, [], 0), (.getfield 19, 66, [10, 1, 154], 0), (.getfield 116, 69, [6, 1, 169], 0), (.getfield 199, 72, [1, 1, 172], 0), (.iload_n 1, 75, [], 0), (.iaload, 76, [], 0), (.ireturn, 77, [], 0), (.aload_n 0, 78, [], 0), (.getfield 19, 79, [10, 1, 154], 0), (.getfield 116, 82, [6, 1, 169], 0), (.getfield 202, 85, [1, 2, 173], 0), (.iload_n 1, 88, [], 0), (.iaload, 89, [], 0), (.ireturn, 90, [], 0), (.iconst (-1), 91, [], 0), (.ireturn, 92, [], 0)], (0, 10, 2), (0, 0))
set_option maxRecDepth 100000 in
def mt_X11_contracts : mj_T := (yX11_contracts, cX11_contracts, 2, (some .int), [(.aload_n 0, 0, [], 0), (.getfield 23, 1, [10, 2, 174], 0), (.getfield 116, 4, [6, 1, 169], 0), (.astore_n 1, 7, [], 0), (.aload_n 1, 8, [], 0), (.invokevirtual 120, 9, [1, 0, 1, 175], 0), (.aload_n 0, 12, [], 0), (.getfield 10, 13, [10, 0, 164], 0), (.sipush 400, 16, [], 0), (.invokevirtual 103, 19, [28, 1, 7, 176], 0), (.aload_n 1, 22, [], 0), (.aload_n 0, 23, [], 0), (.getfield 10, 24, [10, 0, 164], 0), (.aload_n 0, 27, [], 0), (.getfield 19, 28, [10, 1, 154], 0), (.getfield 94, 31, [6, 0, 155], 0), (.invokevirtual 187, 34, [4, 2, 1, 177], 0), (.aload_n 0, 37, [], 0), (.getfield 10, 38, [10, 0, 164], 0), (.getfield 110, 41, [7, 2, 166], 0), (.ifCond .ne 25, 44, [31], 0), (.aload_n 0, 47, [], 0), (.getfield 23, 48, [10, 2, 174], 0), (.aload_n 0, 51, [], 0), (.getfield 19, 52, [10, 1, 154], 0), (.getfield 116, 55, [6, 1, 169], 0), (.putfield 116, 58, [6, 1, 169], 0), (.aload_n 0, 61, [], 0), (.getfield 19, 62, [10, 1, 154], 0), (.aload_n 1, 65, [], 0), (.putfield 116, 66, [6, 1, 169], 0), (.aload_n 0, 69, [], 0), (.aload_n 1, 70, [], 0), (.getfield 190, 71, [1, 3, 178], 0), (.invokevirtual 138, 74, [40, 1, 10, 179], 0), (.ireturn, 77, [], 0)], (0, 10, 0), (0, 0))
set_option maxRecDepth 100000 in
def mt_X11_count : mj_T := (yX11_count, cX11_count, 2, (some .int), [(.iload_n 1, 0, [], 0), (.tableswitch 117 0 6 #[43, 54, 65, 76, 87, 98, 109], 1, [36, 2, 7, 12, 17, 22, 27, 32], 43), (.aload_n 0, 44, [], 0), (.getfield 19, 45, [10, 1, 154], 0), (.getfield 94, 48, [6, 0, 155], 0), (.getfield 160, 51, [3, 4, 156], 0), (.ireturn, 54, [], 0), (.aload_n 0, 55, [], 0), (.getfield 19, 56, [10, 1, 154], 0), (.getfield 94, 59, [6, 0, 155], 0), (.getfield 169, 62, [3, 5, 180], 0), (.ireturn, 65, [], 0), (.aload_n 0, 66, [], 0), (.getfield 19, 67, [10, 1, 154], 0), (.getfield 94, 70, [6, 0, 155], 0), (.getfield 340, 73, [3, 6, 181], 0), (.ireturn, 76, [], 0), (.aload_n 0, 77, [], 0), (.getfield 19, 78, [10, 1, 154], 0), (.getfield 94, 81, [6, 0, 155], 0), (.getfield 343, 84, [3, 7, 182], 0), (.ireturn, 87, [], 0), (.aload_n 0, 88, [], 0), (.getfield 19, 89, [10, 1, 154], 0), (.getfield 94, 92, [6, 0, 155], 0), (.getfield 346, 95, [3, 8, 183], 0), (.ireturn, 98, [], 0), (.aload_n 0, 99, [], 0), (.getfield 19, 100, [10, 1, 154], 0), (.getfield 116, 103, [6, 1, 169], 0), (.getfield 190, 106, [1, 3, 178], 0), (.ireturn, 109, [], 0), (.aload_n 0, 110, [], 0), (.getfield 10, 111, [10, 0, 164], 0), (.getfield 91, 114, [7, 1, 165], 0), (.ireturn, 117, [], 0), (.iconst (-1), 118, [], 0), (.ireturn, 119, [], 0)], (0, 10, 1), (0, 0))
set_option maxRecDepth 100000 in
def mt_X11_drawn : mj_T := (yX11_drawn, cX11_drawn, 2, (some .int), [(.aload_n 0, 0, [], 0), (.getfield 19, 1, [10, 1, 154], 0), (.getfield 94, 4, [6, 0, 155], 0), (.getfield 160, 7, [3, 4, 156], 0), (.ifCond .ne 7, 10, [7], 0), (.sipush (-10001), 13, [], 0), (.ireturn, 16, [], 0), (.aload_n 0, 17, [], 0), (.getfield 65, 18, [10, 9, 184], 0), (.aload_n 0, 21, [], 0), (.getfield 19, 22, [10, 1, 154], 0), (.getfield 94, 25, [6, 0, 155], 0), (.invokevirtual 205, 28, [], 0), (.aload_n 0, 31, [], 0), (.getfield 65, 32, [10, 9, 184], 0), (.aload_n 0, 35, [], 0), (.getfield 19, 36, [10, 1, 154], 0), (.getfield 94, 39, [6, 0, 155], 0), (.aload_n 0, 42, [], 0), (.getfield 19, 43, [10, 1, 154], 0), (.getfield 116, 46, [6, 1, 169], 0), (.iload_n 1, 49, [], 0), (.invokevirtual 315, 50, [], 0), (.aload_n 0, 53, [], 0), (.getfield 65, 54, [10, 9, 184], 0), (.getfield 309, 57, [9, 2, 185], 0), (.ireturn, 60, [], 0)], (0, 10, 1), (0, 0))
set_option maxRecDepth 100000 in
def mt_X11_droughts : mj_T := (yX11_droughts, cX11_droughts, 3, (some .int), [(.aload_n 0, 0, [], 0), (.getfield 19, 1, [10, 1, 154], 0), (.getfield 130, 4, [6, 3, 157], 0), (.getfield 133, 7, [9, 0, 186], 0), (.ifCond .ne 5, 10, [7], 0), (.iconst (-1), 13, [], 0), (.ireturn, 14, [], 0), (.iconst 0, 15, [], 0), (.istore_n 1, 16, [], 0), (.iconst 0, 17, [], 0), (.istore_n 2, 18, [], 0), (.iload_n 2, 19, [], 0), (.aload_n 0, 20, [], 0), (.getfield 19, 21, [10, 1, 154], 0), (.getfield 130, 24, [6, 3, 157], 0), (.getfield 209, 27, [9, 1, 187], 0), (.if_icmp .ge 38, 30, [36], 0), (.iload_n 2, 33, [], 0), (.bipush 12, 34, [], 0), (.if_icmp .ge 32, 36, [36], 0), (.aload_n 0, 39, [], 0), (.getfield 19, 40, [10, 1, 154], 0), (.getfield 130, 43, [6, 3, 157], 0), (.getfield 222, 46, [9, 3, 188], 0), (.iload_n 2, 49, [], 0), (.iaload, 50, [], 0), (.bipush 8, 51, [], 0), (.if_icmp .ne 9, 53, [34], 0), (.iload_n 1, 56, [], 0), (.iconst 1, 57, [], 0), (.iload_n 2, 58, [], 0), (.ishl, 59, [], 0), (.ior, 60, [], 0), (.istore_n 1, 61, [], 0), (.iinc 2 1, 62, [], 0), (.goto (-46), 65, [11], 0), (.iload_n 1, 68, [], 0), (.ireturn, 69, [], 0)], (0, 10, 0), (0, 0))
set_option maxRecDepth 100000 in
def mt_X11_end : mj_T := (yX11_end, cX11_end, 2, (some .boolean), [(.iload_n 1, 0, [], 0), (.ifCond .lt 14, 1, [7], 0), (.iload_n 1, 4, [], 0), (.aload_n 0, 5, [], 0), (.getfield 10, 6, [10, 0, 164], 0), (.getfield 91, 9, [7, 1, 165], 0), (.if_icmp .le 5, 12, [9], 0), (.iconst 0, 15, [], 0), (.ireturn, 16, [], 1), (.aload_n 0, 17, [], 0), (.getfield 10, 18, [10, 0, 164], 0), (.iload_n 1, 21, [], 0), (.putfield 91, 22, [7, 1, 165], 0), (.iconst 1, 25, [], 0), (.ireturn, 26, [], 1)], (0, 10, 1), (0, 0))
set_option maxRecDepth 100000 in
def mt_X11_enough : mj_T := (yX11_enough, cX11_enough, 6, (some .int), [(.aload_n 0, 0, [], 0), (.iload_n 1, 1, [], 0), (.invokevirtual 145, 2, [55, 1, 10, 158], 0), (.ifCond .ne 5, 5, [6], 0), (.iconst (-1), 8, [], 0), (.ireturn, 9, [], 0), (.aload_n 0, 10, [], 0), (.getfield 19, 11, [10, 1, 154], 0), (.getfield 94, 14, [6, 0, 155], 0), (.getfield 156, 17, [3, 1, 189], 0), (.iload_n 1, 20, [], 0), (.aaload, 21, [4], 0), (.iconst 4, 22, [], 0), (.iaload, 23, [], 0), (.istore_n 2, 24, [], 0), (.iconst 0, 25, [], 0), (.istore_n 3, 26, [], 0), (.iconst 0, 27, [], 0), (.istore 4, 28, [], 0), (.iload 4, 30, [], 0), (.bipush 12, 32, [], 0), (.if_icmp .gt 55, 34, [53], 0), (.iload_n 2, 37, [], 0), (.ifCond .gt 6, 38, [26], 0), (.iload 4, 41, [], 0), (.ireturn, 43, [], 0), (.aload_n 0, 44, [], 0), (.iload_n 1, 45, [], 0), (.iload_n 3, 46, [], 0), (.invokevirtual 270, 47, [], 0), (.istore 5, 50, [], 0), (.iload 5, 52, [], 0), (.iconst (-1), 54, [], 0), (.if_icmp .ne 5, 55, [36], 0), (.iconst (-1), 58, [], 0), (.ireturn, 59, [], 0), (.iload_n 3, 60, [], 0), (.iconst 1, 61, [], 0), (.iload 5, 62, [], 0), (.ishl, 64, [], 0), (.ior, 65, [], 0), (.istore_n 3, 66, [], 0), (.iload_n 2, 67, [], 0), (.aload_n 0, 68, [], 0), (.getfield 19, 69, [10, 1, 154], 0), (.getfield 94, 72, [6, 0, 155], 0), (.iload_n 1, 75, [], 0), (.iload 5, 76, [], 0), (.invokevirtual 274, 78, [], 0), (.isub, 81, [], 0), (.istore_n 2, 82, [], 0), (.iinc 4 1, 83, [], 0), (.goto (-56), 86, [19], 0), (.iconst (-1), 89, [], 0), (.ireturn, 90, [], 0)], (0, 10, 1), (0, 0))
set_option maxRecDepth 100000 in
def mt_X11_fault : mj_T := (yX11_fault, cX11_fault, 1, (some .int), [(.aload_n 0, 0, [], 0), (.getfield 77, 1, [10, 12, 167], 0), (.ireturn, 4, [], 0)], (0, 10, 0), (0, 0))
set_option maxRecDepth 100000 in
def mt_X11_feed : mj_T := (yX11_feed, cX11_feed, 6, (some .int), [(.aload_n 0, 0, [], 0), (.getfield 10, 1, [10, 0, 164], 0), (.invokevirtual 83, 4, [25, 0, 7, 190], 0), (.ifCond .ne 5, 7, [6], 0), (.iconst (-1), 10, [], 0), (.ireturn, 11, [], 0), (.aload_n 0, 12, [], 0), (.getfield 10, 13, [10, 0, 164], 0), (.iload_n 1, 16, [], 0), (.invokevirtual 87, 17, [29, 1, 7, 191], 0), (.aload_n 0, 20, [], 0), (.getfield 10, 21, [10, 0, 164], 0), (.iload_n 2, 24, [], 0), (.invokevirtual 87, 25, [29, 1, 7, 191], 0), (.aload_n 0, 28, [], 0), (.getfield 10, 29, [10, 0, 164], 0), (.iload_n 3, 32, [], 0), (.invokevirtual 87, 33, [29, 1, 7, 191], 0), (.aload_n 0, 36, [], 0), (.getfield 10, 37, [10, 0, 164], 0), (.iload 4, 40, [], 0), (.invokevirtual 87, 42, [29, 1, 7, 191], 0), (.aload_n 0, 45, [], 0), (.getfield 10, 46, [10, 0, 164], 0), (.iload 5, 49, [], 0), (.invokevirtual 87, 51, [29, 1, 7, 191], 0), (.aload_n 0, 54, [], 0), (.getfield 10, 55, [10, 0, 164], 0), (.getfield 91, 58, [7, 1, 165], 0), (.ireturn, 61, [], 0)], (0, 10, 5), (0, 0))
set_option maxRecDepth 100000 in
def mt_X11_greatest : mj_T := (yX11_greatest, cX11_greatest, 5, (some .int), [(.iload_n 1, 0, [], 0), (.invokestatic 163, 1, [54, 1, 10, 159], 0), (.ifCond .ne 5, 4, [5], 0), (.iconst (-1), 7, [], 0), (.ireturn, 8, [], 0), (.iconst (-1), 9, [], 0), (.istore_n 2, 10, [], 0), (.iconst 0, 11, [], 0), (.istore_n 3, 12, [], 0), (.iconst 0, 13, [], 0), (.istore 4, 14, [], 0), (.iload 4, 16, [], 0), (.aload_n 0, 18, [], 0), (.getfield 19, 19, [10, 1, 154], 0), (.getfield 94, 22, [6, 0, 155], 0), (.getfield 160, 25, [3, 4, 156], 0), (.if_icmp .ge 47, 28, [40], 0), (.aload_n 0, 31, [], 0), (.getfield 19, 32, [10, 1, 154], 0), (.getfield 94, 35, [6, 0, 155], 0), (.getfield 166, 38, [3, 2, 160], 0), (.iload 4, 41, [], 0), (.aaload, 43, [4], 0), (.iload_n 1, 44, [], 0), (.iaload, 45, [], 0), (.iload_n 3, 46, [], 0), (.if_icmp .le 22, 47, [38], 0), (.aload_n 0, 50, [], 0), (.getfield 19, 51, [10, 1, 154], 0), (.getfield 94, 54, [6, 0, 155], 0), (.getfield 166, 57, [3, 2, 160], 0), (.iload 4, 60, [], 0), (.aaload, 62, [4], 0), (.iload_n 1, 63, [], 0), (.iaload, 64, [], 0), (.istore_n 3, 65, [], 0), (.iload 4, 66, [], 0), (.istore_n 2, 68, [], 0), (.iinc 4 1, 69, [], 0), (.goto (-56), 72, [11], 0), (.iload_n 2, 75, [], 0), (.ireturn, 76, [], 0)], (0, 10, 1), (0, 0))
set_option maxRecDepth 100000 in
def mt_X11_has : mj_T := (yX11_has, cX11_has, 2, (some .int), [(.iload_n 1, 0, [], 0), (.ifCond .lt 31, 1, [15], 0), (.iload_n 1, 4, [], 0), (.bipush 8, 5, [], 0), (.if_icmp .ge 25, 7, [15], 0), (.aload_n 0, 10, [], 0), (.getfield 51, 11, [10, 7, 192], 0), (.getfield 251, 14, [4, 0, 193], 0), (.ifCond .eq 15, 17, [15], 0), (.aload_n 0, 20, [], 0), (.getfield 51, 21, [10, 7, 192], 0), (.getfield 252, 24, [4, 1, 194], 0), (.iload_n 1, 27, [], 0), (.iaload, 28, [], 0), (.goto 4, 29, [16], 0), (.iconst (-1), 32, [], 0), (.ireturn, 33, [], 0)], (0, 10, 1), (0, 0))
set_option maxRecDepth 100000 in
def mt_X11_image : mj_T := (yX11_image, cX11_image, 2, (some .boolean), [(.iload_n 1, 0, [], 0), (.ifCond .lt 8, 1, [5], 0), (.iload_n 1, 4, [], 0), (.iconst 2, 5, [], 0), (.if_icmp .lt 5, 6, [7], 0), (.iconst 0, 9, [], 0), (.ireturn, 10, [], 1), (.aload_n 0, 11, [], 0), (.getfield 26, 12, [10, 3, 195], 0), (.iload_n 1, 15, [], 0), (.aaload, 16, [6], 0), (.aload_n 0, 17, [], 0), (.getfield 19, 18, [10, 1, 154], 0), (.invokevirtual 337, 21, [21, 1, 6, 196], 0), (.aload_n 0, 24, [], 0), (.getfield 30, 25, [10, 4, 197], 0), (.iload_n 1, 28, [], 0), (.iconst 1, 29, [], 0), (.bastore, 30, [], 0), (.iconst 1, 31, [], 0), (.ireturn, 32, [], 1)], (0, 10, 1), (0, 0))
set_option maxRecDepth 100000 in
def mt_X11_init : mj_T := (yX11_init, cX11_init, 2, none, [(.aload_n 0, 0, [], 0), (.invokespecial 1, 1, [], 198), (.aload_n 0, 4, [], 0), (.new 7, 5, [7, 12, 199, 200, 201], 0), (.dup, 8, [], 0), (.invokespecial 9, 9, [26, 0, 7, 202], 0), (.putfield 10, 12, [10, 0, 164], 0), (.aload_n 0, 15, [], 0), (.new 16, 16, [6, 4, 203, 204, 205], 0), (.dup, 19, [], 0), (.invokespecial 18, 20, [22, 0, 6, 206], 0), (.putfield 19, 23, [10, 1, 154], 0), (.aload_n 0, 26, [], 0), (.new 16, 27, [6, 4, 203, 204, 205], 0), (.dup, 30, [], 0), (.invokespecial 18, 31, [22, 0, 6, 206], 0), (.putfield 23, 34, [10, 2, 174], 0), (.aload_n 0, 37, [], 0), (.iconst 2, 38, [], 0), (.anewarray 16, 39, [6, 203], 0), (.putfield 26, 42, [10, 3, 195], 0), (.aload_n 0, 45, [], 0), (.iconst 2, 46, [], 0), (.newarray .boolean, 47, [2, 37], 0), (.putfield 30, 49, [10, 4, 197], 0), (.aload_n 0, 52, [], 0), (.new 34, 53, [8, 4, 207, 208, 209], 0), (.dup, 56, [], 0), (.invokespecial 36, 57, [32, 0, 8, 210], 0), (.putfield 37, 60, [10, 5, 211], 0), (.aload_n 0, 63, [], 0), (.new 41, 64, [0, 19, 212, 213, 214], 0), (.dup, 67, [], 0), (.invokespecial 43, 68, [0, 0, 0, 215], 0), (.putfield 44, 71, [10, 6, 163], 0), (.aload_n 0, 74, [], 0), (.new 48, 75, [4, 4, 216, 217, 218], 0), (.dup, 78, [], 0), (.invokespecial 50, 79, [12, 0, 4, 219], 0), (.putfield 51, 82, [10, 7, 192], 0), (.aload_n 0, 85, [], 0), (.new 55, 86, [2, 8, 220, 221, 222], 0), (.dup, 89, [], 0), (.invokespecial 57, 90, [6, 0, 2, 223], 0), (.putfield 58, 93, [10, 8, 224], 0), (.aload_n 0, 96, [], 0), (.new 62, 97, [9, 15, 225, 42, 43], 0), (.dup, 100, [], 0), (.invokespecial 64, 101, [34, 0, 9, 226], 0), (.putfield 65, 104, [10, 9, 184], 0), (.aload_n 0, 107, [], 0), (.sipush 300, 108, [], 0), (.newarray .byte, 111, [1, 144], 0), (.putfield 69, 113, [10, 10, 162], 0), (.aload_n 0, 116, [], 0), (.iconst 0, 117, [], 0), (.putfield 73, 118, [10, 11, 161], 0), (.aload_n 0, 121, [], 0), (.iconst 0, 122, [], 0), (.putfield 77, 123, [10, 12, 167], 0), (.aload_n 0, 126, [], 0), (.iconst 0, 127, [], 0), (.putfield 80, 128, [10, 13, 227], 0), (.iconst 0, 131, [], 0), (.istore_n 1, 132, [], 0), (.iload_n 1, 133, [], 0), (.iconst 2, 134, [], 0), (.if_icmp .ge 22, 135, [77], 0), (.aload_n 0, 138, [], 0), (.getfield 26, 139, [10, 3, 195], 0), (.iload_n 1, 142, [], 0), (.new 16, 143, [6, 4, 203, 204, 205], 0), (.dup, 146, [], 0), (.invokespecial 18, 147, [22, 0, 6, 206], 0), (.aastore, 150, [6], 0), (.iinc 1 1, 151, [], 0), (.goto (-21), 154, [65], 0), (.return_, 157, [], 0)], (2, 10, 0), (309, 4948))
set_option maxRecDepth 100000 in
def mt_X11_isMonth : mj_T := (yX11_isMonth, cX11_isMonth, 1, (some .boolean), [(.iload_n 0, 0, [], 0), (.ifCond .lt 13, 1, [7], 0), (.iload_n 0, 4, [], 0), (.bipush 12, 5, [], 0), (.if_icmp .ge 7, 7, [7], 0), (.iconst 1, 10, [], 0), (.goto 4, 11, [8], 0), (.iconst 0, 14, [], 0), (.ireturn, 15, [], 1)], (1, 10, 1), (0, 0))
set_option maxRecDepth 100000 in
def mt_X11_isTown : mj_T := (yX11_isTown, cX11_isTown, 2, (some .boolean), [(.iload_n 1, 0, [], 0), (.ifCond .lt 21, 1, [10], 0), (.iload_n 1, 4, [], 0), (.aload_n 0, 5, [], 0), (.getfield 19, 6, [10, 1, 154], 0), (.getfield 94, 9, [6, 0, 155], 0), (.getfield 160, 12, [3, 4, 156], 0), (.if_icmp .ge 7, 15, [10], 0), (.iconst 1, 18, [], 0), (.goto 4, 19, [11], 0), (.iconst 0, 22, [], 0), (.ireturn, 23, [], 1)], (0, 10, 1), (0, 0))
set_option maxRecDepth 100000 in
def mt_X11_leak : mj_T := (yX11_leak, cX11_leak, 3, (some .int), [(.iload_n 1, 0, [], 0), (.ifCond .lt 29, 1, [15], 0), (.iload_n 1, 4, [], 0), (.aload_n 0, 5, [], 0), (.getfield 58, 6, [10, 8, 224], 0), (.getfield 265, 9, [2, 1, 228], 0), (.if_icmp .ge 18, 12, [15], 0), (.iload_n 1, 15, [], 0), (.bipush 40, 16, [], 0), (.if_icmp .ge 12, 18, [15], 0), (.iload_n 2, 21, [], 0), (.ifCond .lt 8, 22, [15], 0), (.iload_n 2, 25, [], 0), (.iconst 2, 26, [], 0), (.if_icmp .le 5, 27, [17], 0), (.iconst (-1), 30, [], 0), (.ireturn, 31, [], 0), (.aload_n 0, 32, [], 0), (.getfield 58, 33, [10, 8, 224], 0), (.getfield 267, 36, [2, 0, 229], 0), (.iload_n 1, 39, [], 0), (.aaload, 40, [4], 0), (.iload_n 2, 41, [], 0), (.iaload, 42, [], 0), (.ireturn, 43, [], 0)], (0, 10, 2), (0, 0))
set_option maxRecDepth 100000 in
def mt_X11_leaks : mj_T := (yX11_leaks, cX11_leaks, 2, (some .int), [(.aload_n 0, 0, [], 0), (.getfield 58, 1, [10, 8, 224], 0), (.aload_n 0, 4, [], 0), (.getfield 10, 5, [10, 0, 164], 0), (.aload_n 0, 8, [], 0), (.getfield 19, 9, [10, 1, 154], 0), (.getfield 94, 12, [6, 0, 155], 0), (.getfield 160, 15, [3, 4, 156], 0), (.invokevirtual 258, 18, [7, 2, 2, 230], 0), (.istore_n 1, 21, [], 0), (.aload_n 0, 22, [], 0), (.getfield 10, 23, [10, 0, 164], 0), (.iconst 0, 26, [], 0), (.putfield 91, 27, [7, 1, 165], 0), (.iload_n 1, 30, [], 0), (.ifCond .eq 27, 31, [26], 0), (.aload_n 0, 34, [], 0), (.getfield 58, 35, [10, 8, 224], 0), (.aload_n 0, 38, [], 0), (.getfield 19, 39, [10, 1, 154], 0), (.getfield 94, 42, [6, 0, 155], 0), (.aload_n 0, 45, [], 0), (.getfield 19, 46, [10, 1, 154], 0), (.getfield 116, 49, [6, 1, 169], 0), (.invokevirtual 262, 52, [], 0), (.goto 4, 55, [27], 0), (.iconst (-1), 58, [], 0), (.ireturn, 59, [], 0)], (0, 10, 0), (0, 0))
set_option maxRecDepth 100000 in
def mt_X11_let : mj_T := (yX11_let, cX11_let, 3, (some .int), [(.aload_n 0, 0, [], 0), (.getfield 19, 1, [10, 1, 154], 0), (.getfield 130, 4, [6, 3, 157], 0), (.getfield 133, 7, [9, 0, 186], 0), (.ifCond .eq 24, 10, [14], 0), (.iload_n 1, 13, [], 0), (.invokestatic 163, 14, [54, 1, 10, 159], 0), (.ifCond .eq 17, 17, [14], 0), (.iload_n 1, 20, [], 0), (.aload_n 0, 21, [], 0), (.getfield 19, 22, [10, 1, 154], 0), (.getfield 130, 25, [6, 3, 157], 0), (.getfield 209, 28, [9, 1, 187], 0), (.if_icmp .lt 5, 31, [16], 0), (.iconst (-1), 34, [], 0), (.ireturn, 35, [], 0), (.iload_n 2, 36, [], 0), (.tableswitch 66 0 2 #[27, 40, 53], 37, [39, 18, 25, 32], 27), (.aload_n 0, 64, [], 0), (.getfield 19, 65, [10, 1, 154], 0), (.getfield 130, 68, [6, 3, 157], 0), (.getfield 222, 71, [9, 3, 188], 0), (.iload_n 1, 74, [], 0), (.iaload, 75, [], 0), (.ireturn, 76, [], 0), (.aload_n 0, 77, [], 0), (.getfield 19, 78, [10, 1, 154], 0), (.getfield 130, 81, [6, 3, 157], 0), (.getfield 225, 84, [9, 4, 231], 0), (.iload_n 1, 87, [], 0), (.iaload, 88, [], 0), (.ireturn, 89, [], 0), (.aload_n 0, 90, [], 0), (.getfield 19, 91, [10, 1, 154], 0), (.getfield 130, 94, [6, 3, 157], 0), (.getfield 228, 97, [9, 5, 232], 0), (.iload_n 1, 100, [], 0), (.iaload, 101, [], 0), (.ireturn, 102, [], 0), (.iconst (-1), 103, [], 0), (.ireturn, 104, [], 0)], (0, 10, 2), (0, 0))
set_option maxRecDepth 100000 in
def mt_X11_must : mj_T := (yX11_must, cX11_must, 4, (some .int), [(.aload_n 0, 0, [], 0), (.iload_n 1, 1, [], 0), (.invokevirtual 145, 2, [55, 1, 10, 158], 0), (.ifCond .eq 10, 5, [7], 0), (.iload_n 2, 8, [], 0), (.invokestatic 163, 9, [54, 1, 10, 159], 0), (.ifCond .ne 5, 12, [9], 0), (.iconst (-1), 15, [], 0), (.ireturn, 16, [], 0), (.aload_n 0, 17, [], 0), (.getfield 65, 18, [10, 9, 184], 0), (.aload_n 0, 21, [], 0), (.getfield 19, 22, [10, 1, 154], 0), (.getfield 94, 25, [6, 0, 155], 0), (.invokevirtual 205, 28, [], 0), (.aload_n 0, 31, [], 0), (.getfield 65, 32, [10, 9, 184], 0), (.aload_n 0, 35, [], 0), (.getfield 19, 36, [10, 1, 154], 0), (.getfield 94, 39, [6, 0, 155], 0), (.aload_n 0, 42, [], 0), (.getfield 19, 43, [10, 1, 154], 0), (.getfield 116, 46, [6, 1, 169], 0), (.iload_n 2, 49, [], 0), (.invokevirtual 212, 50, [], 0), (.aload_n 0, 53, [], 0), (.getfield 19, 54, [10, 1, 154], 0), (.getfield 116, 57, [6, 1, 169], 0), (.iload_n 2, 60, [], 0), (.invokevirtual 193, 61, [5, 1, 1, 170], 0), (.ifCond .eq 74, 64, [68], 0), (.aload_n 0, 67, [], 0), (.getfield 19, 68, [10, 1, 154], 0), (.getfield 116, 71, [6, 1, 169], 0), (.getfield 196, 74, [1, 0, 171], 0), (.iload_n 2, 77, [], 0), (.iaload, 78, [], 0), (.iload_n 1, 79, [], 0), (.if_icmp .ne 23, 80, [49], 0), (.aload_n 0, 83, [], 0), (.getfield 19, 84, [10, 1, 154], 0), (.getfield 116, 87, [6, 1, 169], 0), (.getfield 199, 90, [1, 1, 172], 0), (.iload_n 2, 93, [], 0), (.iaload, 94, [], 0), (.iconst (-1), 95, [], 0), (.if_icmp .ne 7, 96, [49], 0), (.iconst 1, 99, [], 0), (.goto 4, 100, [50], 0), (.iconst 0, 103, [], 0), (.istore_n 3, 104, [], 0), (.iload_n 3, 105, [], 0), (.ifCond .eq 30, 106, [66], 0), (.aload_n 0, 109, [], 0), (.getfield 65, 110, [10, 9, 184], 0), (.iload_n 1, 113, [], 0), (.aload_n 0, 114, [], 0), (.getfield 19, 115, [10, 1, 154], 0), (.getfield 116, 118, [6, 1, 169], 0), (.getfield 202, 121, [1, 2, 173], 0), (.iload_n 2, 124, [], 0), (.iaload, 125, [], 0), (.invokevirtual 318, 126, [], 0), (.ifCond .eq 7, 129, [66], 0), (.iconst 1, 132, [], 0), (.goto 4, 133, [67], 0), (.iconst (-1), 136, [], 0), (.ireturn, 137, [], 0), (.aload_n 0, 138, [], 0), (.getfield 65, 139, [10, 9, 184], 0), (.aload_n 0, 142, [], 0), (.getfield 19, 143, [10, 1, 154], 0), (.getfield 94, 146, [6, 0, 155], 0), (.iload_n 1, 149, [], 0), (.iload_n 2, 150, [], 0), (.invokevirtual 322, 151, [], 0), (.istore_n 3, 154, [], 0), (.iload_n 3, 155, [], 0), (.sipush 999, 156, [], 0), (.if_icmp .gt 19, 159, [88], 0), (.aload_n 0, 162, [], 0), (.getfield 65, 163, [10, 9, 184], 0), (.iload_n 1, 166, [], 0), (.iload_n 3, 167, [], 0), (.invokevirtual 318, 168, [], 0), (.ifCond .eq 7, 171, [88], 0), (.iload_n 3, 174, [], 0), (.goto 4, 175, [89], 0), (.iconst (-1), 178, [], 0), (.ireturn, 179, [], 0)], (0, 10, 2), (0, 0))
set_option maxRecDepth 100000 in
def mt_X11_offer : mj_T := (yX11_offer, cX11_offer, 5, (some .boolean), [(.aload_n 0, 0, [], 0), (.iload_n 1, 1, [], 0), (.invokevirtual 145, 2, [55, 1, 10, 158], 0), (.ifCond .eq 21, 5, [12], 0), (.iload_n 2, 8, [], 0), (.invokestatic 163, 9, [54, 1, 10, 159], 0), (.ifCond .eq 14, 12, [12], 0), (.iload_n 3, 15, [], 0), (.ifCond .lt 10, 16, [12], 0), (.iload_n 3, 19, [], 0), (.sipush 999, 20, [], 0), (.if_icmp .le 5, 23, [14], 0), (.iconst 0, 26, [], 0), (.ireturn, 27, [], 1), (.aload_n 0, 28, [], 0), (.getfield 19, 29, [10, 1, 154], 0), (.getfield 94, 32, [6, 0, 155], 0), (.getfield 166, 35, [3, 2, 160], 0), (.iload_n 1, 38, [], 0), (.aaload, 39, [4], 0), (.iload_n 2, 40, [], 0), (.iaload, 41, [], 0), (.istore 4, 42, [], 0), (.iload 4, 44, [], 0), (.ifCond .ne 24, 46, [35], 0), (.iload_n 3, 49, [], 0), (.ifCond .le 20, 50, [35], 0), (.aload_n 0, 53, [], 0), (.getfield 19, 54, [10, 1, 154], 0), (.getfield 94, 57, [6, 0, 155], 0), (.getfield 169, 60, [3, 5, 180], 0), (.bipush 40, 63, [], 0), (.if_icmp .lt 5, 65, [35], 0), (.iconst 0, 68, [], 0), (.ireturn, 69, [], 1), (.aload_n 0, 70, [], 0), (.getfield 37, 71, [10, 5, 211], 0), (.iload_n 1, 74, [], 0), (.iload_n 2, 75, [], 0), (.iload 4, 76, [], 0), (.invokevirtual 172, 78, [], 0), (.aload_n 0, 81, [], 0), (.getfield 19, 82, [10, 1, 154], 0), (.getfield 94, 85, [6, 0, 155], 0), (.iload_n 1, 88, [], 0), (.iload_n 2, 89, [], 0), (.iload_n 3, 90, [], 0), (.invokevirtual 176, 91, [], 0), (.iconst 1, 94, [], 0), (.ireturn, 95, [], 1)], (0, 10, 3), (0, 0))
set_option maxRecDepth 100000 in
def mt_X11_on : mj_T := (yX11_on, cX11_on, 3, (some .int), [(.iload_n 1, 0, [], 0), (.ifCond .lt 22, 1, [10], 0), (.iload_n 1, 4, [], 0), (.bipush 12, 5, [], 0), (.if_icmp .gt 16, 7, [10], 0), (.aload_n 0, 10, [], 0), (.getfield 19, 11, [10, 1, 154], 0), (.getfield 130, 14, [6, 3, 157], 0), (.getfield 133, 17, [9, 0, 186], 0), (.ifCond .ne 5, 20, [12], 0), (.iconst (-1), 23, [], 0), (.ireturn, 24, [], 0), (.aload_n 0, 25, [], 0), (.getfield 19, 26, [10, 1, 154], 0), (.getfield 130, 29, [6, 3, 157], 0), (.getfield 209, 32, [9, 1, 187], 0), (.istore_n 2, 35, [], 0), (.aload_n 0, 36, [], 0), (.getfield 19, 37, [10, 1, 154], 0), (.getfield 130, 40, [6, 3, 157], 0), (.aload_n 0, 43, [], 0), (.getfield 19, 44, [10, 1, 154], 0), (.getfield 94, 47, [6, 0, 155], 0), (.aload_n 0, 50, [], 0), (.getfield 19, 51, [10, 1, 154], 0), (.getfield 116, 54, [6, 1, 169], 0), (.iload_n 1, 57, [], 0), (.invokevirtual 212, 58, [], 0), (.aload_n 0, 61, [], 0), (.getfield 19, 62, [10, 1, 154], 0), (.getfield 130, 65, [6, 3, 157], 0), (.getfield 209, 68, [9, 1, 187], 0), (.iload_n 2, 71, [], 0), (.isub, 72, [], 0), (.ireturn, 73, [], 0)], (0, 10, 1), (0, 0))
set_option maxRecDepth 100000 in
def mt_X11_plain : mj_T := (yX11_plain, cX11_plain, 3, (some .int), [(.aload_n 0, 0, [], 0), (.getfield 23, 1, [10, 2, 174], 0), (.getfield 94, 4, [6, 0, 155], 0), (.astore_n 1, 7, [], 0), (.aload_n 1, 8, [], 0), (.invokevirtual 98, 9, [8, 0, 3, 233], 0), (.aload_n 0, 12, [], 0), (.getfield 10, 13, [10, 0, 164], 0), (.sipush 900, 16, [], 0), (.invokevirtual 103, 19, [28, 1, 7, 176], 0), (.aload_n 1, 22, [], 0), (.aload_n 0, 23, [], 0), (.getfield 10, 24, [10, 0, 164], 0), (.invokevirtual 106, 27, [11, 1, 3, 234], 0), (.istore_n 2, 30, [], 0), (.aload_n 0, 31, [], 0), (.getfield 10, 32, [10, 0, 164], 0), (.getfield 110, 35, [7, 2, 166], 0), (.ifCond .ne 82, 38, [56], 0), (.aload_n 0, 41, [], 0), (.dup, 42, [], 0), (.getfield 80, 43, [10, 13, 227], 0), (.iconst 1, 46, [], 0), (.iadd, 47, [], 0), (.putfield 80, 48, [10, 13, 227], 0), (.aload_n 1, 51, [], 0), (.aload_n 0, 52, [], 0), (.getfield 80, 53, [10, 13, 227], 0), (.putfield 113, 56, [3, 9, 235], 0), (.aload_n 0, 59, [], 0), (.getfield 23, 60, [10, 2, 174], 0), (.aload_n 0, 63, [], 0), (.getfield 19, 64, [10, 1, 154], 0), (.getfield 94, 67, [6, 0, 155], 0), (.putfield 94, 70, [6, 0, 155], 0), (.aload_n 0, 73, [], 0), (.getfield 19, 74, [10, 1, 154], 0), (.aload_n 1, 77, [], 0), (.putfield 94, 78, [6, 0, 155], 0), (.aload_n 0, 81, [], 0), (.getfield 19, 82, [10, 1, 154], 0), (.getfield 116, 85, [6, 1, 169], 0), (.invokevirtual 120, 88, [1, 0, 1, 175], 0), (.aload_n 0, 91, [], 0), (.getfield 19, 92, [10, 1, 154], 0), (.getfield 123, 95, [6, 2, 236], 0), (.invokevirtual 127, 98, [14, 0, 5, 237], 0), (.aload_n 0, 101, [], 0), (.getfield 19, 102, [10, 1, 154], 0), (.getfield 130, 105, [6, 3, 157], 0), (.iconst 0, 108, [], 0), (.putfield 133, 109, [9, 0, 186], 0), (.aload_n 0, 112, [], 0), (.getfield 37, 113, [10, 5, 211], 0), (.iconst 0, 116, [], 0), (.putfield 137, 117, [8, 3, 238], 0), (.aload_n 0, 120, [], 0), (.iload_n 2, 121, [], 0), (.invokevirtual 138, 122, [40, 1, 10, 179], 0), (.ireturn, 125, [], 0)], (0, 10, 0), (0, 0))
set_option maxRecDepth 100000 in
def mt_X11_plan : mj_T := (yX11_plan, cX11_plan, 2, (some .int), [(.iload_n 1, 0, [], 0), (.invokestatic 163, 1, [54, 1, 10, 159], 0), (.ifCond .eq 25, 4, [13], 0), (.aload_n 0, 7, [], 0), (.getfield 44, 8, [10, 6, 163], 0), (.getfield 234, 11, [0, 1, 239], 0), (.ifCond .eq 15, 14, [13], 0), (.aload_n 0, 17, [], 0), (.getfield 44, 18, [10, 6, 163], 0), (.getfield 237, 21, [0, 0, 240], 0), (.iload_n 1, 24, [], 0), (.iaload, 25, [], 0), (.goto 4, 26, [14], 0), (.iconst (-1), 29, [], 0), (.ireturn, 30, [], 0)], (0, 10, 1), (0, 0))
set_option maxRecDepth 100000 in
def mt_X11_price : mj_T := (yX11_price, cX11_price, 2, (some .int), [(.iload_n 1, 0, [], 0), (.invokestatic 163, 1, [54, 1, 10, 159], 0), (.ifCond .eq 25, 4, [13], 0), (.aload_n 0, 7, [], 0), (.getfield 51, 8, [10, 7, 192], 0), (.getfield 251, 11, [4, 0, 193], 0), (.ifCond .eq 15, 14, [13], 0), (.aload_n 0, 17, [], 0), (.getfield 51, 18, [10, 7, 192], 0), (.getfield 255, 21, [4, 2, 241], 0), (.iload_n 1, 24, [], 0), (.iaload, 25, [], 0), (.goto 4, 26, [14], 0), (.iconst (-1), 29, [], 0), (.ireturn, 30, [], 0)], (0, 10, 1), (0, 0))
set_option maxRecDepth 100000 in
def mt_X11_restore : mj_T := (yX11_restore, cX11_restore, 2, (some .boolean), [(.iload_n 1, 0, [], 0), (.ifCond .lt 17, 1, [10], 0), (.iload_n 1, 4, [], 0), (.iconst 2, 5, [], 0), (.if_icmp .ge 12, 6, [10], 0), (.aload_n 0, 9, [], 0), (.getfield 30, 10, [10, 4, 197], 0), (.iload_n 1, 13, [], 0), (.baload, 14, [], 0), (.ifCond .ne 5, 15, [12], 0), (.iconst 0, 18, [], 0), (.ireturn, 19, [], 1), (.aload_n 0, 20, [], 0), (.getfield 19, 21, [10, 1, 154], 0), (.aload_n 0, 24, [], 0), (.getfield 26, 25, [10, 3, 195], 0), (.iload_n 1, 28, [], 0), (.aaload, 29, [6], 0), (.invokevirtual 337, 30, [21, 1, 6, 196], 0), (.aload_n 0, 33, [], 0), (.getfield 37, 34, [10, 5, 211], 0), (.iconst 0, 37, [], 0), (.putfield 137, 38, [8, 3, 238], 0), (.iconst 1, 41, [], 0), (.ireturn, 42, [], 1)], (0, 10, 1), (0, 0))
set_option maxRecDepth 100000 in
def mt_X11_rounds : mj_T := (yX11_rounds, cX11_rounds, 2, (some .int), [(.iload_n 1, 0, [], 0), (.iconst 1, 1, [], 0), (.if_icmp .lt 22, 2, [11], 0), (.iload_n 1, 5, [], 0), (.bipush 99, 6, [], 0), (.if_icmp .gt 16, 8, [11], 0), (.aload_n 0, 11, [], 0), (.getfield 19, 12, [10, 1, 154], 0), (.getfield 94, 15, [6, 0, 155], 0), (.getfield 160, 18, [3, 4, 156], 0), (.ifCond .ne 5, 21, [13], 0), (.iconst (-1), 24, [], 0), (.ireturn, 25, [], 0), (.aload_n 0, 26, [], 0), (.getfield 51, 27, [10, 7, 192], 0), (.aload_n 0, 30, [], 0), (.getfield 19, 31, [10, 1, 154], 0), (.getfield 94, 34, [6, 0, 155], 0), (.iload_n 1, 37, [], 0), (.invokevirtual 247, 38, [], 0), (.ireturn, 41, [], 0)], (0, 10, 1), (0, 0))
set_option maxRecDepth 100000 in
def mt_X11_said : mj_T := (yX11_said, cX11_said, 4, (some .int), [(.aload_n 0, 0, [], 0), (.getfield 19, 1, [10, 1, 154], 0), (.getfield 123, 4, [6, 2, 236], 0), (.getfield 330, 7, [5, 5, 242], 0), (.ifCond .eq 16, 10, [10], 0), (.aload_n 0, 13, [], 0), (.getfield 19, 14, [10, 1, 154], 0), (.getfield 130, 17, [6, 3, 157], 0), (.getfield 133, 20, [9, 0, 186], 0), (.ifCond .ne 5, 23, [12], 0), (.iconst (-1), 26, [], 0), (.ireturn, 27, [], 0), (.iconst 0, 28, [], 0), (.istore_n 2, 29, [], 0), (.iconst 0, 30, [], 0), (.istore_n 3, 31, [], 0), (.iload_n 3, 32, [], 0), (.aload_n 0, 33, [], 0), (.getfield 19, 34, [10, 1, 154], 0), (.getfield 94, 37, [6, 0, 155], 0), (.getfield 160, 40, [3, 4, 156], 0), (.if_icmp .ge 47, 43, [42], 0), (.aload_n 0, 46, [], 0), (.getfield 19, 47, [10, 1, 154], 0), (.getfield 123, 50, [6, 2, 236], 0), (.aload_n 0, 53, [], 0), (.getfield 19, 54, [10, 1, 154], 0), (.getfield 94, 57, [6, 0, 155], 0), (.aload_n 0, 60, [], 0), (.getfield 19, 61, [10, 1, 154], 0), (.getfield 130, 64, [6, 3, 157], 0), (.iload_n 3, 67, [], 0), (.invokevirtual 333, 68, [], 0), (.ifCond .eq 13, 71, [40], 0), (.iload_n 2, 74, [], 0), (.iload_n 1, 75, [], 0), (.if_icmp .ne 5, 76, [39], 0), (.iload_n 3, 79, [], 0), (.ireturn, 80, [], 0), (.iinc 2 1, 81, [], 0), (.iinc 3 1, 84, [], 0), (.goto (-55), 87, [16], 0), (.iload_n 1, 90, [], 0), (.iconst (-1), 91, [], 0), (.if_icmp .ne 7, 92, [47], 0), (.iload_n 2, 95, [], 0), (.goto 4, 96, [48], 0), (.iconst (-1), 99, [], 0), (.ireturn, 100, [], 0)], (0, 10, 1), (0, 0))
set_option maxRecDepth 100000 in
def mt_X11_sentence : mj_T := (yX11_sentence, cX11_sentence, 2, (some .int), [(.aload_n 0, 0, [], 0), (.getfield 23, 1, [10, 2, 174], 0), (.getfield 123, 4, [6, 2, 236], 0), (.astore_n 1, 7, [], 0), (.aload_n 1, 8, [], 0), (.invokevirtual 127, 9, [14, 0, 5, 237], 0), (.aload_n 0, 12, [], 0), (.getfield 10, 13, [10, 0, 164], 0), (.sipush 200, 16, [], 0), (.invokevirtual 103, 19, [28, 1, 7, 176], 0), (.aload_n 1, 22, [], 0), (.aload_n 0, 23, [], 0), (.getfield 10, 24, [10, 0, 164], 0), (.invokevirtual 326, 27, [20, 1, 5, 243], 0), (.aload_n 0, 30, [], 0), (.getfield 10, 31, [10, 0, 164], 0), (.getfield 110, 34, [7, 2, 166], 0), (.ifCond .ne 25, 37, [28], 0), (.aload_n 0, 40, [], 0), (.getfield 23, 41, [10, 2, 174], 0), (.aload_n 0, 44, [], 0), (.getfield 19, 45, [10, 1, 154], 0), (.getfield 123, 48, [6, 2, 236], 0), (.putfield 123, 51, [6, 2, 236], 0), (.aload_n 0, 54, [], 0), (.getfield 19, 55, [10, 1, 154], 0), (.aload_n 1, 58, [], 0), (.putfield 123, 59, [6, 2, 236], 0), (.aload_n 0, 62, [], 0), (.aload_n 1, 63, [], 0), (.getfield 330, 64, [5, 5, 242], 0), (.invokevirtual 138, 67, [40, 1, 10, 179], 0), (.ireturn, 70, [], 0)], (0, 10, 0), (0, 0))
set_option maxRecDepth 100000 in
def mt_X11_shores : mj_T := (yX11_shores, cX11_shores, 6, (some .int), [(.aload_n 0, 0, [], 0), (.iload_n 1, 1, [], 0), (.invokevirtual 145, 2, [55, 1, 10, 158], 0), (.ifCond .eq 14, 5, [10], 0), (.iload_n 2, 8, [], 0), (.iconst 1, 9, [], 0), (.if_icmp .lt 9, 10, [10], 0), (.iload_n 2, 13, [], 0), (.bipush 100, 14, [], 0), (.if_icmp .le 5, 16, [12], 0), (.iconst (-1), 19, [], 0), (.ireturn, 20, [], 0), (.iconst 0, 21, [], 0), (.istore 4, 22, [], 0), (.iconst 0, 24, [], 0), (.istore 5, 25, [], 0), (.iload 5, 27, [], 0), (.iload_n 2, 29, [], 0), (.if_icmp .ge 64, 30, [49], 0), (.aload_n 0, 33, [], 0), (.getfield 65, 34, [10, 9, 184], 0), (.aload_n 0, 37, [], 0), (.getfield 19, 38, [10, 1, 154], 0), (.getfield 94, 41, [6, 0, 155], 0), (.invokevirtual 205, 44, [], 0), (.aload_n 0, 47, [], 0), (.getfield 65, 48, [10, 9, 184], 0), (.aload_n 0, 51, [], 0), (.getfield 19, 52, [10, 1, 154], 0), (.getfield 94, 55, [6, 0, 155], 0), (.aload_n 0, 58, [], 0), (.getfield 19, 59, [10, 1, 154], 0), (.getfield 116, 62, [6, 1, 169], 0), (.iload_n 3, 65, [], 0), (.iload 5, 66, [], 0), (.iadd, 68, [], 0), (.invokevirtual 315, 69, [], 0), (.iload 4, 72, [], 0), (.aload_n 0, 74, [], 0), (.getfield 65, 75, [10, 9, 184], 0), (.getfield 219, 78, [9, 6, 244], 0), (.iload_n 1, 81, [], 0), (.aaload, 82, [4], 0), (.iconst 3, 83, [], 0), (.iaload, 84, [], 0), (.iadd, 85, [], 0), (.istore 4, 86, [], 0), (.iinc 5 1, 88, [], 0), (.goto (-64), 91, [16], 0), (.iload 4, 94, [], 0), (.ireturn, 96, [], 0)], (0, 10, 3), (0, 0))
set_option maxRecDepth 100000 in
def mt_X11_shoresOf : mj_T := (yX11_shoresOf, cX11_shoresOf, 3, (some .int), [(.aload_n 0, 0, [], 0), (.getfield 19, 1, [10, 1, 154], 0), (.getfield 94, 4, [6, 0, 155], 0), (.getfield 160, 7, [3, 4, 156], 0), (.ifCond .ne 5, 10, [7], 0), (.iconst (-1), 13, [], 0), (.ireturn, 14, [], 0), (.aload_n 0, 15, [], 0), (.aload_n 0, 16, [], 0), (.getfield 19, 17, [10, 1, 154], 0), (.getfield 94, 20, [6, 0, 155], 0), (.invokevirtual 277, 23, [], 0), (.iconst 0, 26, [], 0), (.istore_n 1, 27, [], 0), (.iconst 0, 28, [], 0), (.istore_n 2, 29, [], 0), (.iload_n 2, 30, [], 0), (.aload_n 0, 31, [], 0), (.getfield 19, 32, [10, 1, 154], 0), (.getfield 94, 35, [6, 0, 155], 0), (.getfield 160, 38, [3, 4, 156], 0), (.if_icmp .ge 25, 41, [36], 0), (.iload_n 1, 44, [], 0), (.aload_n 0, 45, [], 0), (.getfield 65, 46, [10, 9, 184], 0), (.getfield 219, 49, [9, 6, 244], 0), (.iload_n 2, 52, [], 0), (.aaload, 53, [4], 0), (.iconst 3, 54, [], 0), (.iaload, 55, [], 0), (.iload_n 2, 56, [], 0), (.ishl, 57, [], 0), (.ior, 58, [], 0), (.istore_n 1, 59, [], 0), (.iinc 2 1, 60, [], 0), (.goto (-33), 63, [16], 0), (.iload_n 1, 66, [], 0), (.ireturn, 67, [], 0)], (0, 10, 0), (0, 0))
set_option maxRecDepth 100000 in
def mt_X11_take : mj_T := (yX11_take, cX11_take, 3, (some .boolean), [(.aload_n 0, 0, [], 0), (.getfield 44, 1, [10, 6, 163], 0), (.getfield 234, 4, [0, 1, 239], 0), (.ifCond .eq 23, 7, [12], 0), (.aload_n 0, 10, [], 0), (.getfield 44, 11, [10, 6, 163], 0), (.getfield 240, 14, [0, 2, 245], 0), (.aload_n 0, 17, [], 0), (.getfield 19, 18, [10, 1, 154], 0), (.getfield 94, 21, [6, 0, 155], 0), (.getfield 113, 24, [3, 9, 235], 0), (.if_icmp .eq 5, 27, [14], 0), (.iconst 0, 30, [], 0), (.ireturn, 31, [], 1), (.aload_n 0, 32, [], 0), (.getfield 19, 33, [10, 1, 154], 0), (.getfield 116, 36, [6, 1, 169], 0), (.invokevirtual 120, 39, [1, 0, 1, 175], 0), (.iconst 0, 42, [], 0), (.istore_n 1, 43, [], 0), (.iload_n 1, 44, [], 0), (.bipush 12, 45, [], 0), (.if_icmp .ge 58, 47, [52], 0), (.aload_n 0, 50, [], 0), (.getfield 44, 51, [10, 6, 163], 0), (.getfield 237, 54, [0, 0, 240], 0), (.iload_n 1, 57, [], 0), (.iaload, 58, [], 0), (.istore_n 2, 59, [], 0), (.aload_n 0, 60, [], 0), (.getfield 19, 61, [10, 1, 154], 0), (.getfield 116, 64, [6, 1, 169], 0), (.iload_n 1, 67, [], 0), (.iload_n 2, 68, [], 0), (.iconst (-1), 69, [], 0), (.aload_n 0, 70, [], 0), (.iload_n 2, 71, [], 0), (.invokevirtual 145, 72, [55, 1, 10, 158], 0), (.ifCond .eq 20, 75, [48], 0), (.aload_n 0, 78, [], 0), (.getfield 19, 79, [10, 1, 154], 0), (.getfield 94, 82, [6, 0, 155], 0), (.getfield 166, 85, [3, 2, 160], 0), (.iload_n 2, 88, [], 0), (.aaload, 89, [4], 0), (.iload_n 1, 90, [], 0), (.iaload, 91, [], 0), (.goto 4, 92, [49], 0), (.iconst 0, 95, [], 0), (.invokevirtual 243, 96, [], 0), (.iinc 1 1, 99, [], 0), (.goto (-58), 102, [20], 0), (.iconst 1, 105, [], 0), (.ireturn, 106, [], 1)], (0, 10, 0), (0, 0))
set_option maxRecDepth 100000 in
def mt_X11_thirsty : mj_T := (yX11_thirsty, cX11_thirsty, 3, (some .int), [(.aload_n 0, 0, [], 0), (.getfield 19, 1, [10, 1, 154], 0), (.getfield 94, 4, [6, 0, 155], 0), (.getfield 160, 7, [3, 4, 156], 0), (.ifCond .ne 5, 10, [7], 0), (.iconst (-1), 13, [], 0), (.ireturn, 14, [], 0), (.aload_n 0, 15, [], 0), (.aload_n 0, 16, [], 0), (.getfield 19, 17, [10, 1, 154], 0), (.getfield 94, 20, [6, 0, 155], 0), (.invokevirtual 277, 23, [], 0), (.iconst 0, 26, [], 0), (.istore_n 1, 27, [], 0), (.iconst 0, 28, [], 0), (.istore_n 2, 29, [], 0), (.iload_n 2, 30, [], 0), (.aload_n 0, 31, [], 0), (.getfield 19, 32, [10, 1, 154], 0), (.getfield 94, 35, [6, 0, 155], 0), (.getfield 160, 38, [3, 4, 156], 0), (.if_icmp .ge 33, 41, [38], 0), (.aload_n 0, 44, [], 0), (.getfield 65, 45, [10, 9, 184], 0), (.aload_n 0, 48, [], 0), (.getfield 19, 49, [10, 1, 154], 0), (.getfield 94, 52, [6, 0, 155], 0), (.iload_n 2, 55, [], 0), (.invokevirtual 280, 56, [], 0), (.ifCond .eq 9, 59, [36], 0), (.iload_n 1, 62, [], 0), (.iconst 1, 63, [], 0), (.iload_n 2, 64, [], 0), (.ishl, 65, [], 0), (.ior, 66, [], 0), (.istore_n 1, 67, [], 0), (.iinc 2 1, 68, [], 0), (.goto (-41), 71, [16], 0), (.iload_n 1, 74, [], 0), (.ireturn, 75, [], 0)], (0, 10, 0), (0, 0))
set_option maxRecDepth 100000 in
def mt_X11_town : mj_T := (yX11_town, cX11_town, 3, (some .int), [(.aload_n 0, 0, [], 0), (.getfield 19, 1, [10, 1, 154], 0), (.getfield 130, 4, [6, 3, 157], 0), (.getfield 133, 7, [9, 0, 186], 0), (.ifCond .eq 21, 10, [14], 0), (.aload_n 0, 13, [], 0), (.iload_n 1, 14, [], 0), (.invokevirtual 145, 15, [55, 1, 10, 158], 0), (.ifCond .eq 13, 18, [14], 0), (.iload_n 2, 21, [], 0), (.ifCond .lt 9, 22, [14], 0), (.iload_n 2, 25, [], 0), (.bipush 9, 26, [], 0), (.if_icmp .le 5, 28, [16], 0), (.iconst (-1), 31, [], 0), (.ireturn, 32, [], 0), (.aload_n 0, 33, [], 0), (.getfield 19, 34, [10, 1, 154], 0), (.getfield 130, 37, [6, 3, 157], 0), (.getfield 219, 40, [9, 6, 244], 0), (.iload_n 1, 43, [], 0), (.aaload, 44, [4], 0), (.iload_n 2, 45, [], 0), (.iaload, 46, [], 0), (.ireturn, 47, [], 0)], (0, 10, 2), (0, 0))
set_option maxRecDepth 100000 in
def mt_X11_undo : mj_T := (yX11_undo, cX11_undo, 1, (some .int), [(.aload_n 0, 0, [], 0), (.getfield 37, 1, [10, 5, 211], 0), (.aload_n 0, 4, [], 0), (.getfield 19, 5, [10, 1, 154], 0), (.getfield 94, 8, [6, 0, 155], 0), (.invokevirtual 179, 11, [31, 1, 8, 246], 0), (.ireturn, 14, [], 0)], (0, 10, 0), (0, 0))
set_option maxRecDepth 100000 in
def mt_X11_water : mj_T := (yX11_water, cX11_water, 2, (some .int), [(.iload_n 1, 0, [], 0), (.invokestatic 163, 1, [54, 1, 10, 159], 0), (.ifCond .eq 18, 4, [10], 0), (.aload_n 0, 7, [], 0), (.getfield 19, 8, [10, 1, 154], 0), (.getfield 94, 11, [6, 0, 155], 0), (.getfield 183, 14, [3, 3, 247], 0), (.iload_n 1, 17, [], 0), (.iaload, 18, [], 0), (.goto 4, 19, [11], 0), (.iconst (-1), 22, [], 0), (.ireturn, 23, [], 0)], (0, 10, 1), (0, 0))
set_option maxRecDepth 100000 in
def mt_X11_wettest : mj_T := (yX11_wettest, cX11_wettest, 4, (some .int), [(.aload_n 0, 0, [], 0), (.iload_n 1, 1, [], 0), (.invokevirtual 145, 2, [55, 1, 10, 158], 0), (.ifCond .ne 5, 5, [6], 0), (.iconst (-1), 8, [], 0), (.ireturn, 9, [], 0), (.iconst 0, 10, [], 0), (.istore_n 2, 11, [], 0), (.iconst 1, 12, [], 0), (.istore_n 3, 13, [], 0), (.iload_n 3, 14, [], 0), (.bipush 12, 15, [], 0), (.if_icmp .ge 38, 17, [30], 0), (.aload_n 0, 20, [], 0), (.getfield 19, 21, [10, 1, 154], 0), (.getfield 94, 24, [6, 0, 155], 0), (.getfield 183, 27, [3, 3, 247], 0), (.iload_n 3, 30, [], 0), (.iaload, 31, [], 0), (.aload_n 0, 32, [], 0), (.getfield 19, 33, [10, 1, 154], 0), (.getfield 94, 36, [6, 0, 155], 0), (.getfield 183, 39, [3, 3, 247], 0), (.iload_n 2, 42, [], 0), (.iaload, 43, [], 0), (.if_icmp .le 5, 44, [28], 0), (.iload_n 3, 47, [], 0), (.istore_n 2, 48, [], 0), (.iinc 3 1, 49, [], 0), (.goto (-38), 52, [10], 0), (.iload_n 2, 55, [], 0), (.ireturn, 56, [], 0)], (0, 10, 1), (0, 0))
set_option maxRecDepth 100000 in
def mt_X11_worth : mj_T := (yX11_worth, cX11_worth, 4, (some .int), [(.aload_n 0, 0, [], 0), (.iload_n 1, 1, [], 0), (.invokevirtual 145, 2, [55, 1, 10, 158], 0), (.ifCond .ne 7, 5, [6], 0), (.sipush (-10001), 8, [], 0), (.ireturn, 11, [], 0), (.aload_n 0, 12, [], 0), (.aload_n 0, 13, [], 0), (.getfield 19, 14, [10, 1, 154], 0), (.getfield 94, 17, [6, 0, 155], 0), (.invokevirtual 277, 20, [], 0), (.aload_n 0, 23, [], 0), (.getfield 65, 24, [10, 9, 184], 0), (.getfield 309, 27, [9, 2, 185], 0), (.istore_n 2, 30, [], 0), (.aload_n 0, 31, [], 0), (.getfield 23, 32, [10, 2, 174], 0), (.getfield 94, 35, [6, 0, 155], 0), (.aload_n 0, 38, [], 0), (.getfield 19, 39, [10, 1, 154], 0), (.getfield 94, 42, [6, 0, 155], 0), (.invokevirtual 312, 45, [9, 1, 3, 248], 0), (.iconst 0, 48, [], 0), (.istore_n 3, 49, [], 0), (.iload_n 3, 50, [], 0), (.bipush 12, 51, [], 0), (.if_icmp .ge 22, 53, [36], 0), (.aload_n 0, 56, [], 0), (.getfield 23, 57, [10, 2, 174], 0), (.getfield 94, 60, [6, 0, 155], 0), (.iload_n 1, 63, [], 0), (.iload_n 3, 64, [], 0), (.iconst 0, 65, [], 0), (.invokevirtual 176, 66, [], 0), (.iinc 3 1, 69, [], 0), (.goto (-22), 72, [24], 0), (.aload_n 0, 75, [], 0), (.aload_n 0, 76, [], 0), (.getfield 23, 77, [10, 2, 174], 0), (.getfield 94, 80, [6, 0, 155], 0), (.invokevirtual 277, 83, [], 0), (.iload_n 2, 86, [], 0), (.aload_n 0, 87, [], 0), (.getfield 65, 88, [10, 9, 184], 0), (.getfield 309, 91, [9, 2, 185], 0), (.isub, 94, [], 0), (.ireturn, 95, [], 0)], (0, 10, 1), (0, 0))
set_option maxRecDepth 100000 in
def mt_X11_write : mj_T := (yX11_write, cX11_write, 2, (some .int), [(.aload_n 0, 0, [], 0), (.getfield 19, 1, [10, 1, 154], 0), (.getfield 130, 4, [6, 3, 157], 0), (.getfield 133, 7, [9, 0, 186], 0), (.ifCond .ne 5, 10, [7], 0), (.iconst (-1), 13, [], 0), (.ireturn, 14, [], 0), (.aload_n 0, 15, [], 0), (.iconst 0, 16, [], 0), (.putfield 73, 17, [10, 11, 161], 0), (.iconst 0, 20, [], 0), (.istore_n 1, 21, [], 0), (.iload_n 1, 22, [], 0), (.aload_n 0, 23, [], 0), (.getfield 19, 24, [10, 1, 154], 0), (.getfield 130, 27, [6, 3, 157], 0), (.getfield 209, 30, [9, 1, 187], 0), (.if_icmp .ge 96, 33, [64], 0), (.iload_n 1, 36, [], 0), (.bipush 12, 37, [], 0), (.if_icmp .ge 90, 39, [64], 0), (.aload_n 0, 42, [], 0), (.iload_n 1, 43, [], 0), (.invokevirtual 284, 44, [], 0), (.aload_n 0, 47, [], 0), (.bipush 32, 48, [], 0), (.invokevirtual 287, 50, [], 0), (.aload_n 0, 53, [], 0), (.aload_n 0, 54, [], 0), (.getfield 19, 55, [10, 1, 154], 0), (.getfield 130, 58, [6, 3, 157], 0), (.getfield 222, 61, [9, 3, 188], 0), (.iload_n 1, 64, [], 0), (.iaload, 65, [], 0), (.invokevirtual 290, 66, [], 0), (.aload_n 0, 69, [], 0), (.getfield 19, 70, [10, 1, 154], 0), (.getfield 130, 73, [6, 3, 157], 0), (.getfield 225, 76, [9, 4, 231], 0), (.iload_n 1, 79, [], 0), (.iaload, 80, [], 0), (.iconst (-1), 81, [], 0), (.if_icmp .eq 19, 82, [51], 0), (.aload_n 0, 85, [], 0), (.aload_n 0, 86, [], 0), (.getfield 19, 87, [10, 1, 154], 0), (.getfield 130, 90, [6, 3, 157], 0), (.getfield 225, 93, [9, 4, 231], 0), (.iload_n 1, 96, [], 0), (.iaload, 97, [], 0), (.invokevirtual 290, 98, [], 0), (.aload_n 0, 101, [], 0), (.aload_n 0, 102, [], 0), (.getfield 19, 103, [10, 1, 154], 0), (.getfield 130, 106, [6, 3, 157], 0), (.getfield 228, 109, [9, 5, 232], 0), (.iload_n 1, 112, [], 0), (.iaload, 113, [], 0), (.invokevirtual 284, 114, [], 0), (.aload_n 0, 117, [], 0), (.bipush 59, 118, [], 0), (.invokevirtual 287, 120, [], 0), (.iinc 1 1, 123, [], 0), (.goto (-104), 126, [12], 0), (.aload_n 0, 129, [], 0), (.getfield 73, 130, [10, 11, 161], 0), (.ireturn, 133, [], 0)], (0, 10, 0), (0, 0))
set_option maxRecDepth 100000 in
def mt_X11_year : mj_T := (yX11_year, cX11_year, 2, (some .int), [(.aload_n 0, 0, [], 0), (.getfield 19, 1, [10, 1, 154], 0), (.getfield 130, 4, [6, 3, 157], 0), (.getfield 133, 7, [9, 0, 186], 0), (.ifCond .eq 17, 10, [11], 0), (.aload_n 0, 13, [], 0), (.getfield 19, 14, [10, 1, 154], 0), (.getfield 130, 17, [6, 3, 157], 0), (.iload_n 1, 20, [], 0), (.invokevirtual 216, 21, [], 0), (.goto 6, 24, [12], 0), (.sipush (-1001), 27, [], 0), (.ireturn, 30, [], 0)], (0, 10, 1), (0, 0))
set_option maxRecDepth 100000 in
def mt_X12_bad : mj_T := (yX12_bad, cX12_bad, 2, (some .boolean), [(.aload_n 0, 0, [], 0), (.iload_n 1, 1, [], 0), (.putfield 180, 2, [11, 15, 249], 0), (.aload_n 0, 5, [], 0), (.aload_n 0, 6, [], 0), (.getfield 157, 7, [11, 12, 250], 0), (.putfield 183, 10, [11, 16, 251], 0), (.iconst 0, 13, [], 0), (.ireturn, 14, [], 1)], (0, 11, 1), (0, 0))
set_option maxRecDepth 100000 in
def mt_X12_begin : mj_T := (yX12_begin, cX12_begin, 1, (some .boolean), [(.aload_n 0, 0, [], 0), (.iconst 0, 1, [], 0), (.putfield 1, 2, [11, 0, 252], 0), (.aload_n 0, 5, [], 0), (.getfield 33, 6, [11, 6, 253], 0), (.iconst 0, 9, [], 0), (.iaload, 10, [], 0), (.ifCond .ne 5, 11, [10], 0), (.iconst 0, 14, [], 0), (.ireturn, 15, [], 1), (.aload_n 0, 16, [], 0), (.invokevirtual 333, 17, [], 0), (.iconst 1, 20, [], 0), (.ireturn, 21, [], 1)], (0, 11, 0), (0, 0))
set_option maxRecDepth 100000 in
def mt_X12_bid : mj_T := (yX12_bid, cX12_bid, 3, (some .int), [(.aload_n 0, 0, [], 0), (.iconst 0, 1, [], 0), (.putfield 1, 2, [11, 0, 252], 0), (.aload_n 0, 5, [], 0), (.iload_n 1, 6, [], 0), (.invokevirtual 263, 7, [104, 1, 11, 254], 0), (.ifCond .eq 19, 10, [15], 0), (.iload_n 2, 13, [], 0), (.invokestatic 273, 14, [102, 1, 11, 255], 0), (.ifCond .eq 12, 17, [15], 0), (.aload_n 0, 20, [], 0), (.iload_n 1, 21, [], 0), (.iload_n 2, 22, [], 0), (.invokevirtual 276, 23, [], 0), (.goto 4, 26, [16], 0), (.iconst (-1), 29, [], 0), (.ireturn, 30, [], 0)], (0, 11, 2), (0, 0))
set_option maxRecDepth 100000 in
def mt_X12_bidMany : mj_T := (yX12_bidMany, cX12_bidMany, 3, (some .int), [(.iconst 0, 0, [], 0), (.istore_n 1, 1, [], 0), (.iconst 0, 2, [], 0), (.istore_n 2, 3, [], 0), (.iload_n 2, 4, [], 0), (.bipush 96, 5, [], 0), (.if_icmp .ge 29, 7, [22], 0), (.iload_n 1, 10, [], 0), (.aload_n 0, 11, [], 0), (.getfield 33, 12, [11, 6, 253], 0), (.bipush 88, 15, [], 0), (.iload_n 2, 17, [], 0), (.iadd, 18, [], 0), (.iaload, 19, [], 0), (.ifCond .le 7, 20, [17], 0), (.iconst 1, 23, [], 0), (.goto 4, 24, [18], 0), (.iconst 0, 27, [], 0), (.iadd, 28, [], 0), (.istore_n 1, 29, [], 0), (.iinc 2 1, 30, [], 0), (.goto (-29), 33, [4], 0), (.iload_n 1, 36, [], 0), (.ireturn, 37, [], 0)], (0, 11, 0), (0, 0))
set_option maxRecDepth 100000 in
def mt_X12_bidsOf : mj_T := (yX12_bidsOf, cX12_bidsOf, 4, (some .int), [(.aload_n 0, 0, [], 0), (.iconst 0, 1, [], 0), (.putfield 1, 2, [11, 0, 252], 0), (.aload_n 0, 5, [], 0), (.iload_n 1, 6, [], 0), (.invokevirtual 263, 7, [104, 1, 11, 254], 0), (.ifCond .ne 5, 10, [9], 0), (.iconst (-1), 13, [], 0), (.ireturn, 14, [], 0), (.iconst 0, 15, [], 0), (.istore_n 2, 16, [], 0), (.iconst 0, 17, [], 0), (.istore_n 3, 18, [], 0), (.iload_n 3, 19, [], 0), (.bipush 12, 20, [], 0), (.if_icmp .ge 18, 22, [25], 0), (.iload_n 2, 25, [], 0), (.aload_n 0, 26, [], 0), (.iload_n 1, 27, [], 0), (.iload_n 3, 28, [], 0), (.invokevirtual 276, 29, [], 0), (.iadd, 32, [], 0), (.istore_n 2, 33, [], 0), (.iinc 3 1, 34, [], 0), (.goto (-18), 37, [13], 0), (.iload_n 2, 40, [], 0), (.ireturn, 41, [], 0)], (0, 11, 1), (0, 0))
set_option maxRecDepth 100000 in
def mt_X12_byteAt : mj_T := (yX12_byteAt, cX12_byteAt, 2, (some .int), [(.aload_n 0, 0, [], 0), (.iconst 0, 1, [], 0), (.putfield 1, 2, [11, 0, 252], 0), (.iload_n 1, 5, [], 0), (.iconst 0, 6, [], 0), (.aload_n 0, 7, [], 0), (.getfield 391, 8, [11, 51, 256], 0), (.iconst 1, 11, [], 0), (.isub, 12, [], 0), (.invokestatic 195, 13, [101, 3, 11, 257], 0), (.ifCond .eq 16, 16, [18], 0), (.aload_n 0, 19, [], 0), (.getfield 86, 20, [11, 50, 258], 0), (.iload_n 1, 23, [], 0), (.baload, 24, [], 0), (.sipush 255, 25, [], 0), (.iand, 28, [], 0), (.goto 4, 29, [19], 0), (.iconst (-1), 32, [], 0), (.ireturn, 33, [], 0)], (0, 11, 1), (0, 0))
set_option maxRecDepth 100000 in
def mt_X12_cheapest : mj_T := (yX12_cheapest, cX12_cheapest, 5, (some .int), [(.aload_n 0, 0, [], 0), (.iconst 0, 1, [], 0), (.putfield 1, 2, [11, 0, 252], 0), (.aload_n 0, 5, [], 0), (.getfield 33, 6, [11, 6, 253], 0), (.iconst 0, 9, [], 0), (.iaload, 10, [], 0), (.istore_n 1, 11, [], 0), (.iload_n 1, 12, [], 0), (.iconst 1, 13, [], 0), (.iconst 3, 14, [], 0), (.invokestatic 195, 15, [101, 3, 11, 257], 0), (.ifCond .ne 6, 18, [15], 0), (.bipush (-2), 21, [], 0), (.ireturn, 23, [], 0), (.ldc_w 342, 24, [], 0), (.istore_n 2, 27, [], 0), (.aload_n 0, 28, [], 0), (.getfield 62, 29, [11, 36, 259], 0), (.iconst 0, 32, [], 0), (.iconst 0, 33, [], 0), (.iastore, 34, [], 0), (.iconst 0, 35, [], 0), (.istore_n 3, 36, [], 0), (.iload_n 3, 37, [], 0), (.iconst 3, 38, [], 0), (.if_icmp .ge 16, 39, [34], 0), (.aload_n 0, 42, [], 0), (.getfield 65, 43, [11, 37, 260], 0), (.iload_n 3, 46, [], 0), (.iconst 0, 47, [], 0), (.iastore, 48, [], 0), (.iinc 3 1, 49, [], 0), (.goto (-15), 52, [24], 0), (.iconst 0, 55, [], 0), (.istore_n 3, 56, [], 0), (.aload_n 0, 57, [], 0), (.getfield 59, 58, [11, 35, 261], 0), (.iconst 0, 61, [], 0), (.iconst (-1), 62, [], 0), (.iastore, 63, [], 0), (.iload_n 3, 64, [], 0), (.ifCond .lt 264, 65, [193], 0), (.iload_n 3, 68, [], 0), (.bipush 12, 69, [], 0), (.if_icmp .ne 64, 71, [78], 0), (.aload_n 0, 74, [], 0), (.getfield 62, 75, [11, 36, 259], 0), (.iload_n 3, 78, [], 0), (.iaload, 79, [], 0), (.iload_n 2, 80, [], 0), (.if_icmp .ge 48, 81, [76], 0), (.aload_n 0, 84, [], 0), (.iload_n 3, 85, [], 0), (.invokevirtual 343, 86, [], 0), (.ifCond .eq 40, 89, [76], 0), (.aload_n 0, 92, [], 0), (.getfield 62, 93, [11, 36, 259], 0), (.iload_n 3, 96, [], 0), (.iaload, 97, [], 0), (.istore_n 2, 98, [], 0), (.iconst 0, 99, [], 0), (.istore 4, 100, [], 0), (.iload 4, 102, [], 0), (.bipush 12, 104, [], 0), (.if_icmp .ge 23, 106, [76], 0), (.aload_n 0, 109, [], 0), (.getfield 68, 110, [11, 38, 262], 0), (.iload 4, 113, [], 0), (.aload_n 0, 115, [], 0), (.getfield 59, 116, [11, 35, 261], 0), (.iload 4, 119, [], 0), (.iaload, 121, [], 0), (.iastore, 122, [], 0), (.iinc 4 1, 123, [], 0), (.goto (-24), 126, [63], 0), (.iinc 3 (-1), 129, [], 0), (.goto (-68), 132, [41], 0), (.aload_n 0, 135, [], 0), (.getfield 59, 136, [11, 35, 261], 0), (.iload_n 3, 139, [], 0), (.aload_n 0, 140, [], 0), (.getfield 59, 141, [11, 35, 261], 0), (.iload_n 3, 144, [], 0), (.iaload, 145, [], 0), (.bipush 8, 146, [], 0), (.if_icmp .ne 8, 148, [89], 0), (.bipush 9, 151, [], 0), (.goto 28, 153, [105], 0), (.aload_n 0, 156, [], 0), (.getfield 59, 157, [11, 35, 261], 0), (.iload_n 3, 160, [], 0), (.iaload, 161, [], 0), (.iconst 1, 162, [], 0), (.iadd, 163, [], 0), (.iload_n 1, 164, [], 0), (.if_icmp .ne 8, 165, [99], 0), (.bipush 8, 168, [], 0), (.goto 11, 170, [105], 0), (.aload_n 0, 173, [], 0), (.getfield 59, 174, [11, 35, 261], 0), (.iload_n 3, 177, [], 0), (.iaload, 178, [], 0), (.iconst 1, 179, [], 0), (.iadd, 180, [], 0), (.iastore, 181, [], 0), (.aload_n 0, 182, [], 0), (.getfield 59, 183, [11, 35, 261], 0), (.iload_n 3, 186, [], 0), (.iaload, 187, [], 0), (.bipush 8, 188, [], 0), (.if_icmp .gt 11, 190, [116], 0), (.aload_n 0, 193, [], 0), (.iload_n 3, 194, [], 0), (.invokevirtual 343, 195, [], 0), (.ifCond .ne 9, 198, [118], 0), (.iinc 3 (-1), 201, [], 0), (.goto (-140), 204, [41], 0), (.aload_n 0, 207, [], 0), (.getfield 62, 208, [11, 36, 259], 0), (.iload_n 3, 211, [], 0), (.iconst 1, 212, [], 0), (.iadd, 213, [], 0), (.aload_n 0, 214, [], 0), (.getfield 62, 215, [11, 36, 259], 0), (.iload_n 3, 218, [], 0), (.iaload, 219, [], 0), (.aload_n 0, 220, [], 0), (.iload_n 3, 221, [], 0), (.aload_n 0, 222, [], 0), (.getfield 59, 223, [11, 35, 261], 0), (.iload_n 3, 226, [], 0), (.iaload, 227, [], 0), (.invokevirtual 346, 228, [], 0), (.iadd, 231, [], 0), (.iastore, 232, [], 0), (.aload_n 0, 233, [], 0), (.getfield 62, 234, [11, 36, 259], 0), (.iload_n 3, 237, [], 0), (.iconst 1, 238, [], 0), (.iadd, 239, [], 0), (.iaload, 240, [], 0), (.iload_n 2, 241, [], 0), (.if_icmp .lt 6, 242, [145], 0), (.goto (-181), 245, [41], 0), (.iconst 0, 248, [], 0), (.istore 4, 249, [], 0), (.iload 4, 251, [], 0), (.iload_n 1, 253, [], 0), (.if_icmp .ge 56, 254, [183], 0), (.aload_n 0, 257, [], 0), (.getfield 65, 258, [11, 37, 260], 0), (.iconst 3, 261, [], 0), (.iload_n 3, 262, [], 0), (.imul, 263, [], 0), (.iconst 3, 264, [], 0), (.iadd, 265, [], 0), (.iload 4, 266, [], 0), (.iadd, 268, [], 0), (.aload_n 0, 269, [], 0), (.getfield 65, 270, [11, 37, 260], 0), (.iconst 3, 273, [], 0), (.iload_n 3, 274, [], 0), (.imul, 275, [], 0), (.iload 4, 276, [], 0), (.iadd, 278, [], 0), (.iaload, 279, [], 0), (.iload 4, 280, [], 0), (.aload_n 0, 282, [], 0), (.getfield 59, 283, [11, 35, 261], 0), (.iload_n 3, 286, [], 0), (.iaload, 287, [], 0), (.if_icmp .ne 13, 288, [178], 0), (.aload_n 0, 291, [], 0), (.iload 4, 292, [], 0), (.iload_n 3, 294, [], 0), (.invokevirtual 339, 295, [], 0), (.goto 4, 298, [179], 0), (.iconst 0, 301, [], 0), (.iadd, 302, [], 0), (.iastore, 303, [], 0), (.iinc 4 1, 304, [], 0), (.goto (-56), 307, [147], 0), (.iinc 3 1, 310, [], 0), (.iload_n 3, 313, [], 0), (.bipush 12, 314, [], 0), (.if_icmp .ge (-252), 316, [41], 0), (.aload_n 0, 319, [], 0), (.getfield 59, 320, [11, 35, 261], 0), (.iload_n 3, 323, [], 0), (.iconst (-1), 324, [], 0), (.iastore, 325, [], 0), (.goto (-262), 326, [41], 0), (.iload_n 2, 329, [], 0), (.ldc_w 342, 330, [], 0), (.if_icmp .ne 5, 333, [198], 0), (.iconst (-1), 336, [], 0), (.ireturn, 337, [], 0), (.aload_n 0, 338, [], 0), (.iconst 1, 339, [], 0), (.putfield 349, 340, [11, 39, 263], 0), (.aload_n 0, 343, [], 0), (.aload_n 0, 344, [], 0), (.getfield 260, 345, [11, 25, 264], 0), (.putfield 353, 348, [11, 40, 265], 0), (.iload_n 2, 351, [], 0), (.ireturn, 352, [], 0)], (0, 11, 0), (0, 0))
set_option maxRecDepth 100000 in
def mt_X12_contract : mj_T := (yX12_contract, cX12_contract, 3, (some .int), [(.aload_n 0, 0, [], 0), (.iconst 0, 1, [], 0), (.putfield 1, 2, [11, 0, 252], 0), (.iload_n 1, 5, [], 0), (.invokestatic 273, 6, [102, 1, 11, 255], 0), (.ifCond .eq 27, 9, [20], 0), (.iload_n 2, 12, [], 0), (.iconst 0, 13, [], 0), (.iconst 2, 14, [], 0), (.invokestatic 195, 15, [101, 3, 11, 257], 0), (.ifCond .eq 18, 18, [20], 0), (.aload_n 0, 21, [], 0), (.getfield 33, 22, [11, 6, 253], 0), (.sipush 184, 25, [], 0), (.iconst 3, 28, [], 0), (.iload_n 1, 29, [], 0), (.imul, 30, [], 0), (.iadd, 31, [], 0), (.iaload, 32, [], 0), (.ifCond .ne 5, 33, [22], 0), (.iconst (-1), 36, [], 0), (.ireturn, 37, [], 0), (.iload_n 2, 38, [], 0), (.iconst 2, 39, [], 0), (.if_icmp .ge 22, 40, [38], 0), (.aload_n 0, 43, [], 0), (.getfield 33, 44, [11, 6, 253], 0), (.sipush 184, 47, [], 0), (.iconst 3, 50, [], 0), (.iload_n 1, 51, [], 0), (.imul, 52, [], 0), (.iadd, 53, [], 0), (.iload_n 2, 54, [], 0), (.iadd, 55, [], 0), (.iaload, 56, [], 0), (.iconst 1, 57, [], 0), (.isub, 58, [], 0), (.goto 17, 59, [48], 0), (.aload_n 0, 62, [], 0), (.getfield 33, 63, [11, 6, 253], 0), (.sipush 184, 66, [], 0), (.iconst 3, 69, [], 0), (.iload_n 1, 70, [], 0), (.imul, 71, [], 0), (.iadd, 72, [], 0), (.iconst 2, 73, [], 0), (.iadd, 74, [], 0), (.iaload, 75, [], 0), (.ireturn, 76, [], 0)], (0, 11, 2), (0, 0))
set_option maxRecDepth 100000 in
def mt_X12_contracts : mj_T := (yX12_contracts, cX12_contracts, 3, (some .int), [(.aload_n 0, 0, [], 0), (.iconst 0, 1, [], 0), (.putfield 1, 2, [11, 0, 252], 0), (.aload_n 0, 5, [], 0), (.sipush 400, 6, [], 0), (.invokevirtual 242, 9, [126, 1, 11, 266], 0), (.aload_n 0, 12, [], 0), (.iconst 0, 13, [], 0), (.putfield 180, 14, [11, 15, 249], 0), (.iconst 0, 17, [], 0), (.istore_n 1, 18, [], 0), (.iload_n 1, 19, [], 0), (.bipush 36, 20, [], 0), (.if_icmp .ge 16, 22, [21], 0), (.aload_n 0, 25, [], 0), (.getfield 40, 26, [11, 8, 267], 0), (.iload_n 1, 29, [], 0), (.iconst 0, 30, [], 0), (.iastore, 31, [], 0), (.iinc 1 1, 32, [], 0), (.goto (-16), 35, [11], 0), (.iconst 0, 38, [], 0), (.istore_n 1, 39, [], 0), (.aload_n 0, 40, [], 0), (.invokevirtual 192, 41, [111, 0, 11, 268], 0), (.aload_n 0, 44, [], 0), (.getfield 163, 45, [11, 11, 269], 0), (.ifCond .eq 32, 48, [42], 0), (.aload_n 0, 51, [], 0), (.invokevirtual 282, 52, [], 0), (.ifCond .eq 12, 55, [35], 0), (.aload_n 0, 58, [], 0), (.bipush 59, 59, [], 0), (.invokevirtual 251, 61, [], 0), (.ifCond .ne 10, 64, [40], 0), (.iconst (-1), 67, [], 0), (.aload_n 0, 68, [], 0), (.getfield 183, 69, [11, 16, 251], 0), (.isub, 72, [], 0), (.ireturn, 73, [], 0), (.iinc 1 1, 74, [], 0), (.goto (-33), 77, [25], 0), (.iconst 0, 80, [], 0), (.istore_n 2, 81, [], 0), (.iload_n 2, 82, [], 0), (.bipush 36, 83, [], 0), (.if_icmp .ge 25, 85, [59], 0), (.aload_n 0, 88, [], 0), (.getfield 33, 89, [11, 6, 253], 0), (.sipush 184, 92, [], 0), (.iload_n 2, 95, [], 0), (.iadd, 96, [], 0), (.aload_n 0, 97, [], 0), (.getfield 40, 98, [11, 8, 267], 0), (.iload_n 2, 101, [], 0), (.iaload, 102, [], 0), (.iastore, 103, [], 0), (.iinc 2 1, 104, [], 0), (.goto (-25), 107, [44], 0), (.aload_n 0, 110, [], 0), (.getfield 33, 111, [11, 6, 253], 0), (.sipush 220, 114, [], 0), (.iload_n 1, 117, [], 0), (.iastore, 118, [], 0), (.iload_n 1, 119, [], 0), (.ireturn, 120, [], 0)], (0, 11, 0), (0, 0))
set_option maxRecDepth 100000 in
def mt_X12_count : mj_T := (yX12_count, cX12_count, 2, (some .int), [(.aload_n 0, 0, [], 0), (.iconst 0, 1, [], 0), (.putfield 1, 2, [11, 0, 252], 0), (.iload_n 1, 5, [], 0), (.iconst 1, 6, [], 0), (.if_icmp .ne 10, 7, [9], 0), (.aload_n 0, 10, [], 0), (.invokevirtual 279, 11, [83, 0, 11, 270], 0), (.goto 61, 14, [40], 0), (.iload_n 1, 17, [], 0), (.iconst 5, 18, [], 0), (.if_icmp .ne 14, 19, [17], 0), (.aload_n 0, 22, [], 0), (.getfield 33, 23, [11, 6, 253], 0), (.sipush 220, 26, [], 0), (.iaload, 29, [], 0), (.goto 45, 30, [40], 0), (.iload_n 1, 33, [], 0), (.bipush 6, 34, [], 0), (.if_icmp .ne 10, 36, [23], 0), (.aload_n 0, 39, [], 0), (.getfield 7, 40, [11, 2, 271], 0), (.goto 32, 43, [40], 0), (.iload_n 1, 46, [], 0), (.iconst 0, 47, [], 0), (.iconst 4, 48, [], 0), (.invokestatic 195, 49, [101, 3, 11, 257], 0), (.ifCond .eq 22, 52, [39], 0), (.aload_n 0, 55, [], 0), (.getfield 33, 56, [11, 6, 253], 0), (.iload_n 1, 59, [], 0), (.ifCond .ne 7, 60, [34], 0), (.iconst 0, 63, [], 0), (.goto 6, 64, [37], 0), (.iload_n 1, 67, [], 0), (.iconst 1, 68, [], 0), (.isub, 69, [], 0), (.iaload, 70, [], 0), (.goto 4, 71, [40], 0), (.iconst (-1), 74, [], 0), (.ireturn, 75, [], 0)], (0, 11, 1), (0, 0))
set_option maxRecDepth 100000 in
def mt_X12_drawn : mj_T := (yX12_drawn, cX12_drawn, 3, (some .int), [(.aload_n 0, 0, [], 0), (.iconst 0, 1, [], 0), (.putfield 1, 2, [11, 0, 252], 0), (.aload_n 0, 5, [], 0), (.getfield 33, 6, [11, 6, 253], 0), (.iconst 0, 9, [], 0), (.iaload, 10, [], 0), (.ifCond .ne 7, 11, [10], 0), (.sipush (-10001), 14, [], 0), (.ireturn, 17, [], 0), (.aload_n 0, 18, [], 0), (.invokevirtual 375, 19, [], 0), (.aload_n 0, 22, [], 0), (.iload_n 1, 23, [], 0), (.putfield 368, 24, [11, 47, 272], 0), (.aload_n 0, 27, [], 0), (.iconst 1, 28, [], 0), (.invokevirtual 387, 29, [], 0), (.aload_n 0, 32, [], 0), (.getfield 33, 33, [11, 6, 253], 0), (.sipush 224, 36, [], 0), (.iaload, 39, [], 0), (.istore_n 2, 40, [], 0), (.aload_n 0, 41, [], 0), (.invokevirtual 384, 42, [], 0), (.iload_n 2, 45, [], 0), (.ireturn, 46, [], 0)], (0, 11, 1), (0, 0))
set_option maxRecDepth 100000 in
def mt_X12_droughts : mj_T := (yX12_droughts, cX12_droughts, 3, (some .int), [(.aload_n 0, 0, [], 0), (.iconst 0, 1, [], 0), (.putfield 1, 2, [11, 0, 252], 0), (.aload_n 0, 5, [], 0), (.getfield 33, 6, [11, 6, 253], 0), (.sipush 221, 9, [], 0), (.iaload, 12, [], 0), (.ifCond .ne 5, 13, [10], 0), (.iconst (-1), 16, [], 0), (.ireturn, 17, [], 0), (.iconst 0, 18, [], 0), (.istore_n 1, 19, [], 0), (.iconst 0, 20, [], 0), (.istore_n 2, 21, [], 0), (.iload_n 2, 22, [], 0), (.aload_n 0, 23, [], 0), (.getfield 33, 24, [11, 6, 253], 0), (.sipush 222, 27, [], 0), (.iaload, 30, [], 0), (.if_icmp .ge 36, 31, [40], 0), (.iload_n 1, 34, [], 0), (.aload_n 0, 35, [], 0), (.getfield 33, 36, [11, 6, 253], 0), (.sipush 320, 39, [], 0), (.iconst 3, 42, [], 0), (.iload_n 2, 43, [], 0), (.imul, 44, [], 0), (.iadd, 45, [], 0), (.iaload, 46, [], 0), (.bipush 8, 47, [], 0), (.if_icmp .ne 9, 49, [35], 0), (.iconst 1, 52, [], 0), (.iload_n 2, 53, [], 0), (.ishl, 54, [], 0), (.goto 4, 55, [36], 0), (.iconst 0, 58, [], 0), (.ior, 59, [], 0), (.istore_n 1, 60, [], 0), (.iinc 2 1, 61, [], 0), (.goto (-42), 64, [14], 0), (.iload_n 1, 67, [], 0), (.ireturn, 68, [], 0)], (0, 11, 0), (0, 0))
set_option maxRecDepth 100000 in
def mt_X12_end : mj_T := (yX12_end, cX12_end, 2, (some .boolean), [(.aload_n 0, 0, [], 0), (.iconst 0, 1, [], 0), (.putfield 1, 2, [11, 0, 252], 0), (.iload_n 1, 5, [], 0), (.ifCond .lt 11, 6, [9], 0), (.iload_n 1, 9, [], 0), (.aload_n 0, 10, [], 0), (.getfield 7, 11, [11, 2, 271], 0), (.if_icmp .le 5, 14, [11], 0), (.iconst 0, 17, [], 0), (.ireturn, 18, [], 1), (.aload_n 0, 19, [], 0), (.iload_n 1, 20, [], 0), (.putfield 7, 21, [11, 2, 271], 0), (.iconst 1, 24, [], 0), (.ireturn, 25, [], 1)], (0, 11, 1), (0, 0))
set_option maxRecDepth 100000 in
def mt_X12_enough : mj_T := (yX12_enough, cX12_enough, 7, (some .int), [(.aload_n 0, 0, [], 0), (.iconst 0, 1, [], 0), (.putfield 1, 2, [11, 0, 252], 0), (.aload_n 0, 5, [], 0), (.iload_n 1, 6, [], 0), (.invokevirtual 263, 7, [104, 1, 11, 254], 0), (.ifCond .ne 5, 10, [9], 0), (.iconst (-1), 13, [], 0), (.ireturn, 14, [], 0), (.iconst 0, 15, [], 0), (.istore_n 2, 16, [], 0), (.iconst 0, 17, [], 0), (.istore_n 3, 18, [], 0), (.iconst 0, 19, [], 0), (.istore 4, 20, [], 0), (.iload 4, 22, [], 0), (.bipush 12, 24, [], 0), (.if_icmp .gt 100, 26, [71], 0), (.iload_n 3, 29, [], 0), (.aload_n 0, 30, [], 0), (.iload_n 1, 31, [], 0), (.iconst 4, 32, [], 0), (.invokevirtual 270, 33, [], 0), (.if_icmp .lt 6, 36, [26], 0), (.iload 4, 39, [], 0), (.ireturn, 41, [], 0), (.iconst (-1), 42, [], 0), (.istore 5, 43, [], 0), (.iconst 0, 45, [], 0), (.istore 6, 46, [], 0), (.iload 6, 48, [], 0), (.bipush 12, 50, [], 0), (.if_icmp .ge 44, 52, [52], 0), (.iload_n 2, 55, [], 0), (.iload 6, 56, [], 0), (.invokestatic 213, 58, [], 0), (.ifCond .ne 29, 61, [50], 0), (.iload 5, 64, [], 0), (.ifCond .lt 20, 66, [48], 0), (.aload_n 0, 69, [], 0), (.iload_n 1, 70, [], 0), (.iload 6, 71, [], 0), (.invokevirtual 339, 73, [], 0), (.aload_n 0, 76, [], 0), (.iload_n 1, 77, [], 0), (.iload 5, 78, [], 0), (.invokevirtual 339, 80, [], 0), (.if_icmp .le 7, 83, [50], 0), (.iload 6, 86, [], 0), (.istore 5, 88, [], 0), (.iinc 6 1, 90, [], 0), (.goto (-45), 93, [30], 0), (.iload 5, 96, [], 0), (.ifCond .ge 5, 98, [56], 0), (.iconst (-1), 101, [], 0), (.ireturn, 102, [], 0), (.iload_n 2, 103, [], 0), (.iconst 1, 104, [], 0), (.iload 5, 105, [], 0), (.ishl, 107, [], 0), (.ior, 108, [], 0), (.istore_n 2, 109, [], 0), (.iload_n 3, 110, [], 0), (.aload_n 0, 111, [], 0), (.iload_n 1, 112, [], 0), (.iload 5, 113, [], 0), (.invokevirtual 339, 115, [], 0), (.iadd, 118, [], 0), (.istore_n 3, 119, [], 0), (.iinc 4 1, 120, [], 0), (.goto (-101), 123, [15], 0), (.iconst (-1), 126, [], 0), (.ireturn, 127, [], 0)], (0, 11, 1), (0, 0))
set_option maxRecDepth 100000 in
def mt_X12_fault : mj_T := (yX12_fault, cX12_fault, 1, (some .int), [(.aload_n 0, 0, [], 0), (.iconst 0, 1, [], 0), (.putfield 1, 2, [11, 0, 252], 0), (.aload_n 0, 5, [], 0), (.getfield 180, 6, [11, 15, 249], 0), (.ireturn, 9, [], 0)], (0, 11, 0), (0, 0))
set_option maxRecDepth 100000 in
def mt_X12_feed : mj_T := (yX12_feed, cX12_feed, 6, (some .int), [(.aload_n 0, 0, [], 0), (.iconst 0, 1, [], 0), (.putfield 1, 2, [11, 0, 252], 0), (.aload_n 0, 5, [], 0), (.getfield 7, 6, [11, 2, 271], 0), (.bipush 20, 9, [], 0), (.iadd, 11, [], 0), (.sipush 940, 12, [], 0), (.if_icmp .le 5, 15, [11], 0), (.iconst (-1), 18, [], 0), (.ireturn, 19, [], 0), (.aload_n 0, 20, [], 0), (.iload_n 1, 21, [], 0), (.invokevirtual 10, 22, [96, 1, 11, 273], 0), (.aload_n 0, 25, [], 0), (.iload_n 2, 26, [], 0), (.invokevirtual 10, 27, [96, 1, 11, 273], 0), (.aload_n 0, 30, [], 0), (.iload_n 3, 31, [], 0), (.invokevirtual 10, 32, [96, 1, 11, 273], 0), (.aload_n 0, 35, [], 0), (.iload 4, 36, [], 0), (.invokevirtual 10, 38, [96, 1, 11, 273], 0), (.aload_n 0, 41, [], 0), (.iload 5, 42, [], 0), (.invokevirtual 10, 44, [96, 1, 11, 273], 0), (.aload_n 0, 47, [], 0), (.getfield 7, 48, [11, 2, 271], 0), (.ireturn, 51, [], 0)], (0, 11, 5), (0, 0))
set_option maxRecDepth 100000 in
def mt_X12_four : mj_T := (yX12_four, cX12_four, 3, none, [(.bipush 24, 0, [], 0), (.istore_n 2, 2, [], 0), (.iload_n 2, 3, [], 0), (.ifCond .lt 32, 4, [21], 0), (.aload_n 0, 7, [], 0), (.getfield 14, 8, [11, 1, 274], 0), (.aload_n 0, 11, [], 0), (.getfield 7, 12, [11, 2, 271], 0), (.iload_n 1, 15, [], 0), (.iload_n 2, 16, [], 0), (.ishr, 17, [], 0), (.i2b, 18, [], 0), (.bastore, 19, [], 0), (.aload_n 0, 20, [], 0), (.dup, 21, [], 0), (.getfield 7, 22, [11, 2, 271], 0), (.iconst 1, 25, [], 0), (.iadd, 26, [], 0), (.putfield 7, 27, [11, 2, 271], 0), (.iinc 2 (-8), 30, [], 0), (.goto (-30), 33, [2], 0), (.return_, 36, [], 0)], (0, 11, 1), (0, 0))
set_option maxRecDepth 100000 in
def mt_X12_greatest : mj_T := (yX12_greatest, cX12_greatest, 4, (some .int), [(.aload_n 0, 0, [], 0), (.iconst 0, 1, [], 0), (.putfield 1, 2, [11, 0, 252], 0), (.iload_n 1, 5, [], 0), (.invokestatic 273, 6, [102, 1, 11, 255], 0), (.ifCond .ne 5, 9, [8], 0), (.iconst (-1), 12, [], 0), (.ireturn, 13, [], 0), (.iconst (-1), 14, [], 0), (.istore_n 2, 15, [], 0), (.iconst 0, 16, [], 0), (.istore_n 3, 17, [], 0), (.iload_n 3, 18, [], 0), (.aload_n 0, 19, [], 0), (.getfield 33, 20, [11, 6, 253], 0), (.iconst 0, 23, [], 0), (.iaload, 24, [], 0), (.if_icmp .ge 39, 25, [38], 0), (.aload_n 0, 28, [], 0), (.iload_n 3, 29, [], 0), (.iload_n 1, 30, [], 0), (.invokevirtual 276, 31, [], 0), (.ifCond .le 24, 34, [36], 0), (.iload_n 2, 37, [], 0), (.ifCond .lt 18, 38, [34], 0), (.aload_n 0, 41, [], 0), (.iload_n 3, 42, [], 0), (.iload_n 1, 43, [], 0), (.invokevirtual 276, 44, [], 0), (.aload_n 0, 47, [], 0), (.iload_n 2, 48, [], 0), (.iload_n 1, 49, [], 0), (.invokevirtual 276, 50, [], 0), (.if_icmp .le 5, 53, [36], 0), (.iload_n 3, 56, [], 0), (.istore_n 2, 57, [], 0), (.iinc 3 1, 58, [], 0), (.goto (-43), 61, [12], 0), (.iload_n 2, 64, [], 0), (.ireturn, 65, [], 0)], (0, 11, 1), (0, 0))
set_option maxRecDepth 100000 in
def mt_X12_has : mj_T := (yX12_has, cX12_has, 2, (some .int), [(.aload_n 0, 0, [], 0), (.iconst 0, 1, [], 0), (.putfield 1, 2, [11, 0, 252], 0), (.aload_n 0, 5, [], 0), (.getfield 356, 6, [11, 44, 275], 0), (.ifCond .eq 26, 9, [19], 0), (.iload_n 1, 12, [], 0), (.iconst 0, 13, [], 0), (.aload_n 0, 14, [], 0), (.getfield 359, 15, [11, 43, 276], 0), (.iconst 1, 18, [], 0), (.isub, 19, [], 0), (.invokestatic 195, 20, [101, 3, 11, 257], 0), (.ifCond .eq 12, 23, [19], 0), (.aload_n 0, 26, [], 0), (.getfield 71, 27, [11, 41, 277], 0), (.iload_n 1, 30, [], 0), (.iaload, 31, [], 0), (.goto 4, 32, [20], 0), (.iconst (-1), 35, [], 0), (.ireturn, 36, [], 0)], (0, 11, 1), (0, 0))
set_option maxRecDepth 100000 in
def mt_X12_image : mj_T := (yX12_image, cX12_image, 3, (some .boolean), [(.aload_n 0, 0, [], 0), (.iconst 0, 1, [], 0), (.putfield 1, 2, [11, 0, 252], 0), (.iload_n 1, 5, [], 0), (.iconst 0, 6, [], 0), (.iconst 1, 7, [], 0), (.invokestatic 195, 8, [101, 3, 11, 257], 0), (.ifCond .ne 5, 11, [10], 0), (.iconst 0, 14, [], 0), (.ireturn, 15, [], 1), (.iconst 0, 16, [], 0), (.istore_n 2, 17, [], 0), (.iload_n 2, 18, [], 0), (.sipush 537, 19, [], 0), (.if_icmp .ge 27, 22, [29], 0), (.aload_n 0, 25, [], 0), (.getfield 96, 26, [11, 59, 278], 0), (.sipush 538, 29, [], 0), (.iload_n 1, 32, [], 0), (.imul, 33, [], 0), (.iload_n 2, 34, [], 0), (.iadd, 35, [], 0), (.aload_n 0, 36, [], 0), (.getfield 33, 37, [11, 6, 253], 0), (.iload_n 2, 40, [], 0), (.iaload, 41, [], 0), (.iastore, 42, [], 0), (.iinc 2 1, 43, [], 0), (.goto (-28), 46, [12], 0), (.aload_n 0, 49, [], 0), (.getfield 96, 50, [11, 59, 278], 0), (.sipush 538, 53, [], 0), (.iload_n 1, 56, [], 0), (.imul, 57, [], 0), (.sipush 537, 58, [], 0), (.iadd, 61, [], 0), (.aload_n 0, 62, [], 0), (.getfield 260, 63, [11, 25, 264], 0), (.iastore, 66, [], 0), (.iconst 0, 67, [], 0), (.istore_n 2, 68, [], 0), (.iload_n 2, 69, [], 0), (.bipush 8, 70, [], 0), (.if_icmp .ge 26, 72, [58], 0), (.aload_n 0, 75, [], 0), (.getfield 99, 76, [11, 60, 279], 0), (.bipush 8, 79, [], 0), (.iload_n 1, 81, [], 0), (.imul, 82, [], 0), (.iload_n 2, 83, [], 0), (.iadd, 84, [], 0), (.aload_n 0, 85, [], 0), (.getfield 43, 86, [11, 9, 280], 0), (.iload_n 2, 89, [], 0), (.laload, 90, [], 0), (.lastore, 91, [], 0), (.iinc 2 1, 92, [], 0), (.goto (-26), 95, [41], 0), (.aload_n 0, 98, [], 0), (.getfield 102, 99, [11, 61, 281], 0), (.iload_n 1, 102, [], 0), (.iconst 1, 103, [], 0), (.bastore, 104, [], 0), (.iconst 1, 105, [], 0), (.ireturn, 106, [], 1)], (0, 11, 1), (0, 0))
set_option maxRecDepth 100000 in
def mt_X12_init : mj_T := (yX12_init, cX12_init, 1, none, [(.aload_n 0, 0, [], 0), (.invokespecial 27, 1, [], 282), (.aload_n 0, 4, [], 0), (.sipush 940, 5, [], 0), (.newarray .byte, 8, [1, 144], 0), (.putfield 14, 10, [11, 1, 274], 0), (.aload_n 0, 13, [], 0), (.sipush 537, 14, [], 0), (.newarray .int, 17, [0, 1], 0), (.putfield 33, 19, [11, 6, 253], 0), (.aload_n 0, 22, [], 0), (.sipush 221, 23, [], 0), (.newarray .int, 26, [0, 1], 0), (.putfield 37, 28, [11, 7, 283], 0), (.aload_n 0, 31, [], 0), (.sipush 135, 32, [], 0), (.newarray .int, 35, [0, 1], 0), (.putfield 40, 37, [11, 8, 267], 0), (.aload_n 0, 40, [], 0), (.bipush 16, 41, [], 0), (.newarray .long, 43, [3, 82], 0), (.putfield 43, 45, [11, 9, 280], 0), (.aload_n 0, 48, [], 0), (.bipush 24, 49, [], 0), (.newarray .long, 51, [3, 82], 0), (.putfield 47, 53, [11, 10, 284], 0), (.aload_n 0, 56, [], 0), (.iconst 4, 57, [], 0), (.newarray .int, 58, [0, 1], 0), (.putfield 50, 60, [11, 23, 285], 0), (.aload_n 0, 63, [], 0), (.bipush 24, 64, [], 0), (.newarray .int, 66, [0, 1], 0), (.putfield 53, 68, [11, 27, 286], 0), (.aload_n 0, 71, [], 0), (.iconst (-1), 72, [], 0), (.putfield 56, 73, [11, 32, 287], 0), (.aload_n 0, 76, [], 0), (.bipush 13, 77, [], 0), (.newarray .int, 79, [0, 1], 0), (.putfield 59, 81, [11, 35, 261], 0), (.aload_n 0, 84, [], 0), (.bipush 13, 85, [], 0), (.newarray .int, 87, [0, 1], 0), (.putfield 62, 89, [11, 36, 259], 0), (.aload_n 0, 92, [], 0), (.bipush 39, 93, [], 0), (.newarray .int, 95, [0, 1], 0), (.putfield 65, 97, [11, 37, 260], 0), (.aload_n 0, 100, [], 0), (.bipush 12, 101, [], 0), (.newarray .int, 103, [0, 1], 0), (.putfield 68, 105, [11, 38, 262], 0), (.aload_n 0, 108, [], 0), (.bipush 8, 109, [], 0), (.newarray .int, 111, [0, 1], 0), (.putfield 71, 113, [11, 41, 277], 0), (.aload_n 0, 116, [], 0), (.bipush 12, 117, [], 0), (.newarray .int, 119, [0, 1], 0), (.putfield 74, 121, [11, 42, 288], 0), (.aload_n 0, 124, [], 0), (.sipush 135, 125, [], 0), (.newarray .int, 128, [0, 1], 0), (.putfield 77, 130, [11, 45, 289], 0), (.aload_n 0, 133, [], 0), (.bipush 12, 134, [], 0), (.newarray .int, 136, [0, 1], 0), (.putfield 80, 138, [11, 46, 290], 0), (.aload_n 0, 141, [], 0), (.bipush 120, 142, [], 0), (.newarray .int, 144, [0, 1], 0), (.putfield 83, 146, [11, 48, 291], 0), (.aload_n 0, 149, [], 0), (.sipush 400, 150, [], 0), (.newarray .byte, 153, [1, 144], 0), (.putfield 86, 155, [11, 50, 258], 0), (.aload_n 0, 158, [], 0), (.bipush 45, 159, [], 0), (.newarray .int, 161, [0, 1], 0), (.putfield 89, 163, [11, 52, 292], 0), (.aload_n 0, 166, [], 0), (.bipush 45, 167, [], 0), (.newarray .boolean, 169, [2, 37], 0), (.putfield 92, 171, [11, 58, 293], 0), (.aload_n 0, 174, [], 0), (.sipush 1076, 175, [], 0), (.newarray .int, 178, [0, 1], 0), (.putfield 96, 180, [11, 59, 278], 0), (.aload_n 0, 183, [], 0), (.bipush 16, 184, [], 0), (.newarray .long, 186, [3, 82], 0), (.putfield 99, 188, [11, 60, 279], 0), (.aload_n 0, 191, [], 0), (.iconst 2, 192, [], 0), (.newarray .boolean, 193, [2, 37], 0), (.putfield 102, 195, [11, 61, 281], 0), (.aload_n 0, 198, [], 0), (.getfield 47, 199, [11, 10, 284], 0), (.iconst 0, 202, [], 0), (.ldc2_w 105, 203, [294], 1953462126), (.lastore, 206, [], 0), (.aload_n 0, 207, [], 0), (.getfield 47, 208, [11, 10, 284], 0), (.iconst 1, 211, [], 0), (.ldc2_w 107, 212, [295], 512736126322), (.lastore, 215, [], 0), (.aload_n 0, 216, [], 0), (.getfield 47, 217, [11, 10, 284], 0), (.iconst 2, 220, [], 0), (.ldc2_w 109, 221, [296], 6449508), (.lastore, 224, [], 0), (.aload_n 0, 225, [], 0), (.getfield 47, 226, [11, 10, 284], 0), (.iconst 3, 229, [], 0), (.ldc2_w 111, 230, [297], 1852138852), (.lastore, 233, [], 0), (.aload_n 0, 234, [], 0), (.getfield 47, 235, [11, 10, 284], 0), (.iconst 4, 238, [], 0), (.ldc2_w 113, 239, [298], 1835625580), (.lastore, 242, [], 0), (.aload_n 0, 243, [], 0), (.getfield 47, 244, [11, 10, 284], 0), (.iconst 5, 247, [], 0), (.ldc2_w 115, 248, [299], 108243533981541), (.lastore, 251, [], 0), (.aload_n 0, 252, [], 0), (.getfield 47, 253, [11, 10, 284], 0), (.bipush 6, 256, [], 0), (.ldc2_w 117, 258, [300], 439854918756), (.lastore, 261, [], 0), (.aload_n 0, 262, [], 0), (.getfield 47, 263, [11, 10, 284], 0), (.bipush 7, 266, [], 0), (.ldc2_w 119, 268, [301], 1836021349), (.lastore, 271, [], 0), (.aload_n 0, 272, [], 0), (.getfield 47, 273, [11, 10, 284], 0), (.bipush 8, 276, [], 0), (.ldc2_w 121, 278, [302], 1718186856), (.lastore, 281, [], 0), (.aload_n 0, 282, [], 0), (.getfield 47, 283, [11, 10, 284], 0), (.bipush 9, 286, [], 0), (.ldc2_w 123, 288, [303], 8097881601010983781), (.lastore, 291, [], 0), (.aload_n 0, 292, [], 0), (.getfield 47, 293, [11, 10, 284], 0), (.bipush 10, 296, [], 0), (.ldc2_w 125, 298, [304], 7103860), (.lastore, 301, [], 0), (.aload_n 0, 302, [], 0), (.getfield 47, 303, [11, 10, 284], 0), (.bipush 11, 306, [], 0), (.ldc2_w 127, 308, [305], 7562593), (.lastore, 311, [], 0), (.aload_n 0, 312, [], 0), (.getfield 47, 313, [11, 10, 284], 0), (.bipush 12, 316, [], 0), (.ldc2_w 129, 318, [306], 28530), (.lastore, 321, [], 0), (.aload_n 0, 322, [], 0), (.getfield 47, 323, [11, 10, 284], 0), (.bipush 13, 326, [], 0), (.ldc2_w 131, 328, [307], 6385252), (.lastore, 331, [], 0), (.aload_n 0, 332, [], 0), (.getfield 47, 333, [11, 10, 284], 0), (.bipush 14, 336, [], 0), (.ldc2_w 133, 338, [308], 7237492), (.lastore, 341, [], 0), (.aload_n 0, 342, [], 0), (.getfield 47, 343, [11, 10, 284], 0), (.bipush 15, 346, [], 0), (.ldc2_w 135, 348, [309], 495673373285), (.lastore, 351, [], 0), (.aload_n 0, 352, [], 0), (.getfield 47, 353, [11, 10, 284], 0), (.bipush 16, 356, [], 0), (.ldc2_w 137, 358, [310], 32765899399459961), (.lastore, 361, [], 0), (.aload_n 0, 362, [], 0), (.getfield 47, 363, [11, 10, 284], 0), (.bipush 17, 366, [], 0), (.ldc2_w 139, 368, [311], 1886350948), (.lastore, 371, [], 0), (.aload_n 0, 372, [], 0), (.getfield 47, 373, [11, 10, 284], 0), (.bipush 18, 376, [], 0), (.ldc2_w 141, 378, [312], 483006772069), (.lastore, 381, [], 0), (.aload_n 0, 382, [], 0), (.getfield 47, 383, [11, 10, 284], 0), (.bipush 19, 386, [], 0), (.ldc2_w 143, 388, [313], 1885432164), (.lastore, 391, [], 0), (.aload_n 0, 392, [], 0), (.getfield 47, 393, [11, 10, 284], 0), (.bipush 20, 396, [], 0), (.ldc2_w 145, 398, [314], 6582905), (.lastore, 401, [], 0), (.aload_n 0, 402, [], 0), (.getfield 47, 403, [11, 10, 284], 0), (.bipush 21, 406, [], 0), (.ldc2_w 147, 408, [315], 1818588275), (.lastore, 411, [], 0), (.aload_n 0, 412, [], 0), (.getfield 47, 413, [11, 10, 284], 0), (.bipush 22, 416, [], 0), (.ldc2_w 149, 418, [316], 444300879214), (.lastore, 421, [], 0), (.aload_n 0, 422, [], 0), (.getfield 47, 423, [11, 10, 284], 0), (.bipush 23, 426, [], 0), (.ldc2_w 151, 428, [317], 482854658917), (.lastore, 431, [], 0), (.aload_n 0, 432, [], 0), (.getfield 33, 433, [11, 6, 253], 0), (.iconst 3, 436, [], 0), (.iconst 3, 437, [], 0), (.iastore, 438, [], 0), (.return_, 439, [], 0)], (2, 11, 0), (23, 3849))
set_option maxRecDepth 100000 in
def mt_X12_isIn : mj_T := (yX12_isIn, cX12_isIn, 3, (some .boolean), [(.iload_n 0, 0, [], 0), (.iload_n 1, 1, [], 0), (.if_icmp .lt 12, 2, [8], 0), (.iload_n 0, 5, [], 0), (.iload_n 2, 6, [], 0), (.if_icmp .gt 7, 7, [8], 0), (.iconst 1, 10, [], 0), (.goto 4, 11, [9], 0), (.iconst 0, 14, [], 0), (.ireturn, 15, [], 1)], (1, 11, 3), (0, 0))
set_option maxRecDepth 100000 in
def mt_X12_isMonth : mj_T := (yX12_isMonth, cX12_isMonth, 1, (some .boolean), [(.iload_n 0, 0, [], 0), (.iconst 0, 1, [], 0), (.bipush 11, 2, [], 0), (.invokestatic 195, 4, [101, 3, 11, 257], 0), (.ireturn, 7, [], 1)], (1, 11, 1), (0, 0))
set_option maxRecDepth 100000 in
def mt_X12_isSign : mj_T := (yX12_isSign, cX12_isSign, 2, (some .boolean), [(.aload_n 0, 0, [], 0), (.getfield 163, 1, [11, 11, 269], 0), (.iconst 3, 4, [], 0), (.if_icmp .ne 15, 5, [10], 0), (.aload_n 0, 8, [], 0), (.getfield 173, 9, [11, 14, 318], 0), (.iload_n 1, 12, [], 0), (.if_icmp .ne 7, 13, [10], 0), (.iconst 1, 16, [], 0), (.goto 4, 17, [11], 0), (.iconst 0, 20, [], 0), (.ireturn, 21, [], 1)], (0, 11, 1), (0, 0))
set_option maxRecDepth 100000 in
def mt_X12_isTown : mj_T := (yX12_isTown, cX12_isTown, 2, (some .boolean), [(.iload_n 1, 0, [], 0), (.iconst 0, 1, [], 0), (.aload_n 0, 2, [], 0), (.getfield 33, 3, [11, 6, 253], 0), (.iconst 0, 6, [], 0), (.iaload, 7, [], 0), (.iconst 1, 8, [], 0), (.isub, 9, [], 0), (.invokestatic 195, 10, [101, 3, 11, 257], 0), (.ireturn, 13, [], 1)], (0, 11, 1), (0, 0))
set_option maxRecDepth 100000 in
def mt_X12_isWord : mj_T := (yX12_isWord, cX12_isWord, 3, (some .boolean), [(.aload_n 0, 0, [], 0), (.getfield 163, 1, [11, 11, 269], 0), (.iconst 1, 4, [], 0), (.if_icmp .ne 16, 5, [11], 0), (.aload_n 0, 8, [], 0), (.getfield 176, 9, [11, 17, 319], 0), (.lload_n 1, 12, [], 0), (.lcmp, 13, [], 0), (.ifCond .ne 7, 14, [11], 0), (.iconst 1, 17, [], 0), (.goto 4, 18, [12], 0), (.iconst 0, 21, [], 0), (.ireturn, 22, [], 1)], (0, 11, 1), (0, 0))
set_option maxRecDepth 100000 in
def mt_X12_leafOf : mj_T := (yX12_leafOf, cX12_leafOf, 1, (some .int), [(.aload_n 0, 0, [], 0), (.ldc2_w 135, 1, [309], 495673373285), (.invokevirtual 202, 4, [105, 1, 11, 320], 0), (.ifCond .eq 7, 7, [6], 0), (.iconst 0, 10, [], 0), (.goto 119, 11, [55], 0), (.aload_n 0, 14, [], 0), (.ldc2_w 137, 15, [310], 32765899399459961), (.invokevirtual 202, 18, [105, 1, 11, 320], 0), (.ifCond .eq 7, 21, [12], 0), (.iconst 1, 24, [], 0), (.goto 105, 25, [55], 0), (.aload_n 0, 28, [], 0), (.ldc2_w 139, 29, [311], 1886350948), (.invokevirtual 202, 32, [105, 1, 11, 320], 0), (.ifCond .eq 7, 35, [18], 0), (.iconst 2, 38, [], 0), (.goto 91, 39, [55], 0), (.aload_n 0, 42, [], 0), (.ldc2_w 141, 43, [312], 483006772069), (.invokevirtual 202, 46, [105, 1, 11, 320], 0), (.ifCond .eq 7, 49, [24], 0), (.iconst 3, 52, [], 0), (.goto 77, 53, [55], 0), (.aload_n 0, 56, [], 0), (.ldc2_w 143, 57, [313], 1885432164), (.invokevirtual 202, 60, [105, 1, 11, 320], 0), (.ifCond .eq 7, 63, [30], 0), (.iconst 4, 66, [], 0), (.goto 63, 67, [55], 0), (.aload_n 0, 70, [], 0), (.ldc2_w 145, 71, [314], 6582905), (.invokevirtual 202, 74, [105, 1, 11, 320], 0), (.ifCond .eq 7, 77, [36], 0), (.iconst 5, 80, [], 0), (.goto 49, 81, [55], 0), (.aload_n 0, 84, [], 0), (.ldc2_w 147, 85, [315], 1818588275), (.invokevirtual 202, 88, [105, 1, 11, 320], 0), (.ifCond .eq 8, 91, [42], 0), (.bipush 6, 94, [], 0), (.goto 34, 96, [55], 0), (.aload_n 0, 99, [], 0), (.ldc2_w 149, 100, [316], 444300879214), (.invokevirtual 202, 103, [105, 1, 11, 320], 0), (.ifCond .eq 8, 106, [48], 0), (.bipush 7, 109, [], 0), (.goto 19, 111, [55], 0), (.aload_n 0, 114, [], 0), (.ldc2_w 151, 115, [317], 482854658917), (.invokevirtual 202, 118, [105, 1, 11, 320], 0), (.ifCond .eq 8, 121, [54], 0), (.bipush 8, 124, [], 0), (.goto 4, 126, [55], 0), (.iconst (-1), 129, [], 0), (.ireturn, 130, [], 0)], (0, 11, 0), (0, 0))
set_option maxRecDepth 100000 in
def mt_X12_leak : mj_T := (yX12_leak, cX12_leak, 3, (some .int), [(.aload_n 0, 0, [], 0), (.iconst 0, 1, [], 0), (.putfield 1, 2, [11, 0, 252], 0), (.iload_n 1, 5, [], 0), (.iconst 0, 6, [], 0), (.aload_n 0, 7, [], 0), (.getfield 378, 8, [11, 49, 321], 0), (.iconst 1, 11, [], 0), (.isub, 12, [], 0), (.invokestatic 195, 13, [101, 3, 11, 257], 0), (.ifCond .eq 25, 16, [25], 0), (.iload_n 2, 19, [], 0), (.iconst 0, 20, [], 0), (.iconst 2, 21, [], 0), (.invokestatic 195, 22, [101, 3, 11, 257], 0), (.ifCond .eq 16, 25, [25], 0), (.aload_n 0, 28, [], 0), (.getfield 83, 29, [11, 48, 291], 0), (.iconst 3, 32, [], 0), (.iload_n 1, 33, [], 0), (.imul, 34, [], 0), (.iload_n 2, 35, [], 0), (.iadd, 36, [], 0), (.iaload, 37, [], 0), (.goto 4, 38, [26], 0), (.iconst (-1), 41, [], 0), (.ireturn, 42, [], 0)], (0, 11, 2), (0, 0))
set_option maxRecDepth 100000 in
def mt_X12_leaks : mj_T := (yX12_leaks, cX12_leaks, 7, (some .int), [(.aload_n 0, 0, [], 0), (.iconst 0, 1, [], 0), (.putfield 1, 2, [11, 0, 252], 0), (.aload_n 0, 5, [], 0), (.sipush 940, 6, [], 0), (.invokevirtual 242, 9, [126, 1, 11, 266], 0), (.iconst 1, 12, [], 0), (.iconst 2, 13, [], 0), (.aload_n 0, 14, [], 0), (.getfield 33, 15, [11, 6, 253], 0), (.iconst 0, 18, [], 0), (.iaload, 19, [], 0), (.imul, 20, [], 0), (.iadd, 21, [], 0), (.istore_n 1, 22, [], 0), (.aload_n 0, 23, [], 0), (.getfield 33, 24, [11, 6, 253], 0), (.iconst 0, 27, [], 0), (.iaload, 28, [], 0), (.ifCond .eq 27, 29, [33], 0), (.aload_n 0, 32, [], 0), (.getfield 18, 33, [11, 3, 322], 0), (.iload_n 1, 36, [], 0), (.irem, 37, [], 0), (.ifCond .ne 18, 38, [33], 0), (.aload_n 0, 41, [], 0), (.getfield 18, 42, [11, 3, 322], 0), (.iload_n 1, 45, [], 0), (.idiv, 46, [], 0), (.iconst 1, 47, [], 0), (.bipush 12, 48, [], 0), (.invokestatic 195, 50, [101, 3, 11, 257], 0), (.ifCond .ne 5, 53, [35], 0), (.iconst (-1), 56, [], 0), (.ireturn, 57, [], 0), (.aload_n 0, 58, [], 0), (.getfield 18, 59, [11, 3, 322], 0), (.iload_n 1, 62, [], 0), (.idiv, 63, [], 0), (.istore_n 2, 64, [], 0), (.iconst 0, 65, [], 0), (.istore_n 3, 66, [], 0), (.iload_n 3, 67, [], 0), (.iload_n 2, 68, [], 0), (.if_icmp .ge 47, 69, [71], 0), (.aload_n 0, 72, [], 0), (.iload_n 1, 73, [], 0), (.iload_n 3, 74, [], 0), (.imul, 75, [], 0), (.invokevirtual 372, 76, [], 0), (.invokestatic 273, 79, [102, 1, 11, 255], 0), (.ifCond .eq 26, 82, [67], 0), (.iload_n 3, 85, [], 0), (.ifCond .le 24, 86, [69], 0), (.aload_n 0, 89, [], 0), (.iload_n 1, 90, [], 0), (.iload_n 3, 91, [], 0), (.imul, 92, [], 0), (.invokevirtual 372, 93, [], 0), (.aload_n 0, 96, [], 0), (.iload_n 1, 97, [], 0), (.iload_n 3, 98, [], 0), (.imul, 99, [], 0), (.iload_n 1, 100, [], 0), (.isub, 101, [], 0), (.invokevirtual 372, 102, [], 0), (.if_icmp .gt 5, 105, [69], 0), (.iconst (-1), 108, [], 0), (.ireturn, 109, [], 0), (.iinc 3 1, 110, [], 0), (.goto (-46), 113, [42], 0), (.aload_n 0, 116, [], 0), (.invokevirtual 375, 117, [], 0), (.iconst 0, 120, [], 0), (.istore_n 3, 121, [], 0), (.aload_n 0, 122, [], 0), (.iconst 0, 123, [], 0), (.putfield 378, 124, [11, 49, 321], 0), (.iconst 0, 127, [], 0), (.istore 4, 128, [], 0), (.iload 4, 130, [], 0), (.aload_n 0, 132, [], 0), (.getfield 33, 133, [11, 6, 253], 0), (.iconst 0, 136, [], 0), (.iaload, 137, [], 0), (.if_icmp .ge 138, 138, [156], 0), (.iconst 0, 141, [], 0), (.istore 5, 142, [], 0), (.iload 5, 144, [], 0), (.bipush 12, 146, [], 0), (.if_icmp .ge 122, 148, [154], 0), (.iconst 1, 151, [], 0), (.istore 6, 152, [], 0), (.iload 6, 154, [], 0), (.bipush 10, 156, [], 0), (.if_icmp .ge 106, 158, [152], 0), (.aload_n 0, 161, [], 0), (.iload 4, 162, [], 0), (.putfield 56, 164, [11, 32, 287], 0), (.aload_n 0, 167, [], 0), (.iload 5, 168, [], 0), (.putfield 327, 170, [11, 33, 323], 0), (.aload_n 0, 173, [], 0), (.iload 6, 174, [], 0), (.putfield 330, 176, [11, 34, 324], 0), (.aload_n 0, 179, [], 0), (.iload_n 2, 180, [], 0), (.invokevirtual 381, 181, [], 0), (.ifCond .ne 6, 184, [110], 0), (.goto 71, 187, [150], 0), (.iinc 3 1, 190, [], 0), (.aload_n 0, 193, [], 0), (.getfield 378, 194, [11, 49, 321], 0), (.bipush 40, 197, [], 0), (.if_icmp .ne 6, 199, [116], 0), (.goto 56, 202, [150], 0), (.aload_n 0, 205, [], 0), (.getfield 83, 206, [11, 48, 291], 0), (.iconst 3, 209, [], 0), (.aload_n 0, 210, [], 0), (.getfield 378, 211, [11, 49, 321], 0), (.imul, 214, [], 0), (.iload 4, 215, [], 0), (.iastore, 217, [], 0), (.aload_n 0, 218, [], 0), (.getfield 83, 219, [11, 48, 291], 0), (.iconst 3, 222, [], 0), (.aload_n 0, 223, [], 0), (.getfield 378, 224, [11, 49, 321], 0), (.imul, 227, [], 0), (.iconst 1, 228, [], 0), (.iadd, 229, [], 0), (.iload 5, 230, [], 0), (.iastore, 232, [], 0), (.aload_n 0, 233, [], 0), (.getfield 83, 234, [11, 48, 291], 0), (.iconst 3, 237, [], 0), (.aload_n 0, 238, [], 0), (.getfield 378, 239, [11, 49, 321], 0), (.imul, 242, [], 0), (.iconst 2, 243, [], 0), (.iadd, 244, [], 0), (.iload 6, 245, [], 0), (.iastore, 247, [], 0), (.aload_n 0, 248, [], 0), (.dup, 249, [], 0), (.getfield 378, 250, [11, 49, 321], 0), (.iconst 1, 253, [], 0), (.iadd, 254, [], 0), (.putfield 378, 255, [11, 49, 321], 0), (.iinc 6 1, 258, [], 0), (.goto (-107), 261, [93], 0), (.iinc 5 1, 264, [], 0), (.goto (-123), 267, [88], 0), (.iinc 4 1, 270, [], 0), (.goto (-143), 273, [80], 0), (.aload_n 0, 276, [], 0), (.iconst (-1), 277, [], 0), (.putfield 56, 278, [11, 32, 287], 0), (.aload_n 0, 281, [], 0), (.invokevirtual 384, 282, [], 0), (.iload_n 3, 285, [], 0), (.ireturn, 286, [], 0)], (0, 11, 0), (0, 0))
set_option maxRecDepth 100000 in
def mt_X12_let : mj_T := (yX12_let, cX12_let, 3, (some .int), [(.aload_n 0, 0, [], 0), (.iconst 0, 1, [], 0), (.putfield 1, 2, [11, 0, 252], 0), (.aload_n 0, 5, [], 0), (.getfield 33, 6, [11, 6, 253], 0), (.sipush 221, 9, [], 0), (.iaload, 12, [], 0), (.iconst 1, 13, [], 0), (.if_icmp .ne 47, 14, [35], 0), (.iload_n 1, 17, [], 0), (.iconst 0, 18, [], 0), (.aload_n 0, 19, [], 0), (.getfield 33, 20, [11, 6, 253], 0), (.sipush 222, 23, [], 0), (.iaload, 26, [], 0), (.iconst 1, 27, [], 0), (.isub, 28, [], 0), (.invokestatic 195, 29, [101, 3, 11, 257], 0), (.ifCond .eq 29, 32, [35], 0), (.iload_n 2, 35, [], 0), (.iconst 0, 36, [], 0), (.iconst 2, 37, [], 0), (.invokestatic 195, 38, [101, 3, 11, 257], 0), (.ifCond .eq 20, 41, [35], 0), (.aload_n 0, 44, [], 0), (.getfield 33, 45, [11, 6, 253], 0), (.sipush 320, 48, [], 0), (.iconst 3, 51, [], 0), (.iload_n 1, 52, [], 0), (.imul, 53, [], 0), (.iadd, 54, [], 0), (.iload_n 2, 55, [], 0), (.iadd, 56, [], 0), (.iaload, 57, [], 0), (.goto 4, 58, [36], 0), (.iconst (-1), 61, [], 0), (.ireturn, 62, [], 0)], (0, 11, 2), (0, 0))
set_option maxRecDepth 100000 in
def mt_X12_must : mj_T := (yX12_must, cX12_must, 7, (some .int), [(.aload_n 0, 0, [], 0), (.iconst 0, 1, [], 0), (.putfield 1, 2, [11, 0, 252], 0), (.aload_n 0, 5, [], 0), (.iload_n 1, 6, [], 0), (.invokevirtual 263, 7, [104, 1, 11, 254], 0), (.ifCond .eq 10, 10, [10], 0), (.iload_n 2, 13, [], 0), (.invokestatic 273, 14, [102, 1, 11, 255], 0), (.ifCond .ne 5, 17, [12], 0), (.iconst (-1), 20, [], 0), (.ireturn, 21, [], 0), (.aload_n 0, 22, [], 0), (.invokevirtual 375, 23, [], 0), (.aload_n 0, 26, [], 0), (.iload_n 1, 27, [], 0), (.iload_n 2, 28, [], 0), (.invokevirtual 276, 29, [], 0), (.istore_n 3, 32, [], 0), (.iconst (-1), 33, [], 0), (.istore 4, 34, [], 0), (.iconst 1, 36, [], 0), (.istore 5, 37, [], 0), (.iload 5, 39, [], 0), (.sipush 1000, 41, [], 0), (.if_icmp .ge 91, 44, [76], 0), (.iload 4, 47, [], 0), (.ifCond .ge 86, 49, [76], 0), (.aload_n 0, 52, [], 0), (.getfield 33, 53, [11, 6, 253], 0), (.bipush 88, 56, [], 0), (.bipush 12, 58, [], 0), (.iload_n 1, 60, [], 0), (.imul, 61, [], 0), (.iadd, 62, [], 0), (.iload_n 2, 63, [], 0), (.iadd, 64, [], 0), (.iload 5, 65, [], 0), (.iastore, 67, [], 0), (.aload_n 0, 68, [], 0), (.invokevirtual 333, 69, [], 0), (.iconst 0, 72, [], 0), (.istore 6, 73, [], 0), (.iload 6, 75, [], 0), (.iload_n 2, 77, [], 0), (.if_icmp .gt 14, 78, [51], 0), (.aload_n 0, 81, [], 0), (.iconst 0, 82, [], 0), (.invokevirtual 336, 83, [], 0), (.iinc 6 1, 86, [], 0), (.goto (-14), 89, [43], 0), (.aload_n 0, 92, [], 0), (.getfield 33, 93, [11, 6, 253], 0), (.sipush 320, 96, [], 0), (.iconst 3, 99, [], 0), (.iload_n 2, 100, [], 0), (.imul, 101, [], 0), (.iadd, 102, [], 0), (.iaload, 103, [], 0), (.iload_n 1, 104, [], 0), (.if_icmp .ne 24, 105, [74], 0), (.aload_n 0, 108, [], 0), (.getfield 33, 109, [11, 6, 253], 0), (.sipush 320, 112, [], 0), (.iconst 3, 115, [], 0), (.iload_n 2, 116, [], 0), (.imul, 117, [], 0), (.iadd, 118, [], 0), (.iconst 1, 119, [], 0), (.iadd, 120, [], 0), (.iaload, 121, [], 0), (.ifCond .ge 7, 122, [74], 0), (.iload 5, 125, [], 0), (.istore 4, 127, [], 0), (.iinc 5 1, 129, [], 0), (.goto (-93), 132, [23], 0), (.aload_n 0, 135, [], 0), (.getfield 33, 136, [11, 6, 253], 0), (.bipush 88, 139, [], 0), (.bipush 12, 141, [], 0), (.iload_n 1, 143, [], 0), (.imul, 144, [], 0), (.iadd, 145, [], 0), (.iload_n 2, 146, [], 0), (.iadd, 147, [], 0), (.iload_n 3, 148, [], 0), (.iastore, 149, [], 0), (.aload_n 0, 150, [], 0), (.invokevirtual 384, 151, [], 0), (.iload 4, 154, [], 0), (.ireturn, 156, [], 0)], (0, 11, 2), (0, 0))
set_option maxRecDepth 100000 in
def mt_X12_next : mj_T := (yX12_next, cX12_next, 4, none, [(.aload_n 0, 0, [], 0), (.invokevirtual 153, 1, [115, 0, 11, 325], 0), (.bipush 32, 4, [], 0), (.if_icmp .eq 12, 6, [8], 0), (.aload_n 0, 9, [], 0), (.invokevirtual 153, 10, [115, 0, 11, 325], 0), (.bipush 10, 13, [], 0), (.if_icmp .ne 16, 15, [15], 0), (.aload_n 0, 18, [], 0), (.dup, 19, [], 0), (.getfield 21, 20, [11, 4, 326], 0), (.iconst 1, 23, [], 0), (.iadd, 24, [], 0), (.putfield 21, 25, [11, 4, 326], 0), (.goto (-28), 28, [0], 0), (.aload_n 0, 31, [], 0), (.aload_n 0, 32, [], 0), (.getfield 21, 33, [11, 4, 326], 0), (.putfield 157, 36, [11, 12, 250], 0), (.aload_n 0, 39, [], 0), (.iconst 0, 40, [], 0), (.putfield 160, 41, [11, 13, 327], 0), (.aload_n 0, 44, [], 0), (.getfield 18, 45, [11, 3, 322], 0), (.aload_n 0, 48, [], 0), (.getfield 24, 49, [11, 5, 328], 0), (.if_icmp .le 28, 52, [40], 0), (.aload_n 0, 55, [], 0), (.getfield 21, 56, [11, 4, 326], 0), (.aload_n 0, 59, [], 0), (.getfield 24, 60, [11, 5, 328], 0), (.if_icmp .lt 17, 63, [40], 0), (.aload_n 0, 66, [], 0), (.aload_n 0, 67, [], 0), (.getfield 24, 68, [11, 5, 328], 0), (.putfield 157, 71, [11, 12, 250], 0), (.aload_n 0, 74, [], 0), (.iconst 4, 75, [], 0), (.putfield 163, 76, [11, 11, 269], 0), (.return_, 79, [], 0), (.aload_n 0, 80, [], 0), (.invokevirtual 153, 81, [115, 0, 11, 325], 0), (.istore_n 1, 84, [], 0), (.iload_n 1, 85, [], 0), (.ifCond .ge 9, 86, [49], 0), (.aload_n 0, 89, [], 0), (.iconst 0, 90, [], 0), (.putfield 163, 91, [11, 11, 269], 0), (.return_, 94, [], 0), (.iload_n 1, 95, [], 0), (.invokestatic 166, 96, [], 0), (.ifCond .ne 65, 99, [85], 0), (.iload_n 1, 102, [], 0), (.invokestatic 170, 103, [], 0), (.ifCond .ne 58, 106, [85], 0), (.aload_n 0, 109, [], 0), (.iload_n 1, 110, [], 0), (.bipush 59, 111, [], 0), (.if_icmp .eq 27, 113, [71], 0), (.iload_n 1, 116, [], 0), (.bipush 40, 117, [], 0), (.if_icmp .eq 21, 119, [71], 0), (.iload_n 1, 122, [], 0), (.bipush 41, 123, [], 0), (.if_icmp .eq 15, 125, [71], 0), (.iload_n 1, 128, [], 0), (.bipush 60, 129, [], 0), (.if_icmp .lt 13, 131, [73], 0), (.iload_n 1, 134, [], 0), (.bipush 62, 135, [], 0), (.if_icmp .gt 7, 137, [73], 0), (.iconst 3, 140, [], 0), (.goto 4, 141, [74], 0), (.iconst 4, 144, [], 0), (.putfield 163, 145, [11, 11, 269], 0), (.aload_n 0, 148, [], 0), (.iload_n 1, 149, [], 0), (.putfield 173, 150, [11, 14, 318], 0), (.aload_n 0, 153, [], 0), (.dup, 154, [], 0), (.getfield 21, 155, [11, 4, 326], 0), (.iconst 1, 158, [], 0), (.iadd, 159, [], 0), (.putfield 21, 160, [11, 4, 326], 0), (.return_, 163, [], 0), (.iload_n 1, 164, [], 0), (.invokestatic 166, 165, [], 0), (.istore_n 2, 168, [], 0), (.iconst 1, 169, [], 0), (.istore_n 3, 170, [], 0), (.aload_n 0, 171, [], 0), (.lconst 0, 172, [], 0), (.putfield 176, 173, [11, 17, 319], 0), (.aload_n 0, 176, [], 0), (.iconst 0, 177, [], 0), (.putfield 173, 178, [11, 14, 318], 0), (.aload_n 0, 181, [], 0), (.invokevirtual 153, 182, [115, 0, 11, 325], 0), (.invokestatic 166, 185, [], 0), (.ifCond .ne 13, 188, [104], 0), (.aload_n 0, 191, [], 0), (.invokevirtual 153, 192, [115, 0, 11, 325], 0), (.invokestatic 170, 195, [], 0), (.ifCond .eq 100, 198, [157], 0), (.iload_n 3, 201, [], 0), (.ifCond .eq 18, 202, [113], 0), (.aload_n 0, 205, [], 0), (.invokevirtual 153, 206, [115, 0, 11, 325], 0), (.invokestatic 166, 209, [], 0), (.iload_n 2, 212, [], 0), (.if_icmp .ne 7, 213, [113], 0), (.iconst 1, 216, [], 0), (.goto 4, 217, [114], 0), (.iconst 0, 220, [], 0), (.istore_n 3, 221, [], 0), (.aload_n 0, 222, [], 0), (.getfield 160, 223, [11, 13, 327], 0), (.bipush 8, 226, [], 0), (.if_icmp .ge 20, 228, [129], 0), (.aload_n 0, 231, [], 0), (.aload_n 0, 232, [], 0), (.getfield 176, 233, [11, 17, 319], 0), (.bipush 8, 236, [], 0), (.lshl, 238, [], 0), (.aload_n 0, 239, [], 0), (.invokevirtual 153, 240, [115, 0, 11, 325], 0), (.i2l, 243, [], 0), (.lor, 244, [], 0), (.putfield 176, 245, [11, 17, 319], 0), (.aload_n 0, 248, [], 0), (.getfield 160, 249, [11, 13, 327], 0), (.iconst 3, 252, [], 0), (.if_icmp .ge 22, 253, [144], 0), (.aload_n 0, 256, [], 0), (.bipush 10, 257, [], 0), (.aload_n 0, 259, [], 0), (.getfield 173, 260, [11, 14, 318], 0), (.imul, 263, [], 0), (.aload_n 0, 264, [], 0), (.invokevirtual 153, 265, [115, 0, 11, 325], 0), (.iadd, 268, [], 0), (.bipush 48, 269, [], 0), (.isub, 271, [], 0), (.putfield 173, 272, [11, 14, 318], 0), (.aload_n 0, 275, [], 0), (.dup, 276, [], 0), (.getfield 160, 277, [11, 13, 327], 0), (.iconst 1, 280, [], 0), (.iadd, 281, [], 0), (.putfield 160, 282, [11, 13, 327], 0), (.aload_n 0, 285, [], 0), (.dup, 286, [], 0), (.getfield 21, 287, [11, 4, 326], 0), (.iconst 1, 290, [], 0), (.iadd, 291, [], 0), (.putfield 21, 292, [11, 4, 326], 0), (.goto (-114), 295, [96], 0), (.aload_n 0, 298, [], 0), (.iload_n 3, 299, [], 0), (.ifCond .eq 20, 300, [168], 0), (.aload_n 0, 303, [], 0), (.getfield 160, 304, [11, 13, 327], 0), (.iload_n 2, 307, [], 0), (.ifCond .eq 8, 308, [166], 0), (.bipush 8, 311, [], 0), (.goto 4, 313, [167], 0), (.iconst 3, 316, [], 0), (.if_icmp .le 7, 317, [170], 0), (.iconst 4, 320, [], 0), (.goto 12, 321, [175], 0), (.iload_n 2, 324, [], 0), (.ifCond .eq 7, 325, [174], 0), (.iconst 1, 328, [], 0), (.goto 4, 329, [175], 0), (.iconst 2, 332, [], 0), (.putfield 163, 333, [11, 11, 269], 0), (.return_, 336, [], 0)], (0, 11, 0), (0, 0))
set_option maxRecDepth 100000 in
def mt_X12_offer : mj_T := (yX12_offer, cX12_offer, 5, (some .boolean), [(.aload_n 0, 0, [], 0), (.iconst 0, 1, [], 0), (.putfield 1, 2, [11, 0, 252], 0), (.aload_n 0, 5, [], 0), (.iload_n 1, 6, [], 0), (.invokevirtual 263, 7, [104, 1, 11, 254], 0), (.ifCond .eq 43, 10, [26], 0), (.iload_n 2, 13, [], 0), (.invokestatic 273, 14, [102, 1, 11, 255], 0), (.ifCond .eq 36, 17, [26], 0), (.iload_n 3, 20, [], 0), (.iconst 0, 21, [], 0), (.sipush 999, 22, [], 0), (.invokestatic 195, 25, [101, 3, 11, 257], 0), (.ifCond .eq 25, 28, [26], 0), (.iload_n 3, 31, [], 0), (.ifCond .le 23, 32, [28], 0), (.aload_n 0, 35, [], 0), (.iload_n 1, 36, [], 0), (.iload_n 2, 37, [], 0), (.invokevirtual 276, 38, [], 0), (.ifCond .ne 14, 41, [28], 0), (.aload_n 0, 44, [], 0), (.invokevirtual 279, 45, [83, 0, 11, 270], 0), (.bipush 40, 48, [], 0), (.if_icmp .ne 5, 50, [28], 0), (.iconst 0, 53, [], 0), (.ireturn, 54, [], 1), (.aload_n 0, 55, [], 0), (.getfield 254, 56, [11, 28, 329], 0), (.bipush 8, 59, [], 0), (.if_icmp .ne 41, 61, [52], 0), (.iconst 0, 64, [], 0), (.istore 4, 65, [], 0), (.iload 4, 67, [], 0), (.bipush 21, 69, [], 0), (.if_icmp .ge 25, 71, [49], 0), (.aload_n 0, 74, [], 0), (.getfield 53, 75, [11, 27, 286], 0), (.iload 4, 78, [], 0), (.aload_n 0, 80, [], 0), (.getfield 53, 81, [11, 27, 286], 0), (.iload 4, 84, [], 0), (.iconst 3, 86, [], 0), (.iadd, 87, [], 0), (.iaload, 88, [], 0), (.iastore, 89, [], 0), (.iinc 4 1, 90, [], 0), (.goto (-26), 93, [34], 0), (.aload_n 0, 96, [], 0), (.bipush 7, 97, [], 0), (.putfield 254, 99, [11, 28, 329], 0), (.aload_n 0, 102, [], 0), (.getfield 53, 103, [11, 27, 286], 0), (.iconst 3, 106, [], 0), (.aload_n 0, 107, [], 0), (.getfield 254, 108, [11, 28, 329], 0), (.imul, 111, [], 0), (.iload_n 1, 112, [], 0), (.iastore, 113, [], 0), (.aload_n 0, 114, [], 0), (.getfield 53, 115, [11, 27, 286], 0), (.iconst 3, 118, [], 0), (.aload_n 0, 119, [], 0), (.getfield 254, 120, [11, 28, 329], 0), (.imul, 123, [], 0), (.iconst 1, 124, [], 0), (.iadd, 125, [], 0), (.iload_n 2, 126, [], 0), (.iastore, 127, [], 0), (.aload_n 0, 128, [], 0), (.getfield 53, 129, [11, 27, 286], 0), (.iconst 3, 132, [], 0), (.aload_n 0, 133, [], 0), (.getfield 254, 134, [11, 28, 329], 0), (.imul, 137, [], 0), (.iconst 2, 138, [], 0), (.iadd, 139, [], 0), (.aload_n 0, 140, [], 0), (.iload_n 1, 141, [], 0), (.iload_n 2, 142, [], 0), (.invokevirtual 276, 143, [], 0), (.iastore, 146, [], 0), (.aload_n 0, 147, [], 0), (.dup, 148, [], 0), (.getfield 254, 149, [11, 28, 329], 0), (.iconst 1, 152, [], 0), (.iadd, 153, [], 0), (.putfield 254, 154, [11, 28, 329], 0), (.aload_n 0, 157, [], 0), (.getfield 33, 158, [11, 6, 253], 0), (.bipush 88, 161, [], 0), (.bipush 12, 163, [], 0), (.iload_n 1, 165, [], 0), (.imul, 166, [], 0), (.iadd, 167, [], 0), (.iload_n 2, 168, [], 0), (.iadd, 169, [], 0), (.iload_n 3, 170, [], 0), (.iastore, 171, [], 0), (.iconst 1, 172, [], 0), (.ireturn, 173, [], 1)], (0, 11, 3), (0, 0))
set_option maxRecDepth 100000 in
def mt_X12_on : mj_T := (yX12_on, cX12_on, 4, (some .int), [(.aload_n 0, 0, [], 0), (.iconst 0, 1, [], 0), (.putfield 1, 2, [11, 0, 252], 0), (.aload_n 0, 5, [], 0), (.getfield 33, 6, [11, 6, 253], 0), (.sipush 221, 9, [], 0), (.iaload, 12, [], 0), (.ifCond .eq 13, 13, [13], 0), (.iload_n 1, 16, [], 0), (.iconst 0, 17, [], 0), (.bipush 12, 18, [], 0), (.invokestatic 195, 20, [101, 3, 11, 257], 0), (.ifCond .ne 5, 23, [15], 0), (.iconst (-1), 26, [], 0), (.ireturn, 27, [], 0), (.iload_n 1, 28, [], 0), (.bipush 12, 29, [], 0), (.aload_n 0, 31, [], 0), (.getfield 33, 32, [11, 6, 253], 0), (.sipush 222, 35, [], 0), (.iaload, 38, [], 0), (.isub, 39, [], 0), (.if_icmp .ge 7, 40, [25], 0), (.iload_n 1, 43, [], 0), (.goto 14, 44, [31], 0), (.bipush 12, 47, [], 0), (.aload_n 0, 49, [], 0), (.getfield 33, 50, [11, 6, 253], 0), (.sipush 222, 53, [], 0), (.iaload, 56, [], 0), (.isub, 57, [], 0), (.istore_n 2, 58, [], 0), (.iconst 0, 59, [], 0), (.istore_n 3, 60, [], 0), (.iload_n 3, 61, [], 0), (.iload_n 2, 62, [], 0), (.if_icmp .ge 14, 63, [42], 0), (.aload_n 0, 66, [], 0), (.iconst 0, 67, [], 0), (.invokevirtual 336, 68, [], 0), (.iinc 3 1, 71, [], 0), (.goto (-13), 74, [34], 0), (.iload_n 2, 77, [], 0), (.ireturn, 78, [], 0)], (0, 11, 1), (0, 0))
set_option maxRecDepth 100000 in
def mt_X12_operand : mj_T := (yX12_operand, cX12_operand, 5, (some .boolean), [(.aload_n 0, 0, [], 0), (.ldc2_w 133, 1, [308], 7237492), (.invokevirtual 202, 4, [105, 1, 11, 320], 0), (.istore_n 1, 7, [], 0), (.aload_n 0, 8, [], 0), (.bipush 40, 9, [], 0), (.invokevirtual 186, 11, [103, 1, 11, 330], 0), (.istore_n 2, 14, [], 0), (.aload_n 0, 15, [], 0), (.invokevirtual 418, 16, [106, 0, 11, 331], 0), (.istore_n 3, 19, [], 0), (.iload_n 1, 20, [], 0), (.ifCond .ne 17, 21, [21], 0), (.iload_n 2, 24, [], 0), (.ifCond .ne 13, 25, [21], 0), (.iload_n 3, 28, [], 0), (.ifCond .ge 9, 29, [21], 0), (.aload_n 0, 32, [], 0), (.iconst 1, 33, [], 0), (.invokevirtual 189, 34, [80, 1, 11, 332], 0), (.ireturn, 37, [], 1), (.aload_n 0, 38, [], 0), (.getfield 421, 39, [11, 54, 333], 0), (.bipush 20, 42, [], 0), (.if_icmp .eq 12, 44, [29], 0), (.aload_n 0, 47, [], 0), (.getfield 415, 48, [11, 56, 334], 0), (.bipush 8, 51, [], 0), (.if_icmp .le 9, 53, [33], 0), (.aload_n 0, 56, [], 0), (.iconst 4, 57, [], 0), (.invokevirtual 189, 58, [80, 1, 11, 332], 0), (.ireturn, 61, [], 1), (.aload_n 0, 62, [], 0), (.dup, 63, [], 0), (.getfield 421, 64, [11, 54, 333], 0), (.iconst 1, 67, [], 0), (.iadd, 68, [], 0), (.putfield 421, 69, [11, 54, 333], 0), (.aload_n 0, 72, [], 0), (.invokevirtual 192, 73, [111, 0, 11, 268], 0), (.iload_n 1, 76, [], 0), (.ifCond .ne 7, 77, [45], 0), (.iload_n 2, 80, [], 0), (.ifCond .eq 45, 81, [69], 0), (.aload_n 0, 84, [], 0), (.getfield 89, 85, [11, 52, 292], 0), (.aload_n 0, 88, [], 0), (.getfield 409, 89, [11, 55, 335], 0), (.iload_n 1, 92, [], 0), (.ifCond .eq 8, 93, [53], 0), (.bipush 10, 96, [], 0), (.goto 5, 98, [54], 0), (.bipush 13, 101, [], 0), (.iastore, 103, [], 0), (.aload_n 0, 104, [], 0), (.dup, 105, [], 0), (.getfield 409, 106, [11, 55, 335], 0), (.iconst 1, 109, [], 0), (.iadd, 110, [], 0), (.putfield 409, 111, [11, 55, 335], 0), (.aload_n 0, 114, [], 0), (.dup, 115, [], 0), (.getfield 415, 116, [11, 56, 334], 0), (.iconst 1, 119, [], 0), (.iadd, 120, [], 0), (.putfield 415, 121, [11, 56, 334], 0), (.iconst 1, 124, [], 0), (.ireturn, 125, [], 1), (.aload_n 0, 126, [], 0), (.iconst 1, 127, [], 0), (.putfield 424, 128, [11, 57, 336], 0), (.iload_n 3, 131, [], 0), (.iconst 2, 132, [], 0), (.if_icmp .ge 12, 133, [82], 0), (.aload_n 0, 136, [], 0), (.iload_n 3, 137, [], 0), (.iconst 0, 138, [], 0), (.iconst 0, 139, [], 0), (.invokevirtual 412, 140, [], 0), (.iconst 1, 143, [], 0), (.ireturn, 144, [], 1), (.aload_n 0, 145, [], 0), (.getfield 163, 146, [11, 11, 269], 0), (.iconst 3, 149, [], 0), (.if_icmp .ne 21, 150, [94], 0), (.aload_n 0, 153, [], 0), (.getfield 173, 154, [11, 14, 318], 0), (.bipush 60, 157, [], 0), (.if_icmp .lt 12, 159, [94], 0), (.aload_n 0, 162, [], 0), (.getfield 173, 163, [11, 14, 318], 0), (.bipush 62, 166, [], 0), (.if_icmp .le 9, 168, [98], 0), (.aload_n 0, 171, [], 0), (.iconst 1, 172, [], 0), (.invokevirtual 189, 173, [80, 1, 11, 332], 0), (.ireturn, 176, [], 1), (.aload_n 0, 177, [], 0), (.getfield 173, 178, [11, 14, 318], 0), (.istore 4, 181, [], 0), (.aload_n 0, 183, [], 0), (.invokevirtual 192, 184, [111, 0, 11, 268], 0), (.aload_n 0, 187, [], 0), (.getfield 163, 188, [11, 11, 269], 0), (.iconst 2, 191, [], 0), (.if_icmp .eq 9, 192, [111], 0), (.aload_n 0, 195, [], 0), (.iconst 1, 196, [], 0), (.invokevirtual 189, 197, [80, 1, 11, 332], 0), (.ireturn, 200, [], 1), (.aload_n 0, 201, [], 0), (.iload_n 3, 202, [], 0), (.iload 4, 203, [], 0), (.aload_n 0, 205, [], 0), (.getfield 173, 206, [11, 14, 318], 0), (.invokevirtual 412, 209, [], 0), (.aload_n 0, 212, [], 0), (.invokevirtual 192, 213, [111, 0, 11, 268], 0), (.iconst 1, 216, [], 0), (.ireturn, 217, [], 1)], (0, 11, 0), (0, 0))
set_option maxRecDepth 100000 in
def mt_X12_peek : mj_T := (yX12_peek, cX12_peek, 1, (some .int), [(.aload_n 0, 0, [], 0), (.getfield 21, 1, [11, 4, 326], 0), (.aload_n 0, 4, [], 0), (.getfield 18, 5, [11, 3, 322], 0), (.if_icmp .ge 19, 8, [13], 0), (.aload_n 0, 11, [], 0), (.getfield 14, 12, [11, 1, 274], 0), (.aload_n 0, 15, [], 0), (.getfield 21, 16, [11, 4, 326], 0), (.baload, 19, [], 0), (.sipush 255, 20, [], 0), (.iand, 23, [], 0), (.goto 4, 24, [14], 0), (.iconst (-1), 27, [], 0), (.ireturn, 28, [], 0)], (0, 11, 0), (0, 0))
set_option maxRecDepth 100000 in
def mt_X12_plain : mj_T := (yX12_plain, cX12_plain, 2, (some .int), [(.aload_n 0, 0, [], 0), (.iconst 0, 1, [], 0), (.putfield 1, 2, [11, 0, 252], 0), (.aload_n 0, 5, [], 0), (.sipush 900, 6, [], 0), (.invokevirtual 242, 9, [126, 1, 11, 266], 0), (.aload_n 0, 12, [], 0), (.iconst 0, 13, [], 0), (.putfield 180, 14, [11, 15, 249], 0), (.aload_n 0, 17, [], 0), (.iconst 0, 18, [], 0), (.putfield 245, 19, [11, 19, 337], 0), (.aload_n 0, 22, [], 0), (.iconst 0, 23, [], 0), (.putfield 229, 24, [11, 20, 338], 0), (.aload_n 0, 27, [], 0), (.iconst 0, 28, [], 0), (.putfield 239, 29, [11, 21, 339], 0), (.aload_n 0, 32, [], 0), (.iconst 0, 33, [], 0), (.putfield 210, 34, [11, 22, 340], 0), (.iconst 0, 37, [], 0), (.istore_n 1, 38, [], 0), (.iload_n 1, 39, [], 0), (.iconst 4, 40, [], 0), (.if_icmp .ge 16, 41, [33], 0), (.aload_n 0, 44, [], 0), (.getfield 50, 45, [11, 23, 285], 0), (.iload_n 1, 48, [], 0), (.iconst 0, 49, [], 0), (.iastore, 50, [], 0), (.iinc 1 1, 51, [], 0), (.goto (-15), 54, [23], 0), (.iconst 0, 57, [], 0), (.istore_n 1, 58, [], 0), (.iload_n 1, 59, [], 0), (.sipush 221, 60, [], 0), (.if_icmp .ge 16, 63, [45], 0), (.aload_n 0, 66, [], 0), (.getfield 37, 67, [11, 7, 283], 0), (.iload_n 1, 70, [], 0), (.iconst 0, 71, [], 0), (.iastore, 72, [], 0), (.iinc 1 1, 73, [], 0), (.goto (-17), 76, [35], 0), (.aload_n 0, 79, [], 0), (.getfield 37, 80, [11, 7, 283], 0), (.iconst 3, 83, [], 0), (.iconst 3, 84, [], 0), (.iastore, 85, [], 0), (.aload_n 0, 86, [], 0), (.invokevirtual 192, 87, [111, 0, 11, 268], 0), (.aload_n 0, 90, [], 0), (.getfield 163, 91, [11, 11, 269], 0), (.ifCond .eq 39, 94, [74], 0), (.aload_n 0, 97, [], 0), (.invokevirtual 248, 98, [], 0), (.ifCond .eq 12, 101, [62], 0), (.aload_n 0, 104, [], 0), (.bipush 59, 105, [], 0), (.invokevirtual 251, 107, [], 0), (.ifCond .ne 10, 110, [67], 0), (.iconst (-1), 113, [], 0), (.aload_n 0, 114, [], 0), (.getfield 183, 115, [11, 16, 251], 0), (.isub, 118, [], 0), (.ireturn, 119, [], 0), (.aload_n 0, 120, [], 0), (.dup, 121, [], 0), (.getfield 245, 122, [11, 19, 337], 0), (.iconst 1, 125, [], 0), (.iadd, 126, [], 0), (.putfield 245, 127, [11, 19, 337], 0), (.goto (-40), 130, [52], 0), (.iconst 0, 133, [], 0), (.istore_n 1, 134, [], 0), (.iload_n 1, 135, [], 0), (.sipush 537, 136, [], 0), (.if_icmp .ge 32, 139, [94], 0), (.aload_n 0, 142, [], 0), (.getfield 33, 143, [11, 6, 253], 0), (.iload_n 1, 146, [], 0), (.iload_n 1, 147, [], 0), (.sipush 221, 148, [], 0), (.if_icmp .ge 12, 151, [90], 0), (.aload_n 0, 154, [], 0), (.getfield 37, 155, [11, 7, 283], 0), (.iload_n 1, 158, [], 0), (.iaload, 159, [], 0), (.goto 4, 160, [91], 0), (.iconst 0, 163, [], 0), (.iastore, 164, [], 0), (.iinc 1 1, 165, [], 0), (.goto (-33), 168, [76], 0), (.iconst 0, 171, [], 0), (.istore_n 1, 172, [], 0), (.iload_n 1, 173, [], 0), (.bipush 8, 174, [], 0), (.if_icmp .ge 24, 176, [111], 0), (.aload_n 0, 179, [], 0), (.getfield 43, 180, [11, 9, 280], 0), (.iload_n 1, 183, [], 0), (.aload_n 0, 184, [], 0), (.getfield 43, 185, [11, 9, 280], 0), (.bipush 8, 188, [], 0), (.iload_n 1, 190, [], 0), (.iadd, 191, [], 0), (.laload, 192, [], 0), (.lastore, 193, [], 0), (.iinc 1 1, 194, [], 0), (.goto (-24), 197, [96], 0), (.aload_n 0, 200, [], 0), (.iconst 0, 201, [], 0), (.putfield 254, 202, [11, 28, 329], 0), (.aload_n 0, 205, [], 0), (.dup, 206, [], 0), (.getfield 257, 207, [11, 26, 341], 0), (.iconst 1, 210, [], 0), (.iadd, 211, [], 0), (.putfield 257, 212, [11, 26, 341], 0), (.aload_n 0, 215, [], 0), (.aload_n 0, 216, [], 0), (.getfield 257, 217, [11, 26, 341], 0), (.putfield 260, 220, [11, 25, 264], 0), (.aload_n 0, 223, [], 0), (.getfield 245, 224, [11, 19, 337], 0), (.ireturn, 227, [], 0)], (0, 11, 0), (0, 0))
set_option maxRecDepth 100000 in
def mt_X12_plan : mj_T := (yX12_plan, cX12_plan, 2, (some .int), [(.aload_n 0, 0, [], 0), (.iconst 0, 1, [], 0), (.putfield 1, 2, [11, 0, 252], 0), (.aload_n 0, 5, [], 0), (.getfield 349, 6, [11, 39, 263], 0), (.ifCond .eq 19, 9, [14], 0), (.iload_n 1, 12, [], 0), (.invokestatic 273, 13, [102, 1, 11, 255], 0), (.ifCond .eq 12, 16, [14], 0), (.aload_n 0, 19, [], 0), (.getfield 68, 20, [11, 38, 262], 0), (.iload_n 1, 23, [], 0), (.iaload, 24, [], 0), (.goto 4, 25, [15], 0), (.iconst (-1), 28, [], 0), (.ireturn, 29, [], 0)], (0, 11, 1), (0, 0))
set_option maxRecDepth 100000 in
def mt_X12_price : mj_T := (yX12_price, cX12_price, 2, (some .int), [(.aload_n 0, 0, [], 0), (.iconst 0, 1, [], 0), (.putfield 1, 2, [11, 0, 252], 0), (.aload_n 0, 5, [], 0), (.getfield 356, 6, [11, 44, 275], 0), (.ifCond .eq 19, 9, [14], 0), (.iload_n 1, 12, [], 0), (.invokestatic 273, 13, [102, 1, 11, 255], 0), (.ifCond .eq 12, 16, [14], 0), (.aload_n 0, 19, [], 0), (.getfield 74, 20, [11, 42, 288], 0), (.iload_n 1, 23, [], 0), (.iaload, 24, [], 0), (.goto 4, 25, [15], 0), (.iconst (-1), 28, [], 0), (.ireturn, 29, [], 0)], (0, 11, 1), (0, 0))
set_option maxRecDepth 100000 in
def mt_X12_restore : mj_T := (yX12_restore, cX12_restore, 3, (some .boolean), [(.aload_n 0, 0, [], 0), (.iconst 0, 1, [], 0), (.putfield 1, 2, [11, 0, 252], 0), (.iload_n 1, 5, [], 0), (.iconst 0, 6, [], 0), (.iconst 1, 7, [], 0), (.invokestatic 195, 8, [101, 3, 11, 257], 0), (.ifCond .eq 12, 11, [13], 0), (.aload_n 0, 14, [], 0), (.getfield 102, 15, [11, 61, 281], 0), (.iload_n 1, 18, [], 0), (.baload, 19, [], 0), (.ifCond .ne 5, 20, [15], 0), (.iconst 0, 23, [], 0), (.ireturn, 24, [], 1), (.iconst 0, 25, [], 0), (.istore_n 2, 26, [], 0), (.iload_n 2, 27, [], 0), (.sipush 537, 28, [], 0), (.if_icmp .ge 27, 31, [34], 0), (.aload_n 0, 34, [], 0), (.getfield 33, 35, [11, 6, 253], 0), (.iload_n 2, 38, [], 0), (.aload_n 0, 39, [], 0), (.getfield 96, 40, [11, 59, 278], 0), (.sipush 538, 43, [], 0), (.iload_n 1, 46, [], 0), (.imul, 47, [], 0), (.iload_n 2, 48, [], 0), (.iadd, 49, [], 0), (.iaload, 50, [], 0), (.iastore, 51, [], 0), (.iinc 2 1, 52, [], 0), (.goto (-28), 55, [17], 0), (.aload_n 0, 58, [], 0), (.aload_n 0, 59, [], 0), (.getfield 96, 60, [11, 59, 278], 0), (.sipush 538, 63, [], 0), (.iload_n 1, 66, [], 0), (.imul, 67, [], 0), (.sipush 537, 68, [], 0), (.iadd, 71, [], 0), (.iaload, 72, [], 0), (.putfield 260, 73, [11, 25, 264], 0), (.iconst 0, 76, [], 0), (.istore_n 2, 77, [], 0), (.iload_n 2, 78, [], 0), (.bipush 8, 79, [], 0), (.if_icmp .ge 26, 81, [63], 0), (.aload_n 0, 84, [], 0), (.getfield 43, 85, [11, 9, 280], 0), (.iload_n 2, 88, [], 0), (.aload_n 0, 89, [], 0), (.getfield 99, 90, [11, 60, 279], 0), (.bipush 8, 93, [], 0), (.iload_n 1, 95, [], 0), (.imul, 96, [], 0), (.iload_n 2, 97, [], 0), (.iadd, 98, [], 0), (.laload, 99, [], 0), (.lastore, 100, [], 0), (.iinc 2 1, 101, [], 0), (.goto (-26), 104, [46], 0), (.aload_n 0, 107, [], 0), (.iconst 0, 108, [], 0), (.putfield 254, 109, [11, 28, 329], 0), (.iconst 1, 112, [], 0), (.ireturn, 113, [], 1)], (0, 11, 1), (0, 0))
set_option maxRecDepth 100000 in
def mt_X12_rounds : mj_T := (yX12_rounds, cX12_rounds, 9, (some .int), [(.aload_n 0, 0, [], 0), (.iconst 0, 1, [], 0), (.putfield 1, 2, [11, 0, 252], 0), (.iload_n 1, 5, [], 0), (.iconst 1, 6, [], 0), (.bipush 99, 7, [], 0), (.invokestatic 195, 9, [101, 3, 11, 257], 0), (.ifCond .eq 12, 12, [13], 0), (.aload_n 0, 15, [], 0), (.getfield 33, 16, [11, 6, 253], 0), (.iconst 0, 19, [], 0), (.iaload, 20, [], 0), (.ifCond .ne 5, 21, [15], 0), (.iconst (-1), 24, [], 0), (.ireturn, 25, [], 0), (.iconst 0, 26, [], 0), (.istore_n 2, 27, [], 0), (.iload_n 2, 28, [], 0), (.bipush 8, 29, [], 0), (.if_icmp .ge 16, 31, [27], 0), (.aload_n 0, 34, [], 0), (.getfield 71, 35, [11, 41, 277], 0), (.iload_n 2, 38, [], 0), (.iconst (-1), 39, [], 0), (.iastore, 40, [], 0), (.iinc 2 1, 41, [], 0), (.goto (-16), 44, [17], 0), (.iconst 0, 47, [], 0), (.istore_n 2, 48, [], 0), (.iload_n 2, 49, [], 0), (.bipush 12, 50, [], 0), (.if_icmp .ge 16, 52, [39], 0), (.aload_n 0, 55, [], 0), (.getfield 74, 56, [11, 42, 288], 0), (.iload_n 2, 59, [], 0), (.iconst 0, 60, [], 0), (.iastore, 61, [], 0), (.iinc 2 1, 62, [], 0), (.goto (-16), 65, [29], 0), (.aload_n 0, 68, [], 0), (.iconst 1, 69, [], 0), (.putfield 356, 70, [11, 44, 275], 0), (.aload_n 0, 73, [], 0), (.aload_n 0, 74, [], 0), (.getfield 33, 75, [11, 6, 253], 0), (.iconst 0, 78, [], 0), (.iaload, 79, [], 0), (.putfield 359, 80, [11, 43, 276], 0), (.iconst 0, 83, [], 0), (.istore_n 2, 84, [], 0), (.iconst 1, 85, [], 0), (.istore_n 3, 86, [], 0), (.iload_n 3, 87, [], 0), (.ifCond .eq 175, 88, [143], 0), (.iload_n 2, 91, [], 0), (.sipush 1000, 92, [], 0), (.if_icmp .ge 168, 95, [143], 0), (.iconst 0, 98, [], 0), (.istore_n 3, 99, [], 0), (.iinc 2 1, 100, [], 0), (.iconst 0, 103, [], 0), (.istore 4, 104, [], 0), (.iload 4, 106, [], 0), (.aload_n 0, 108, [], 0), (.getfield 33, 109, [11, 6, 253], 0), (.iconst 0, 112, [], 0), (.iaload, 113, [], 0), (.if_icmp .ge 146, 114, [142], 0), (.aload_n 0, 117, [], 0), (.getfield 71, 118, [11, 41, 277], 0), (.iload 4, 121, [], 0), (.iaload, 123, [], 0), (.ifCond .lt 6, 124, [74], 0), (.goto 127, 127, [140], 0), (.iconst (-1), 130, [], 0), (.istore 5, 131, [], 0), (.iconst 0, 133, [], 0), (.istore 6, 134, [], 0), (.iconst 0, 136, [], 0), (.istore 7, 137, [], 0), (.iload 7, 139, [], 0), (.bipush 12, 141, [], 0), (.if_icmp .ge 60, 143, [111], 0), (.aload_n 0, 146, [], 0), (.iload 4, 147, [], 0), (.iload 7, 149, [], 0), (.invokevirtual 276, 151, [], 0), (.aload_n 0, 154, [], 0), (.getfield 74, 155, [11, 42, 288], 0), (.iload 7, 158, [], 0), (.iaload, 160, [], 0), (.isub, 161, [], 0), (.aload_n 0, 162, [], 0), (.iload 7, 163, [], 0), (.invokevirtual 362, 165, [], 0), (.ifCond .lt 7, 168, [98], 0), (.iload_n 1, 171, [], 0), (.goto 4, 172, [99], 0), (.iconst 0, 175, [], 0), (.isub, 176, [], 0), (.istore 8, 177, [], 0), (.iload 8, 179, [], 0), (.iload 6, 181, [], 0), (.if_icmp .gt 6, 183, [105], 0), (.goto 11, 186, [109], 0), (.iload 8, 189, [], 0), (.istore 6, 191, [], 0), (.iload 7, 193, [], 0), (.istore 5, 195, [], 0), (.iinc 7 1, 197, [], 0), (.goto (-61), 200, [80], 0), (.iload 5, 203, [], 0), (.ifCond .ge 6, 205, [114], 0), (.goto 46, 208, [140], 0), (.aload_n 0, 211, [], 0), (.iload 5, 212, [], 0), (.invokevirtual 362, 214, [], 0), (.istore 7, 217, [], 0), (.iload 7, 219, [], 0), (.ifCond .lt 22, 221, [133], 0), (.aload_n 0, 224, [], 0), (.getfield 74, 225, [11, 42, 288], 0), (.iload 5, 228, [], 0), (.dup2, 230, [], 0), (.iaload, 231, [], 0), (.iload_n 1, 232, [], 0), (.iadd, 233, [], 0), (.iastore, 234, [], 0), (.aload_n 0, 235, [], 0), (.getfield 71, 236, [11, 41, 277], 0), (.iload 7, 239, [], 0), (.iconst (-1), 241, [], 0), (.iastore, 242, [], 0), (.aload_n 0, 243, [], 0), (.getfield 71, 244, [11, 41, 277], 0), (.iload 4, 247, [], 0), (.iload 5, 249, [], 0), (.iastore, 251, [], 0), (.iconst 1, 252, [], 0), (.istore_n 3, 253, [], 0), (.iinc 4 1, 254, [], 0), (.goto (-151), 257, [62], 0), (.goto (-173), 260, [52], 0), (.iload_n 2, 263, [], 0), (.ireturn, 264, [], 0)], (0, 11, 1), (0, 0))
set_option maxRecDepth 100000 in
def mt_X12_said : mj_T := (yX12_said, cX12_said, 4, (some .int), [(.aload_n 0, 0, [], 0), (.iconst 0, 1, [], 0), (.putfield 1, 2, [11, 0, 252], 0), (.aload_n 0, 5, [], 0), (.getfield 33, 6, [11, 6, 253], 0), (.sipush 356, 9, [], 0), (.iaload, 12, [], 0), (.ifCond .eq 19, 13, [16], 0), (.aload_n 0, 16, [], 0), (.getfield 33, 17, [11, 6, 253], 0), (.sipush 221, 20, [], 0), (.iaload, 23, [], 0), (.ifCond .eq 8, 24, [16], 0), (.iload_n 1, 27, [], 0), (.iconst (-1), 28, [], 0), (.if_icmp .ge 5, 29, [18], 0), (.iconst (-1), 32, [], 0), (.ireturn, 33, [], 0), (.iconst 0, 34, [], 0), (.istore_n 2, 35, [], 0), (.iconst 0, 36, [], 0), (.istore_n 3, 37, [], 0), (.iload_n 3, 38, [], 0), (.aload_n 0, 39, [], 0), (.getfield 33, 40, [11, 6, 253], 0), (.iconst 0, 43, [], 0), (.iaload, 44, [], 0), (.if_icmp .ge 30, 45, [41], 0), (.aload_n 0, 48, [], 0), (.iload_n 3, 49, [], 0), (.invokevirtual 443, 50, [], 0), (.ifCond .ne 6, 53, [33], 0), (.goto 13, 56, [39], 0), (.iload_n 2, 59, [], 0), (.iload_n 1, 60, [], 0), (.if_icmp .ne 5, 61, [38], 0), (.iload_n 3, 64, [], 0), (.ireturn, 65, [], 0), (.iinc 2 1, 66, [], 0), (.iinc 3 1, 69, [], 0), (.goto (-34), 72, [22], 0), (.iload_n 1, 75, [], 0), (.iconst (-1), 76, [], 0), (.if_icmp .ne 7, 77, [46], 0), (.iload_n 2, 80, [], 0), (.goto 4, 81, [47], 0), (.iconst (-1), 84, [], 0), (.ireturn, 85, [], 0)], (0, 11, 1), (0, 0))
set_option maxRecDepth 100000 in
def mt_X12_sentence : mj_T := (yX12_sentence, cX12_sentence, 3, (some .int), [(.aload_n 0, 0, [], 0), (.iconst 0, 1, [], 0), (.putfield 1, 2, [11, 0, 252], 0), (.aload_n 0, 5, [], 0), (.sipush 200, 6, [], 0), (.invokevirtual 242, 9, [126, 1, 11, 266], 0), (.aload_n 0, 12, [], 0), (.iconst 0, 13, [], 0), (.putfield 180, 14, [11, 15, 249], 0), (.aload_n 0, 17, [], 0), (.iconst 0, 18, [], 0), (.putfield 406, 19, [11, 53, 342], 0), (.aload_n 0, 22, [], 0), (.iconst 0, 23, [], 0), (.putfield 421, 24, [11, 54, 333], 0), (.aload_n 0, 27, [], 0), (.iconst 0, 28, [], 0), (.putfield 409, 29, [11, 55, 335], 0), (.aload_n 0, 32, [], 0), (.iconst 1, 33, [], 0), (.putfield 415, 34, [11, 56, 334], 0), (.aload_n 0, 37, [], 0), (.iconst 0, 38, [], 0), (.putfield 424, 39, [11, 57, 336], 0), (.aload_n 0, 42, [], 0), (.invokevirtual 192, 43, [111, 0, 11, 268], 0), (.iconst 1, 46, [], 0), (.istore_n 1, 47, [], 0), (.iload_n 1, 48, [], 0), (.ifCond .eq 83, 49, [71], 0), (.aload_n 0, 52, [], 0), (.getfield 424, 53, [11, 57, 336], 0), (.ifCond .eq 45, 56, [56], 0), (.aload_n 0, 59, [], 0), (.getfield 163, 60, [11, 11, 269], 0), (.ifCond .ne 38, 63, [56], 0), (.aload_n 0, 66, [], 0), (.invokevirtual 427, 67, [], 0), (.aload_n 0, 70, [], 0), (.bipush 12, 71, [], 0), (.invokevirtual 430, 73, [], 0), (.aload_n 0, 76, [], 0), (.getfield 409, 77, [11, 55, 335], 0), (.ifCond .le 16, 80, [53], 0), (.aload_n 0, 83, [], 0), (.iconst 1, 84, [], 0), (.invokevirtual 189, 85, [80, 1, 11, 332], 0), (.pop, 88, [], 0), (.iconst (-1), 89, [], 0), (.aload_n 0, 90, [], 0), (.getfield 183, 91, [11, 16, 251], 0), (.isub, 94, [], 0), (.ireturn, 95, [], 0), (.iconst 0, 96, [], 0), (.istore_n 1, 97, [], 0), (.goto (-50), 98, [28], 0), (.aload_n 0, 101, [], 0), (.getfield 424, 102, [11, 57, 336], 0), (.ifCond .eq 13, 105, [63], 0), (.aload_n 0, 108, [], 0), (.invokevirtual 433, 109, [], 0), (.ifCond .ne (-64), 112, [28], 0), (.goto 10, 115, [66], 0), (.aload_n 0, 118, [], 0), (.invokevirtual 436, 119, [114, 0, 11, 343], 0), (.ifCond .ne (-74), 122, [28], 0), (.iconst (-1), 125, [], 0), (.aload_n 0, 126, [], 0), (.getfield 183, 127, [11, 16, 251], 0), (.isub, 130, [], 0), (.ireturn, 131, [], 0), (.aload_n 0, 132, [], 0), (.getfield 33, 133, [11, 6, 253], 0), (.sipush 356, 136, [], 0), (.aload_n 0, 139, [], 0), (.getfield 406, 140, [11, 53, 342], 0), (.iastore, 143, [], 0), (.iconst 0, 144, [], 0), (.istore_n 2, 145, [], 0), (.iload_n 2, 146, [], 0), (.iconst 3, 147, [], 0), (.aload_n 0, 148, [], 0), (.getfield 406, 149, [11, 53, 342], 0), (.imul, 152, [], 0), (.if_icmp .ge 25, 153, [97], 0), (.aload_n 0, 156, [], 0), (.getfield 33, 157, [11, 6, 253], 0), (.sipush 357, 160, [], 0), (.iload_n 2, 163, [], 0), (.iadd, 164, [], 0), (.aload_n 0, 165, [], 0), (.getfield 40, 166, [11, 8, 267], 0), (.iload_n 2, 169, [], 0), (.iaload, 170, [], 0), (.iastore, 171, [], 0), (.iinc 2 1, 172, [], 0), (.goto (-29), 175, [79], 0), (.aload_n 0, 178, [], 0), (.getfield 421, 179, [11, 54, 333], 0), (.ireturn, 182, [], 0)], (0, 11, 0), (0, 0))
set_option maxRecDepth 100000 in
def mt_X12_shores : mj_T := (yX12_shores, cX12_shores, 6, (some .int), [(.aload_n 0, 0, [], 0), (.iconst 0, 1, [], 0), (.putfield 1, 2, [11, 0, 252], 0), (.aload_n 0, 5, [], 0), (.iload_n 1, 6, [], 0), (.invokevirtual 263, 7, [104, 1, 11, 254], 0), (.ifCond .eq 13, 10, [12], 0), (.iload_n 2, 13, [], 0), (.iconst 1, 14, [], 0), (.bipush 100, 15, [], 0), (.invokestatic 195, 17, [101, 3, 11, 257], 0), (.ifCond .ne 5, 20, [14], 0), (.iconst (-1), 23, [], 0), (.ireturn, 24, [], 0), (.aload_n 0, 25, [], 0), (.invokevirtual 375, 26, [], 0), (.iconst 0, 29, [], 0), (.istore 4, 30, [], 0), (.iconst 0, 32, [], 0), (.istore 5, 33, [], 0), (.iload 5, 35, [], 0), (.iload_n 2, 37, [], 0), (.if_icmp .ge 33, 38, [40], 0), (.aload_n 0, 41, [], 0), (.iload_n 3, 42, [], 0), (.iload 5, 43, [], 0), (.iadd, 45, [], 0), (.putfield 368, 46, [11, 47, 272], 0), (.aload_n 0, 49, [], 0), (.iconst 1, 50, [], 0), (.invokevirtual 387, 51, [], 0), (.iload 4, 54, [], 0), (.aload_n 0, 56, [], 0), (.iload_n 1, 57, [], 0), (.iconst 3, 58, [], 0), (.invokevirtual 285, 59, [], 0), (.iadd, 62, [], 0), (.istore 4, 63, [], 0), (.iinc 5 1, 65, [], 0), (.goto (-33), 68, [20], 0), (.aload_n 0, 71, [], 0), (.invokevirtual 384, 72, [], 0), (.iload 4, 75, [], 0), (.ireturn, 77, [], 0)], (0, 11, 3), (0, 0))
set_option maxRecDepth 100000 in
def mt_X12_shoresOf : mj_T := (yX12_shoresOf, cX12_shoresOf, 3, (some .int), [(.aload_n 0, 0, [], 0), (.iconst 0, 1, [], 0), (.putfield 1, 2, [11, 0, 252], 0), (.aload_n 0, 5, [], 0), (.getfield 33, 6, [11, 6, 253], 0), (.iconst 0, 9, [], 0), (.iaload, 10, [], 0), (.ifCond .ne 5, 11, [10], 0), (.iconst (-1), 14, [], 0), (.ireturn, 15, [], 0), (.aload_n 0, 16, [], 0), (.invokevirtual 375, 17, [], 0), (.aload_n 0, 20, [], 0), (.iconst 0, 21, [], 0), (.invokevirtual 387, 22, [], 0), (.iconst 0, 25, [], 0), (.istore_n 1, 26, [], 0), (.iconst 0, 27, [], 0), (.istore_n 2, 28, [], 0), (.iload_n 2, 29, [], 0), (.aload_n 0, 30, [], 0), (.getfield 33, 31, [11, 6, 253], 0), (.iconst 0, 34, [], 0), (.iaload, 35, [], 0), (.if_icmp .ge 20, 36, [36], 0), (.iload_n 1, 39, [], 0), (.aload_n 0, 40, [], 0), (.iload_n 2, 41, [], 0), (.iconst 3, 42, [], 0), (.invokevirtual 285, 43, [], 0), (.iload_n 2, 46, [], 0), (.ishl, 47, [], 0), (.ior, 48, [], 0), (.istore_n 1, 49, [], 0), (.iinc 2 1, 50, [], 0), (.goto (-24), 53, [19], 0), (.aload_n 0, 56, [], 0), (.invokevirtual 384, 57, [], 0), (.iload_n 1, 60, [], 0), (.ireturn, 61, [], 0)], (0, 11, 0), (0, 0))
set_option maxRecDepth 100000 in
def mt_X12_take : mj_T := (yX12_take, cX12_take, 2, (some .boolean), [(.aload_n 0, 0, [], 0), (.iconst 0, 1, [], 0), (.putfield 1, 2, [11, 0, 252], 0), (.aload_n 0, 5, [], 0), (.getfield 349, 6, [11, 39, 263], 0), (.ifCond .eq 14, 9, [11], 0), (.aload_n 0, 12, [], 0), (.getfield 353, 13, [11, 40, 265], 0), (.aload_n 0, 16, [], 0), (.getfield 260, 17, [11, 25, 264], 0), (.if_icmp .eq 5, 20, [13], 0), (.iconst 0, 23, [], 0), (.ireturn, 24, [], 1), (.iconst 0, 25, [], 0), (.istore_n 1, 26, [], 0), (.iload_n 1, 27, [], 0), (.bipush 12, 28, [], 0), (.if_icmp .ge 84, 30, [70], 0), (.aload_n 0, 33, [], 0), (.getfield 33, 34, [11, 6, 253], 0), (.sipush 184, 37, [], 0), (.iconst 3, 40, [], 0), (.iload_n 1, 41, [], 0), (.imul, 42, [], 0), (.iadd, 43, [], 0), (.aload_n 0, 44, [], 0), (.getfield 68, 45, [11, 38, 262], 0), (.iload_n 1, 48, [], 0), (.iaload, 49, [], 0), (.iconst 1, 50, [], 0), (.iadd, 51, [], 0), (.iastore, 52, [], 0), (.aload_n 0, 53, [], 0), (.getfield 33, 54, [11, 6, 253], 0), (.sipush 184, 57, [], 0), (.iconst 3, 60, [], 0), (.iload_n 1, 61, [], 0), (.imul, 62, [], 0), (.iadd, 63, [], 0), (.iconst 1, 64, [], 0), (.iadd, 65, [], 0), (.iconst 0, 66, [], 0), (.iastore, 67, [], 0), (.aload_n 0, 68, [], 0), (.getfield 33, 69, [11, 6, 253], 0), (.sipush 184, 72, [], 0), (.iconst 3, 75, [], 0), (.iload_n 1, 76, [], 0), (.imul, 77, [], 0), (.iadd, 78, [], 0), (.iconst 2, 79, [], 0), (.iadd, 80, [], 0), (.aload_n 0, 81, [], 0), (.getfield 68, 82, [11, 38, 262], 0), (.iload_n 1, 85, [], 0), (.iaload, 86, [], 0), (.bipush 8, 87, [], 0), (.if_icmp .ge 17, 89, [66], 0), (.aload_n 0, 92, [], 0), (.aload_n 0, 93, [], 0), (.getfield 68, 94, [11, 38, 262], 0), (.iload_n 1, 97, [], 0), (.iaload, 98, [], 0), (.iload_n 1, 99, [], 0), (.invokevirtual 276, 100, [], 0), (.goto 4, 103, [67], 0), (.iconst 0, 106, [], 0), (.iastore, 107, [], 0), (.iinc 1 1, 108, [], 0), (.goto (-84), 111, [15], 0), (.aload_n 0, 114, [], 0), (.getfield 33, 115, [11, 6, 253], 0), (.sipush 220, 118, [], 0), (.bipush 12, 121, [], 0), (.iastore, 123, [], 0), (.iconst 1, 124, [], 0), (.ireturn, 125, [], 1)], (0, 11, 0), (0, 0))
set_option maxRecDepth 100000 in
def mt_X12_taken : mj_T := (yX12_taken, cX12_taken, 2, none, [(.aload_n 0, 0, [], 0), (.aload_n 0, 1, [], 0), (.getfield 7, 2, [11, 2, 271], 0), (.putfield 18, 5, [11, 3, 322], 0), (.aload_n 0, 8, [], 0), (.iconst 0, 9, [], 0), (.putfield 7, 10, [11, 2, 271], 0), (.aload_n 0, 13, [], 0), (.iconst 0, 14, [], 0), (.putfield 21, 15, [11, 4, 326], 0), (.aload_n 0, 18, [], 0), (.iload_n 1, 19, [], 0), (.putfield 24, 20, [11, 5, 328], 0), (.return_, 23, [], 0)], (0, 11, 1), (0, 0))
set_option maxRecDepth 100000 in
def mt_X12_thirsty : mj_T := (yX12_thirsty, cX12_thirsty, 3, (some .int), [(.aload_n 0, 0, [], 0), (.iconst 0, 1, [], 0), (.putfield 1, 2, [11, 0, 252], 0), (.aload_n 0, 5, [], 0), (.getfield 33, 6, [11, 6, 253], 0), (.iconst 0, 9, [], 0), (.iaload, 10, [], 0), (.ifCond .ne 5, 11, [10], 0), (.iconst (-1), 14, [], 0), (.ireturn, 15, [], 0), (.aload_n 0, 16, [], 0), (.invokevirtual 375, 17, [], 0), (.aload_n 0, 20, [], 0), (.iconst 0, 21, [], 0), (.invokevirtual 387, 22, [], 0), (.iconst 0, 25, [], 0), (.istore_n 1, 26, [], 0), (.iconst 0, 27, [], 0), (.istore_n 2, 28, [], 0), (.iload_n 2, 29, [], 0), (.aload_n 0, 30, [], 0), (.getfield 33, 31, [11, 6, 253], 0), (.iconst 0, 34, [], 0), (.iaload, 35, [], 0), (.if_icmp .ge 35, 36, [44], 0), (.iload_n 1, 39, [], 0), (.aload_n 0, 40, [], 0), (.iload_n 2, 41, [], 0), (.bipush 6, 42, [], 0), (.invokevirtual 285, 44, [], 0), (.aload_n 0, 47, [], 0), (.iload_n 2, 48, [], 0), (.iconst 4, 49, [], 0), (.invokevirtual 270, 50, [], 0), (.if_icmp .ge 9, 53, [39], 0), (.iconst 1, 56, [], 0), (.iload_n 2, 57, [], 0), (.ishl, 58, [], 0), (.goto 4, 59, [40], 0), (.iconst 0, 62, [], 0), (.ior, 63, [], 0), (.istore_n 1, 64, [], 0), (.iinc 2 1, 65, [], 0), (.goto (-39), 68, [19], 0), (.aload_n 0, 71, [], 0), (.invokevirtual 384, 72, [], 0), (.iload_n 1, 75, [], 0), (.ireturn, 76, [], 0)], (0, 11, 0), (0, 0))
set_option maxRecDepth 100000 in
def mt_X12_thrown : mj_T := (yX12_thrown, cX12_thrown, 1, (some .int), [(.aload_n 0, 0, [], 0), (.getfield 1, 1, [11, 0, 252], 0), (.ireturn, 4, [], 0)], (0, 11, 0), (0, 0))
set_option maxRecDepth 100000 in
def mt_X12_throwsIf : mj_T := (yX12_throwsIf, cX12_throwsIf, 2, (some .boolean), [(.aload_n 0, 0, [], 0), (.iload_n 1, 1, [], 0), (.ifCond .eq 7, 2, [5], 0), (.iconst 1, 5, [], 0), (.goto 4, 6, [6], 0), (.iconst 0, 9, [], 0), (.putfield 1, 10, [11, 0, 252], 0), (.iload_n 1, 13, [], 0), (.ireturn, 14, [], 1)], (0, 11, 1), (0, 0))
set_option maxRecDepth 100000 in
def mt_X12_told : mj_T := (yX12_told, cX12_told, 3, (some .int), [(.aload_n 0, 0, [], 0), (.aload_n 0, 1, [], 0), (.iload_n 1, 2, [], 0), (.invokevirtual 263, 3, [104, 1, 11, 254], 0), (.ifCond .eq 13, 6, [10], 0), (.iload_n 2, 9, [], 0), (.iconst 0, 10, [], 0), (.bipush 8, 11, [], 0), (.invokestatic 195, 13, [101, 3, 11, 257], 0), (.ifCond .ne 7, 16, [12], 0), (.iconst 1, 19, [], 0), (.goto 4, 20, [13], 0), (.iconst 0, 23, [], 0), (.invokevirtual 266, 24, [129, 1, 11, 344], 0), (.ifCond .eq 7, 27, [17], 0), (.iconst 0, 30, [], 0), (.goto 9, 31, [21], 0), (.aload_n 0, 34, [], 0), (.iload_n 1, 35, [], 0), (.iload_n 2, 36, [], 0), (.invokevirtual 270, 37, [], 0), (.ireturn, 40, [], 0)], (0, 11, 2), (0, 0))
set_option maxRecDepth 100000 in
def mt_X12_town : mj_T := (yX12_town, cX12_town, 3, (some .int), [(.aload_n 0, 0, [], 0), (.iconst 0, 1, [], 0), (.putfield 1, 2, [11, 0, 252], 0), (.aload_n 0, 5, [], 0), (.getfield 33, 6, [11, 6, 253], 0), (.sipush 221, 9, [], 0), (.iaload, 12, [], 0), (.iconst 1, 13, [], 0), (.if_icmp .ne 30, 14, [23], 0), (.aload_n 0, 17, [], 0), (.iload_n 1, 18, [], 0), (.invokevirtual 263, 19, [104, 1, 11, 254], 0), (.ifCond .eq 22, 22, [23], 0), (.iload_n 2, 25, [], 0), (.iconst 0, 26, [], 0), (.bipush 9, 27, [], 0), (.invokestatic 195, 29, [101, 3, 11, 257], 0), (.ifCond .eq 12, 32, [23], 0), (.aload_n 0, 35, [], 0), (.iload_n 1, 36, [], 0), (.iload_n 2, 37, [], 0), (.invokevirtual 285, 38, [], 0), (.goto 4, 41, [24], 0), (.iconst (-1), 44, [], 0), (.ireturn, 45, [], 0)], (0, 11, 2), (0, 0))
set_option maxRecDepth 100000 in
def mt_X12_undo : mj_T := (yX12_undo, cX12_undo, 1, (some .int), [(.aload_n 0, 0, [], 0), (.iconst 0, 1, [], 0), (.putfield 1, 2, [11, 0, 252], 0), (.aload_n 0, 5, [], 0), (.getfield 254, 6, [11, 28, 329], 0), (.ifCond .ne 5, 9, [8], 0), (.iconst (-1), 12, [], 0), (.ireturn, 13, [], 0), (.aload_n 0, 14, [], 0), (.dup, 15, [], 0), (.getfield 254, 16, [11, 28, 329], 0), (.iconst 1, 19, [], 0), (.isub, 20, [], 0), (.putfield 254, 21, [11, 28, 329], 0), (.aload_n 0, 24, [], 0), (.getfield 33, 25, [11, 6, 253], 0), (.bipush 88, 28, [], 0), (.bipush 12, 30, [], 0), (.aload_n 0, 32, [], 0), (.getfield 53, 33, [11, 27, 286], 0), (.iconst 3, 36, [], 0), (.aload_n 0, 37, [], 0), (.getfield 254, 38, [11, 28, 329], 0), (.imul, 41, [], 0), (.iaload, 42, [], 0), (.imul, 43, [], 0), (.iadd, 44, [], 0), (.aload_n 0, 45, [], 0), (.getfield 53, 46, [11, 27, 286], 0), (.iconst 3, 49, [], 0), (.aload_n 0, 50, [], 0), (.getfield 254, 51, [11, 28, 329], 0), (.imul, 54, [], 0), (.iconst 1, 55, [], 0), (.iadd, 56, [], 0), (.iaload, 57, [], 0), (.iadd, 58, [], 0), (.aload_n 0, 59, [], 0), (.getfield 53, 60, [11, 27, 286], 0), (.iconst 3, 63, [], 0), (.aload_n 0, 64, [], 0), (.getfield 254, 65, [11, 28, 329], 0), (.imul, 68, [], 0), (.iconst 2, 69, [], 0), (.iadd, 70, [], 0), (.iaload, 71, [], 0), (.iastore, 72, [], 0), (.aload_n 0, 73, [], 0), (.getfield 254, 74, [11, 28, 329], 0), (.ireturn, 77, [], 0)], (0, 11, 0), (0, 0))
set_option maxRecDepth 100000 in
def mt_X12_water : mj_T := (yX12_water, cX12_water, 2, (some .int), [(.aload_n 0, 0, [], 0), (.iconst 0, 1, [], 0), (.putfield 1, 2, [11, 0, 252], 0), (.iload_n 1, 5, [], 0), (.invokestatic 273, 6, [102, 1, 11, 255], 0), (.ifCond .eq 15, 9, [13], 0), (.aload_n 0, 12, [], 0), (.getfield 33, 13, [11, 6, 253], 0), (.bipush 76, 16, [], 0), (.iload_n 1, 18, [], 0), (.iadd, 19, [], 0), (.iaload, 20, [], 0), (.goto 4, 21, [14], 0), (.iconst (-1), 24, [], 0), (.ireturn, 25, [], 0)], (0, 11, 1), (0, 0))
set_option maxRecDepth 100000 in
def mt_X12_wettest : mj_T := (yX12_wettest, cX12_wettest, 4, (some .int), [(.aload_n 0, 0, [], 0), (.iconst 0, 1, [], 0), (.putfield 1, 2, [11, 0, 252], 0), (.aload_n 0, 5, [], 0), (.iload_n 1, 6, [], 0), (.invokevirtual 263, 7, [104, 1, 11, 254], 0), (.ifCond .ne 5, 10, [9], 0), (.iconst (-1), 13, [], 0), (.ireturn, 14, [], 0), (.iconst 0, 15, [], 0), (.istore_n 2, 16, [], 0), (.iconst 1, 17, [], 0), (.istore_n 3, 18, [], 0), (.iload_n 3, 19, [], 0), (.bipush 12, 20, [], 0), (.if_icmp .ge 26, 22, [29], 0), (.aload_n 0, 25, [], 0), (.iload_n 1, 26, [], 0), (.iload_n 3, 27, [], 0), (.invokevirtual 339, 28, [], 0), (.aload_n 0, 31, [], 0), (.iload_n 1, 32, [], 0), (.iload_n 2, 33, [], 0), (.invokevirtual 339, 34, [], 0), (.if_icmp .le 5, 37, [27], 0), (.iload_n 3, 40, [], 0), (.istore_n 2, 41, [], 0), (.iinc 3 1, 42, [], 0), (.goto (-26), 45, [13], 0), (.iload_n 2, 48, [], 0), (.ireturn, 49, [], 0)], (0, 11, 1), (0, 0))
set_option maxRecDepth 100000 in
def mt_X12_worth : mj_T := (yX12_worth, cX12_worth, 5, (some .int), [(.aload_n 0, 0, [], 0), (.iconst 0, 1, [], 0), (.putfield 1, 2, [11, 0, 252], 0), (.aload_n 0, 5, [], 0), (.iload_n 1, 6, [], 0), (.invokevirtual 263, 7, [104, 1, 11, 254], 0), (.ifCond .ne 7, 10, [9], 0), (.sipush (-10001), 13, [], 0), (.ireturn, 16, [], 0), (.aload_n 0, 17, [], 0), (.invokevirtual 375, 18, [], 0), (.aload_n 0, 21, [], 0), (.iconst 0, 22, [], 0), (.invokevirtual 387, 23, [], 0), (.aload_n 0, 26, [], 0), (.getfield 33, 27, [11, 6, 253], 0), (.sipush 224, 30, [], 0), (.iaload, 33, [], 0), (.istore_n 2, 34, [], 0), (.iconst 0, 35, [], 0), (.istore_n 3, 36, [], 0), (.iload_n 3, 37, [], 0), (.bipush 12, 38, [], 0), (.if_icmp .ge 36, 40, [45], 0), (.aload_n 0, 43, [], 0), (.getfield 80, 44, [11, 46, 290], 0), (.iload_n 3, 47, [], 0), (.aload_n 0, 48, [], 0), (.iload_n 1, 49, [], 0), (.iload_n 3, 50, [], 0), (.invokevirtual 276, 51, [], 0), (.iastore, 54, [], 0), (.aload_n 0, 55, [], 0), (.getfield 33, 56, [11, 6, 253], 0), (.bipush 88, 59, [], 0), (.bipush 12, 61, [], 0), (.iload_n 1, 63, [], 0), (.imul, 64, [], 0), (.iadd, 65, [], 0), (.iload_n 3, 66, [], 0), (.iadd, 67, [], 0), (.iconst 0, 68, [], 0), (.iastore, 69, [], 0), (.iinc 3 1, 70, [], 0), (.goto (-36), 73, [21], 0), (.aload_n 0, 76, [], 0), (.iconst 0, 77, [], 0), (.invokevirtual 387, 78, [], 0), (.aload_n 0, 81, [], 0), (.getfield 33, 82, [11, 6, 253], 0), (.sipush 224, 85, [], 0), (.iaload, 88, [], 0), (.istore_n 3, 89, [], 0), (.iconst 0, 90, [], 0), (.istore 4, 91, [], 0), (.iload 4, 93, [], 0), (.bipush 12, 95, [], 0), (.if_icmp .ge 31, 97, [74], 0), (.aload_n 0, 100, [], 0), (.getfield 33, 101, [11, 6, 253], 0), (.bipush 88, 104, [], 0), (.bipush 12, 106, [], 0), (.iload_n 1, 108, [], 0), (.imul, 109, [], 0), (.iadd, 110, [], 0), (.iload 4, 111, [], 0), (.iadd, 113, [], 0), (.aload_n 0, 114, [], 0), (.getfield 80, 115, [11, 46, 290], 0), (.iload 4, 118, [], 0), (.iaload, 120, [], 0), (.iastore, 121, [], 0), (.iinc 4 1, 122, [], 0), (.goto (-32), 125, [55], 0), (.aload_n 0, 128, [], 0), (.invokevirtual 384, 129, [], 0), (.iload_n 2, 132, [], 0), (.iload_n 3, 133, [], 0), (.isub, 134, [], 0), (.ireturn, 135, [], 0)], (0, 11, 1), (0, 0))
set_option maxRecDepth 100000 in
def mt_X12_write : mj_T := (yX12_write, cX12_write, 2, (some .int), [(.aload_n 0, 0, [], 0), (.iconst 0, 1, [], 0), (.putfield 1, 2, [11, 0, 252], 0), (.aload_n 0, 5, [], 0), (.getfield 33, 6, [11, 6, 253], 0), (.sipush 221, 9, [], 0), (.iaload, 12, [], 0), (.ifCond .ne 5, 13, [10], 0), (.iconst (-1), 16, [], 0), (.ireturn, 17, [], 0), (.aload_n 0, 18, [], 0), (.iconst 0, 19, [], 0), (.putfield 391, 20, [11, 51, 256], 0), (.iconst 0, 23, [], 0), (.istore_n 1, 24, [], 0), (.iload_n 1, 25, [], 0), (.aload_n 0, 26, [], 0), (.getfield 33, 27, [11, 6, 253], 0), (.sipush 222, 30, [], 0), (.iaload, 33, [], 0), (.if_icmp .ge 128, 34, [95], 0), (.aload_n 0, 37, [], 0), (.iload_n 1, 38, [], 0), (.invokevirtual 399, 39, [], 0), (.aload_n 0, 42, [], 0), (.aload_n 0, 43, [], 0), (.getfield 33, 44, [11, 6, 253], 0), (.sipush 320, 47, [], 0), (.iconst 3, 50, [], 0), (.iload_n 1, 51, [], 0), (.imul, 52, [], 0), (.iadd, 53, [], 0), (.iaload, 54, [], 0), (.bipush 8, 55, [], 0), (.if_icmp .ne 9, 57, [37], 0), (.ldc2_w 127, 60, [305], 7562593), (.goto 20, 63, [48], 0), (.aload_n 0, 66, [], 0), (.getfield 43, 67, [11, 9, 280], 0), (.aload_n 0, 70, [], 0), (.getfield 33, 71, [11, 6, 253], 0), (.sipush 320, 74, [], 0), (.iconst 3, 77, [], 0), (.iload_n 1, 78, [], 0), (.imul, 79, [], 0), (.iadd, 80, [], 0), (.iaload, 81, [], 0), (.laload, 82, [], 0), (.invokevirtual 402, 83, [], 0), (.aload_n 0, 86, [], 0), (.getfield 33, 87, [11, 6, 253], 0), (.sipush 320, 90, [], 0), (.iconst 3, 93, [], 0), (.iload_n 1, 94, [], 0), (.imul, 95, [], 0), (.iadd, 96, [], 0), (.iconst 1, 97, [], 0), (.iadd, 98, [], 0), (.iaload, 99, [], 0), (.ifCond .lt 26, 100, [75], 0), (.aload_n 0, 103, [], 0), (.aload_n 0, 104, [], 0), (.getfield 43, 105, [11, 9, 280], 0), (.aload_n 0, 108, [], 0), (.getfield 33, 109, [11, 6, 253], 0), (.sipush 320, 112, [], 0), (.iconst 3, 115, [], 0), (.iload_n 1, 116, [], 0), (.imul, 117, [], 0), (.iadd, 118, [], 0), (.iconst 1, 119, [], 0), (.iadd, 120, [], 0), (.iaload, 121, [], 0), (.laload, 122, [], 0), (.invokevirtual 402, 123, [], 0), (.aload_n 0, 126, [], 0), (.bipush 32, 127, [], 0), (.invokevirtual 394, 129, [], 0), (.aload_n 0, 132, [], 0), (.aload_n 0, 133, [], 0), (.getfield 33, 134, [11, 6, 253], 0), (.sipush 320, 137, [], 0), (.iconst 3, 140, [], 0), (.iload_n 1, 141, [], 0), (.imul, 142, [], 0), (.iadd, 143, [], 0), (.iconst 2, 144, [], 0), (.iadd, 145, [], 0), (.iaload, 146, [], 0), (.invokevirtual 399, 147, [], 0), (.aload_n 0, 150, [], 0), (.bipush 59, 151, [], 0), (.invokevirtual 394, 153, [], 0), (.iinc 1 1, 156, [], 0), (.goto (-134), 159, [15], 0), (.aload_n 0, 162, [], 0), (.getfield 391, 163, [11, 51, 256], 0), (.ireturn, 166, [], 0)], (0, 11, 0), (0, 0))
set_option maxRecDepth 100000 in
def mt_X12_year : mj_T := (yX12_year, cX12_year, 4, (some .int), [(.aload_n 0, 0, [], 0), (.iconst 0, 1, [], 0), (.putfield 1, 2, [11, 0, 252], 0), (.aload_n 0, 5, [], 0), (.getfield 33, 6, [11, 6, 253], 0), (.sipush 221, 9, [], 0), (.iaload, 12, [], 0), (.ifCond .eq 13, 13, [13], 0), (.iload_n 1, 16, [], 0), (.iconst 0, 17, [], 0), (.bipush 10, 18, [], 0), (.invokestatic 195, 20, [101, 3, 11, 257], 0), (.ifCond .ne 7, 23, [15], 0), (.sipush (-1001), 26, [], 0), (.ireturn, 29, [], 0), (.iconst 0, 30, [], 0), (.istore_n 2, 31, [], 0), (.iconst 0, 32, [], 0), (.istore_n 3, 33, [], 0), (.iload_n 3, 34, [], 0), (.aload_n 0, 35, [], 0), (.getfield 33, 36, [11, 6, 253], 0), (.iconst 0, 39, [], 0), (.iaload, 40, [], 0), (.if_icmp .ge 18, 41, [34], 0), (.iload_n 2, 44, [], 0), (.aload_n 0, 45, [], 0), (.iload_n 3, 46, [], 0), (.iconst 0, 47, [], 0), (.invokevirtual 285, 48, [], 0), (.iadd, 51, [], 0), (.istore_n 2, 52, [], 0), (.iinc 3 1, 53, [], 0), (.goto (-22), 56, [19], 0), (.iload_n 1, 59, [], 0), (.bipush 8, 60, [], 0), (.if_icmp .ge 16, 62, [44], 0), (.aload_n 0, 65, [], 0), (.getfield 33, 66, [11, 6, 253], 0), (.sipush 222, 69, [], 0), (.iload_n 1, 72, [], 0), (.iadd, 73, [], 0), (.iaload, 74, [], 0), (.goto 38, 75, [61], 0), (.iload_n 1, 78, [], 0), (.bipush 8, 79, [], 0), (.if_icmp .ne 7, 81, [49], 0), (.iload_n 2, 84, [], 0), (.goto 28, 85, [61], 0), (.iload_n 1, 88, [], 0), (.bipush 9, 89, [], 0), (.if_icmp .ne 14, 91, [57], 0), (.aload_n 0, 94, [], 0), (.getfield 33, 95, [11, 6, 253], 0), (.sipush 230, 98, [], 0), (.iaload, 101, [], 0), (.goto 11, 102, [61], 0), (.aload_n 0, 105, [], 0), (.getfield 33, 106, [11, 6, 253], 0), (.sipush 231, 109, [], 0), (.iaload, 112, [], 0), (.ireturn, 113, [], 0)], (0, 11, 1), (0, 0))
def mj_tab (y : Nat) : mj_T := (cond (Nat.blt y 69) (cond (Nat.blt y 34) (cond (Nat.blt y 17) (cond (Nat.blt y 8) (cond (Nat.blt y 4) (cond (Nat.blt y 2) (cond (Nat.blt y 1) mt_X0_init mt_X1_clear) (cond (Nat.blt y 3) mt_X1_copy mt_X1_init)) (cond (Nat.blt y 6) (cond (Nat.blt y 5) mt_X1_readRows mt_X1_tells) (cond (Nat.blt y 7) mt_X2_init mt_X2_readLevels))) (cond (Nat.blt y 12) (cond (Nat.blt y 10) (cond (Nat.blt y 9) mt_X3_clear mt_X3_copy) (cond (Nat.blt y 11) mt_X3_init mt_X3_readRows)) (cond (Nat.blt y 14) (cond (Nat.blt y 13) mt_X4_init mt_X5_begins) (cond (Nat.blt y 15) mt_X5_clear (cond (Nat.blt y 16) mt_X5_copy mt_X5_init))))) (cond (Nat.blt y 25) (cond (Nat.blt y 21) (cond (Nat.blt y 19) (cond (Nat.blt y 18) mt_X5_readAll mt_X5_readCond) (cond (Nat.blt y 20) mt_X5_readOne mt_X5_readText)) (cond (Nat.blt y 23) (cond (Nat.blt y 22) mt_X6_copy mt_X6_init) (cond (Nat.blt y 24) mt_X7_advance mt_X7_finish))) (cond (Nat.blt y 29) (cond (Nat.blt y 27) (cond (Nat.blt y 26) mt_X7_hasRoom mt_X7_init) (cond (Nat.blt y 28) mt_X7_isSign mt_X7_open)) (cond (Nat.blt y 31) (cond (Nat.blt y 30) mt_X7_put mt_X7_refuse) (cond (Nat.blt y 32) mt_X8_back (cond (Nat.blt y 33) mt_X8_init mt_X10_copy)))))) (cond (Nat.blt y 51) (cond (Nat.blt y 42) (cond (Nat.blt y 38) (cond (Nat.blt y 36) (cond (Nat.blt y 35) mt_X10_init mt_X11_begin) (cond (Nat.blt y 37) mt_X11_bid mt_X11_bidsOf)) (cond (Nat.blt y 40) (cond (Nat.blt y 39) mt_X11_byteAt mt_X11_cheapest) (cond (Nat.blt y 41) mt_X11_closeTape mt_X11_contract))) (cond (Nat.blt y 46) (cond (Nat.blt y 44) (cond (Nat.blt y 43) mt_X11_contracts mt_X11_count) (cond (Nat.blt y 45) mt_X11_drawn mt_X11_droughts)) (cond (Nat.blt y 48) (cond (Nat.blt y 47) mt_X11_end mt_X11_enough) (cond (Nat.blt y 49) mt_X11_fault (cond (Nat.blt y 50) mt_X11_feed mt_X11_greatest))))) (cond (Nat.blt y 60) (cond (Nat.blt y 55) (cond (Nat.blt y 53) (cond (Nat.blt y 52) mt_X11_has mt_X11_image) (cond (Nat.blt y 54) mt_X11_init mt_X11_isMonth)) (cond (Nat.blt y 57) (cond (Nat.blt y 56) mt_X11_isTown mt_X11_leak) (cond (Nat.blt y 58) mt_X11_leaks (cond (Nat.blt y 59) mt_X11_let mt_X11_must)))) (cond (Nat.blt y 64) (cond (Nat.blt y 62) (cond (Nat.blt y 61) mt_X11_offer mt_X11_on) (cond (Nat.blt y 63) mt_X11_plain mt_X11_plan)) (cond (Nat.blt y 66) (cond (Nat.blt y 65) mt_X11_price mt_X11_restore) (cond (Nat.blt y 67) mt_X11_rounds (cond (Nat.blt y 68) mt_X11_said mt_X11_sentence))))))) (cond (Nat.blt y 103) (cond (Nat.blt y 86) (cond (Nat.blt y 77) (cond (Nat.blt y 73) (cond (Nat.blt y 71) (cond (Nat.blt y 70) mt_X11_shores mt_X11_shoresOf) (cond (Nat.blt y 72) mt_X11_take mt_X11_thirsty)) (cond (Nat.blt y 75) (cond (Nat.blt y 74) mt_X11_town mt_X11_undo) (cond (Nat.blt y 76) mt_X11_water mt_X11_wettest))) (cond (Nat.blt y 81) (cond (Nat.blt y 79) (cond (Nat.blt y 78) mt_X11_worth mt_X11_write) (cond (Nat.blt y 80) mt_X11_year mt_X12_bad)) (cond (Nat.blt y 83) (cond (Nat.blt y 82) mt_X12_begin mt_X12_bid) (cond (Nat.blt y 84) mt_X12_bidMany (cond (Nat.blt y 85) mt_X12_bidsOf mt_X12_byteAt))))) (cond (Nat.blt y 94) (cond (Nat.blt y 90) (cond (Nat.blt y 88) (cond (Nat.blt y 87) mt_X12_cheapest mt_X12_contract) (cond (Nat.blt y 89) mt_X12_contracts mt_X12_count)) (cond (Nat.blt y 92) (cond (Nat.blt y 91) mt_X12_drawn mt_X12_droughts) (cond (Nat.blt y 93) mt_X12_end mt_X12_enough))) (cond (Nat.blt y 98) (cond (Nat.blt y 96) (cond (Nat.blt y 95) mt_X12_fault mt_X12_feed) (cond (Nat.blt y 97) mt_X12_four mt_X12_greatest)) (cond (Nat.blt y 100) (cond (Nat.blt y 99) mt_X12_has mt_X12_image) (cond (Nat.blt y 101) mt_X12_init (cond (Nat.blt y 102) mt_X12_isIn mt_X12_isMonth)))))) (cond (Nat.blt y 120) (cond (Nat.blt y 111) (cond (Nat.blt y 107) (cond (Nat.blt y 105) (cond (Nat.blt y 104) mt_X12_isSign mt_X12_isTown) (cond (Nat.blt y 106) mt_X12_isWord mt_X12_leafOf)) (cond (Nat.blt y 109) (cond (Nat.blt y 108) mt_X12_leak mt_X12_leaks) (cond (Nat.blt y 110) mt_X12_let mt_X12_must))) (cond (Nat.blt y 115) (cond (Nat.blt y 113) (cond (Nat.blt y 112) mt_X12_next mt_X12_offer) (cond (Nat.blt y 114) mt_X12_on mt_X12_operand)) (cond (Nat.blt y 117) (cond (Nat.blt y 116) mt_X12_peek mt_X12_plain) (cond (Nat.blt y 118) mt_X12_plan (cond (Nat.blt y 119) mt_X12_price mt_X12_restore))))) (cond (Nat.blt y 129) (cond (Nat.blt y 124) (cond (Nat.blt y 122) (cond (Nat.blt y 121) mt_X12_rounds mt_X12_said) (cond (Nat.blt y 123) mt_X12_sentence mt_X12_shores)) (cond (Nat.blt y 126) (cond (Nat.blt y 125) mt_X12_shoresOf mt_X12_take) (cond (Nat.blt y 127) mt_X12_taken (cond (Nat.blt y 128) mt_X12_thirsty mt_X12_thrown)))) (cond (Nat.blt y 133) (cond (Nat.blt y 131) (cond (Nat.blt y 130) mt_X12_throwsIf mt_X12_told) (cond (Nat.blt y 132) mt_X12_town mt_X12_undo)) (cond (Nat.blt y 135) (cond (Nat.blt y 134) mt_X12_water mt_X12_wettest) (cond (Nat.blt y 136) mt_X12_worth (cond (Nat.blt y 137) mt_X12_write mt_X12_year))))))))
set_option maxRecDepth 100000 in
def mj_law : List mj_E := [(.new 8, 0, [10, 14, 745, 746, 440], 0), (.dup, 3, [], 0), (.invokespecial 15, 4, [53, 0, 10, 747], 0), (.astore_n 1, 7, [], 0), (.new 16, 8, [11, 62, 748, 749, 574], 0), (.dup, 11, [], 0), (.invokespecial 18, 12, [100, 0, 11, 750], 0), (.astore_n 2, 15, [], 0), (.iconst 1, 16, [], 0), (.newarray .long, 17, [3, 82], 0), (.astore_n 3, 19, [], 0), (.iconst 0, 20, [], 0), (.istore 4, 21, [], 0), (.iload 4, 23, [], 0), (.aload_n 0, 25, [], 0), (.arraylength, 26, [], 0), (.bipush 6, 27, [], 0), (.isub, 29, [], 0), (.if_icmp .gt 1305, 30, [779], 0), (.aload_n 0, 33, [], 0), (.iload 4, 34, [], 0), (.iaload, 36, [], 0), (.bipush 63, 37, [], 0), (.iand, 39, [], 0), (.tableswitch 1289 0 41 #[184, 257, 282, 295, 308, 376, 413, 462, 475, 500, 513, 550, 563, 588, 613, 650, 687, 700, 713, 738, 751, 776, 801, 826, 839, 876, 901, 926, 939, 952, 977, 1002, 1015, 1040, 1065, 1090, 1139, 1176, 1189, 1214, 1239, 1264], 40, [777, 25, 82, 99, 106, 113, 158, 185, 222, 229, 246, 253, 280, 287, 304, 321, 348, 375, 382, 389, 406, 413, 430, 447, 464, 471, 498, 515, 532, 539, 546, 563, 580, 587, 604, 621, 638, 675, 702, 709, 726, 743, 760], 184), (.aload_n 1, 224, [], 0), (.aload_n 0, 225, [], 0), (.iload 4, 226, [], 0), (.iconst 1, 228, [], 0), (.iadd, 229, [], 0), (.iaload, 230, [], 0), (.aload_n 0, 231, [], 0), (.iload 4, 232, [], 0), (.iconst 2, 234, [], 0), (.iadd, 235, [], 0), (.iaload, 236, [], 0), (.aload_n 0, 237, [], 0), (.iload 4, 238, [], 0), (.iconst 3, 240, [], 0), (.iadd, 241, [], 0), (.iaload, 242, [], 0), (.aload_n 0, 243, [], 0), (.iload 4, 244, [], 0), (.iconst 4, 246, [], 0), (.iadd, 247, [], 0), (.iaload, 248, [], 0), (.aload_n 0, 249, [], 0), (.iload 4, 250, [], 0), (.iconst 5, 252, [], 0), (.iadd, 253, [], 0), (.iaload, 254, [], 0), (.invokevirtual 19, 255, [49, 5, 10, 751], 0), (.aload_n 2, 258, [], 0), (.aload_n 0, 259, [], 0), (.iload 4, 260, [], 0), (.iconst 1, 262, [], 0), (.iadd, 263, [], 0), (.iaload, 264, [], 0), (.aload_n 0, 265, [], 0), (.iload 4, 266, [], 0), (.iconst 2, 268, [], 0), (.iadd, 269, [], 0), (.iaload, 270, [], 0), (.aload_n 0, 271, [], 0), (.iload 4, 272, [], 0), (.iconst 3, 274, [], 0), (.iadd, 275, [], 0), (.iaload, 276, [], 0), (.aload_n 0, 277, [], 0), (.iload 4, 278, [], 0), (.iconst 4, 280, [], 0), (.iadd, 281, [], 0), (.iaload, 282, [], 0), (.aload_n 0, 283, [], 0), (.iload 4, 284, [], 0), (.iconst 5, 286, [], 0), (.iadd, 287, [], 0), (.iaload, 288, [], 0), (.invokevirtual 23, 289, [95, 5, 11, 752], 0), (.if_icmp .eq 1037, 292, [777], 0), (.iconst 0, 295, [], 0), (.ireturn, 296, [], 1), (.aload_n 1, 297, [], 0), (.aload_n 0, 298, [], 0), (.iload 4, 299, [], 0), (.iconst 1, 301, [], 0), (.iadd, 302, [], 0), (.iaload, 303, [], 0), (.invokevirtual 24, 304, [46, 1, 10, 753], 0), (.aload_n 2, 307, [], 0), (.aload_n 0, 308, [], 0), (.iload 4, 309, [], 0), (.iconst 1, 311, [], 0), (.iadd, 312, [], 0), (.iaload, 313, [], 0), (.invokevirtual 28, 314, [92, 1, 11, 754], 0), (.if_icmp .eq 1012, 317, [777], 0), (.iconst 0, 320, [], 0), (.ireturn, 321, [], 1), (.aload_n 1, 322, [], 0), (.invokevirtual 29, 323, [62, 0, 10, 755], 0), (.aload_n 2, 326, [], 0), (.invokevirtual 33, 327, [116, 0, 11, 756], 0), (.if_icmp .eq 999, 330, [777], 0), (.iconst 0, 333, [], 0), (.ireturn, 334, [], 1), (.aload_n 1, 335, [], 0), (.invokevirtual 34, 336, [48, 0, 10, 757], 0), (.aload_n 2, 339, [], 0), (.invokevirtual 37, 340, [94, 0, 11, 758], 0), (.if_icmp .eq 986, 343, [777], 0), (.iconst 0, 346, [], 0), (.ireturn, 347, [], 1), (.aload_n 1, 348, [], 0), (.aload_n 0, 349, [], 0), (.iload 4, 350, [], 0), (.iconst 1, 352, [], 0), (.iadd, 353, [], 0), (.iaload, 354, [], 0), (.aload_n 0, 355, [], 0), (.iload 4, 356, [], 0), (.iconst 2, 358, [], 0), (.iadd, 359, [], 0), (.iaload, 360, [], 0), (.aload_n 3, 361, [], 0), (.invokestatic 38, 362, [], 0), (.istore 5, 365, [], 0), (.aload_n 2, 367, [], 0), (.aload_n 0, 368, [], 0), (.iload 4, 369, [], 0), (.iconst 1, 371, [], 0), (.iadd, 372, [], 0), (.iaload, 373, [], 0), (.aload_n 0, 374, [], 0), (.iload 4, 375, [], 0), (.iconst 2, 377, [], 0), (.iadd, 378, [], 0), (.iaload, 379, [], 0), (.invokevirtual 43, 380, [130, 2, 11, 759], 0), (.istore 6, 383, [], 0), (.aload_n 2, 385, [], 0), (.invokevirtual 44, 386, [128, 0, 11, 760], 0), (.iload 5, 389, [], 0), (.if_icmp .eq 5, 391, [146], 0), (.iconst 0, 394, [], 0), (.ireturn, 395, [], 1), (.iload 5, 396, [], 0), (.ifCond .ne 15, 398, [157], 0), (.aload_n 3, 401, [], 0), (.iconst 0, 402, [], 0), (.laload, 403, [], 0), (.iload 6, 404, [], 0), (.i2l, 406, [], 0), (.lcmp, 407, [], 0), (.ifCond .eq 5, 408, [157], 0), (.iconst 0, 411, [], 0), (.ireturn, 412, [], 1), (.goto 916, 413, [777], 0), (.aload_n 1, 416, [], 0), (.aload_n 0, 417, [], 0), (.iload 4, 418, [], 0), (.iconst 1, 420, [], 0), (.iadd, 421, [], 0), (.iaload, 422, [], 0), (.aload_n 0, 423, [], 0), (.iload 4, 424, [], 0), (.iconst 2, 426, [], 0), (.iadd, 427, [], 0), (.iaload, 428, [], 0), (.invokevirtual 47, 429, [36, 2, 10, 761], 0), (.aload_n 2, 432, [], 0), (.aload_n 0, 433, [], 0), (.iload 4, 434, [], 0), (.iconst 1, 436, [], 0), (.iadd, 437, [], 0), (.iaload, 438, [], 0), (.aload_n 0, 439, [], 0), (.iload 4, 440, [], 0), (.iconst 2, 442, [], 0), (.iadd, 443, [], 0), (.iaload, 444, [], 0), (.invokevirtual 50, 445, [82, 2, 11, 762], 0), (.if_icmp .eq 881, 448, [777], 0), (.iconst 0, 451, [], 0), (.ireturn, 452, [], 1), (.aload_n 1, 453, [], 0), (.aload_n 0, 454, [], 0), (.iload 4, 455, [], 0), (.iconst 1, 457, [], 0), (.iadd, 458, [], 0), (.iaload, 459, [], 0), (.aload_n 0, 460, [], 0), (.iload 4, 461, [], 0), (.iconst 2, 463, [], 0), (.iadd, 464, [], 0), (.iaload, 465, [], 0), (.aload_n 0, 466, [], 0), (.iload 4, 467, [], 0), (.iconst 3, 469, [], 0), (.iadd, 470, [], 0), (.iaload, 471, [], 0), (.invokevirtual 51, 472, [60, 3, 10, 763], 0), (.aload_n 2, 475, [], 0), (.aload_n 0, 476, [], 0), (.iload 4, 477, [], 0), (.iconst 1, 479, [], 0), (.iadd, 480, [], 0), (.iaload, 481, [], 0), (.aload_n 0, 482, [], 0), (.iload 4, 483, [], 0), (.iconst 2, 485, [], 0), (.iadd, 486, [], 0), (.iaload, 487, [], 0), (.aload_n 0, 488, [], 0), (.iload 4, 489, [], 0), (.iconst 3, 491, [], 0), (.iadd, 492, [], 0), (.iaload, 493, [], 0), (.invokevirtual 55, 494, [112, 3, 11, 764], 0), (.if_icmp .eq 832, 497, [777], 0), (.iconst 0, 500, [], 0), (.ireturn, 501, [], 1), (.aload_n 1, 502, [], 0), (.invokevirtual 56, 503, [74, 0, 10, 765], 0), (.aload_n 2, 506, [], 0), (.invokevirtual 59, 507, [132, 0, 11, 766], 0), (.if_icmp .eq 819, 510, [777], 0), (.iconst 0, 513, [], 0), (.ireturn, 514, [], 1), (.aload_n 1, 515, [], 0), (.aload_n 0, 516, [], 0), (.iload 4, 517, [], 0), (.iconst 1, 519, [], 0), (.iadd, 520, [], 0), (.iaload, 521, [], 0), (.invokevirtual 60, 522, [75, 1, 10, 767], 0), (.aload_n 2, 525, [], 0), (.aload_n 0, 526, [], 0), (.iload 4, 527, [], 0), (.iconst 1, 529, [], 0), (.iadd, 530, [], 0), (.iaload, 531, [], 0), (.invokevirtual 64, 532, [133, 1, 11, 768], 0), (.if_icmp .eq 794, 535, [777], 0), (.iconst 0, 538, [], 0), (.ireturn, 539, [], 1), (.aload_n 1, 540, [], 0), (.invokevirtual 65, 541, [42, 0, 10, 769], 0), (.aload_n 2, 544, [], 0), (.invokevirtual 68, 545, [88, 0, 11, 770], 0), (.if_icmp .eq 781, 548, [777], 0), (.iconst 0, 551, [], 0), (.ireturn, 552, [], 1), (.aload_n 1, 553, [], 0), (.aload_n 0, 554, [], 0), (.iload 4, 555, [], 0), (.iconst 1, 557, [], 0), (.iadd, 558, [], 0), (.iaload, 559, [], 0), (.aload_n 0, 560, [], 0), (.iload 4, 561, [], 0), (.iconst 2, 563, [], 0), (.iadd, 564, [], 0), (.iaload, 565, [], 0), (.invokevirtual 69, 566, [41, 2, 10, 771], 0), (.aload_n 2, 569, [], 0), (.aload_n 0, 570, [], 0), (.iload 4, 571, [], 0), (.iconst 1, 573, [], 0), (.iadd, 574, [], 0), (.iaload, 575, [], 0), (.aload_n 0, 576, [], 0), (.iload 4, 577, [], 0), (.iconst 2, 579, [], 0), (.iadd, 580, [], 0), (.iaload, 581, [], 0), (.invokevirtual 72, 582, [87, 2, 11, 772], 0), (.if_icmp .eq 744, 585, [777], 0), (.iconst 0, 588, [], 0), (.ireturn, 589, [], 1), (.aload_n 1, 590, [], 0), (.invokevirtual 73, 591, [35, 0, 10, 773], 0), (.aload_n 2, 594, [], 0), (.invokevirtual 77, 595, [81, 0, 11, 774], 0), (.if_icmp .eq 731, 598, [777], 0), (.iconst 0, 601, [], 0), (.ireturn, 602, [], 1), (.aload_n 1, 603, [], 0), (.aload_n 0, 604, [], 0), (.iload 4, 605, [], 0), (.iconst 1, 607, [], 0), (.iadd, 608, [], 0), (.iaload, 609, [], 0), (.invokevirtual 78, 610, [61, 1, 10, 775], 0), (.aload_n 2, 613, [], 0), (.aload_n 0, 614, [], 0), (.iload 4, 615, [], 0), (.iconst 1, 617, [], 0), (.iadd, 618, [], 0), (.iaload, 619, [], 0), (.invokevirtual 81, 620, [113, 1, 11, 776], 0), (.if_icmp .eq 706, 623, [777], 0), (.iconst 0, 626, [], 0), (.ireturn, 627, [], 1), (.aload_n 1, 628, [], 0), (.aload_n 0, 629, [], 0), (.iload 4, 630, [], 0), (.iconst 1, 632, [], 0), (.iadd, 633, [], 0), (.iaload, 634, [], 0), (.invokevirtual 82, 635, [79, 1, 10, 777], 0), (.aload_n 2, 638, [], 0), (.aload_n 0, 639, [], 0), (.iload 4, 640, [], 0), (.iconst 1, 642, [], 0), (.iadd, 643, [], 0), (.iaload, 644, [], 0), (.invokevirtual 85, 645, [137, 1, 11, 778], 0), (.if_icmp .eq 681, 648, [777], 0), (.iconst 0, 651, [], 0), (.ireturn, 652, [], 1), (.aload_n 1, 653, [], 0), (.aload_n 0, 654, [], 0), (.iload 4, 655, [], 0), (.iconst 1, 657, [], 0), (.iadd, 658, [], 0), (.iaload, 659, [], 0), (.aload_n 0, 660, [], 0), (.iload 4, 661, [], 0), (.iconst 2, 663, [], 0), (.iadd, 664, [], 0), (.iaload, 665, [], 0), (.invokevirtual 86, 666, [73, 2, 10, 779], 0), (.aload_n 2, 669, [], 0), (.aload_n 0, 670, [], 0), (.iload 4, 671, [], 0), (.iconst 1, 673, [], 0), (.iadd, 674, [], 0), (.iaload, 675, [], 0), (.aload_n 0, 676, [], 0), (.iload 4, 677, [], 0), (.iconst 2, 679, [], 0), (.iadd, 680, [], 0), (.iaload, 681, [], 0), (.invokevirtual 89, 682, [131, 2, 11, 780], 0), (.if_icmp .eq 644, 685, [777], 0), (.iconst 0, 688, [], 0), (.ireturn, 689, [], 1), (.aload_n 1, 690, [], 0), (.aload_n 0, 691, [], 0), (.iload 4, 692, [], 0), (.iconst 1, 694, [], 0), (.iadd, 695, [], 0), (.iaload, 696, [], 0), (.aload_n 0, 697, [], 0), (.iload 4, 698, [], 0), (.iconst 2, 700, [], 0), (.iadd, 701, [], 0), (.iaload, 702, [], 0), (.invokevirtual 90, 703, [58, 2, 10, 781], 0), (.aload_n 2, 706, [], 0), (.aload_n 0, 707, [], 0), (.iload 4, 708, [], 0), (.iconst 1, 710, [], 0), (.iadd, 711, [], 0), (.iaload, 712, [], 0), (.aload_n 0, 713, [], 0), (.iload 4, 714, [], 0), (.iconst 2, 716, [], 0), (.iadd, 717, [], 0), (.iaload, 718, [], 0), (.invokevirtual 93, 719, [109, 2, 11, 782], 0), (.if_icmp .eq 607, 722, [777], 0), (.iconst 0, 725, [], 0), (.ireturn, 726, [], 1), (.aload_n 1, 727, [], 0), (.invokevirtual 94, 728, [45, 0, 10, 783], 0), (.aload_n 2, 731, [], 0), (.invokevirtual 97, 732, [91, 0, 11, 784], 0), (.if_icmp .eq 594, 735, [777], 0), (.iconst 0, 738, [], 0), (.ireturn, 739, [], 1), (.aload_n 1, 740, [], 0), (.invokevirtual 98, 741, [39, 0, 10, 785], 0), (.aload_n 2, 744, [], 0), (.invokevirtual 101, 745, [86, 0, 11, 786], 0), (.if_icmp .eq 581, 748, [777], 0), (.iconst 0, 751, [], 0), (.ireturn, 752, [], 1), (.aload_n 1, 753, [], 0), (.aload_n 0, 754, [], 0), (.iload 4, 755, [], 0), (.iconst 1, 757, [], 0), (.iadd, 758, [], 0), (.iaload, 759, [], 0), (.invokevirtual 102, 760, [63, 1, 10, 787], 0), (.aload_n 2, 763, [], 0), (.aload_n 0, 764, [], 0), (.iload 4, 765, [], 0), (.iconst 1, 767, [], 0), (.iadd, 768, [], 0), (.iaload, 769, [], 0), (.invokevirtual 105, 770, [117, 1, 11, 788], 0), (.if_icmp .eq 556, 773, [777], 0), (.iconst 0, 776, [], 0), (.ireturn, 777, [], 1), (.aload_n 1, 778, [], 0), (.invokevirtual 106, 779, [71, 0, 10, 789], 0), (.aload_n 2, 782, [], 0), (.invokevirtual 109, 783, [125, 0, 11, 790], 0), (.if_icmp .eq 543, 786, [777], 0), (.iconst 0, 789, [], 0), (.ireturn, 790, [], 1), (.aload_n 1, 791, [], 0), (.aload_n 0, 792, [], 0), (.iload 4, 793, [], 0), (.iconst 1, 795, [], 0), (.iadd, 796, [], 0), (.iaload, 797, [], 0), (.invokevirtual 110, 798, [66, 1, 10, 791], 0), (.aload_n 2, 801, [], 0), (.aload_n 0, 802, [], 0), (.iload 4, 803, [], 0), (.iconst 1, 805, [], 0), (.iadd, 806, [], 0), (.iaload, 807, [], 0), (.invokevirtual 113, 808, [120, 1, 11, 792], 0), (.if_icmp .eq 518, 811, [777], 0), (.iconst 0, 814, [], 0), (.ireturn, 815, [], 1), (.aload_n 1, 816, [], 0), (.aload_n 0, 817, [], 0), (.iload 4, 818, [], 0), (.iconst 1, 820, [], 0), (.iadd, 821, [], 0), (.iaload, 822, [], 0), (.invokevirtual 114, 823, [51, 1, 10, 793], 0), (.aload_n 2, 826, [], 0), (.aload_n 0, 827, [], 0), (.iload 4, 828, [], 0), (.iconst 1, 830, [], 0), (.iadd, 831, [], 0), (.iaload, 832, [], 0), (.invokevirtual 117, 833, [98, 1, 11, 794], 0), (.if_icmp .eq 493, 836, [777], 0), (.iconst 0, 839, [], 0), (.ireturn, 840, [], 1), (.aload_n 1, 841, [], 0), (.aload_n 0, 842, [], 0), (.iload 4, 843, [], 0), (.iconst 1, 845, [], 0), (.iadd, 846, [], 0), (.iaload, 847, [], 0), (.invokevirtual 118, 848, [64, 1, 10, 795], 0), (.aload_n 2, 851, [], 0), (.aload_n 0, 852, [], 0), (.iload 4, 853, [], 0), (.iconst 1, 855, [], 0), (.iadd, 856, [], 0), (.iaload, 857, [], 0), (.invokevirtual 121, 858, [118, 1, 11, 796], 0), (.if_icmp .eq 468, 861, [777], 0), (.iconst 0, 864, [], 0), (.ireturn, 865, [], 1), (.aload_n 1, 866, [], 0), (.invokevirtual 122, 867, [57, 0, 10, 797], 0), (.aload_n 2, 870, [], 0), (.invokevirtual 125, 871, [108, 0, 11, 798], 0), (.if_icmp .eq 455, 874, [777], 0), (.iconst 0, 877, [], 0), (.ireturn, 878, [], 1), (.aload_n 1, 879, [], 0), (.aload_n 0, 880, [], 0), (.iload 4, 881, [], 0), (.iconst 1, 883, [], 0), (.iadd, 884, [], 0), (.iaload, 885, [], 0), (.aload_n 0, 886, [], 0), (.iload 4, 887, [], 0), (.iconst 2, 889, [], 0), (.iadd, 890, [], 0), (.iaload, 891, [], 0), (.invokevirtual 126, 892, [56, 2, 10, 799], 0), (.aload_n 2, 895, [], 0), (.aload_n 0, 896, [], 0), (.iload 4, 897, [], 0), (.iconst 1, 899, [], 0), (.iadd, 900, [], 0), (.iaload, 901, [], 0), (.aload_n 0, 902, [], 0), (.iload 4, 903, [], 0), (.iconst 2, 905, [], 0), (.iadd, 906, [], 0), (.iaload, 907, [], 0), (.invokevirtual 129, 908, [107, 2, 11, 800], 0), (.if_icmp .eq 418, 911, [777], 0), (.iconst 0, 914, [], 0), (.ireturn, 915, [], 1), (.aload_n 1, 916, [], 0), (.aload_n 0, 917, [], 0), (.iload 4, 918, [], 0), (.iconst 1, 920, [], 0), (.iadd, 921, [], 0), (.iaload, 922, [], 0), (.invokevirtual 130, 923, [76, 1, 10, 801], 0), (.aload_n 2, 926, [], 0), (.aload_n 0, 927, [], 0), (.iload 4, 928, [], 0), (.iconst 1, 930, [], 0), (.iadd, 931, [], 0), (.iaload, 932, [], 0), (.invokevirtual 133, 933, [134, 1, 11, 802], 0), (.if_icmp .eq 393, 936, [777], 0), (.iconst 0, 939, [], 0), (.ireturn, 940, [], 1), (.aload_n 1, 941, [], 0), (.aload_n 0, 942, [], 0), (.iload 4, 943, [], 0), (.iconst 1, 945, [], 0), (.iadd, 946, [], 0), (.iaload, 947, [], 0), (.invokevirtual 134, 948, [47, 1, 10, 803], 0), (.aload_n 2, 951, [], 0), (.aload_n 0, 952, [], 0), (.iload 4, 953, [], 0), (.iconst 1, 955, [], 0), (.iadd, 956, [], 0), (.iaload, 957, [], 0), (.invokevirtual 137, 958, [93, 1, 11, 804], 0), (.if_icmp .eq 368, 961, [777], 0), (.iconst 0, 964, [], 0), (.ireturn, 965, [], 1), (.aload_n 1, 966, [], 0), (.invokevirtual 138, 967, [70, 0, 10, 805], 0), (.aload_n 2, 970, [], 0), (.invokevirtual 141, 971, [124, 0, 11, 806], 0), (.if_icmp .eq 355, 974, [777], 0), (.iconst 0, 977, [], 0), (.ireturn, 978, [], 1), (.aload_n 1, 979, [], 0), (.invokevirtual 142, 980, [72, 0, 10, 807], 0), (.aload_n 2, 983, [], 0), (.invokevirtual 145, 984, [127, 0, 11, 808], 0), (.if_icmp .eq 342, 987, [777], 0), (.iconst 0, 990, [], 0), (.ireturn, 991, [], 1), (.aload_n 1, 992, [], 0), (.aload_n 0, 993, [], 0), (.iload 4, 994, [], 0), (.iconst 1, 996, [], 0), (.iadd, 997, [], 0), (.iaload, 998, [], 0), (.invokevirtual 146, 999, [37, 1, 10, 809], 0), (.aload_n 2, 1002, [], 0), (.aload_n 0, 1003, [], 0), (.iload 4, 1004, [], 0), (.iconst 1, 1006, [], 0), (.iadd, 1007, [], 0), (.iaload, 1008, [], 0), (.invokevirtual 149, 1009, [84, 1, 11, 810], 0), (.if_icmp .eq 317, 1012, [777], 0), (.iconst 0, 1015, [], 0), (.ireturn, 1016, [], 1), (.aload_n 1, 1017, [], 0), (.aload_n 0, 1018, [], 0), (.iload 4, 1019, [], 0), (.iconst 1, 1021, [], 0), (.iadd, 1022, [], 0), (.iaload, 1023, [], 0), (.invokevirtual 150, 1024, [50, 1, 10, 811], 0), (.aload_n 2, 1027, [], 0), (.aload_n 0, 1028, [], 0), (.iload 4, 1029, [], 0), (.iconst 1, 1031, [], 0), (.iadd, 1032, [], 0), (.iaload, 1033, [], 0), (.invokevirtual 153, 1034, [97, 1, 11, 812], 0), (.if_icmp .eq 292, 1037, [777], 0), (.iconst 0, 1040, [], 0), (.ireturn, 1041, [], 1), (.aload_n 1, 1042, [], 0), (.invokevirtual 154, 1043, [78, 0, 10, 813], 0), (.aload_n 2, 1046, [], 0), (.invokevirtual 157, 1047, [136, 0, 11, 814], 0), (.if_icmp .eq 279, 1050, [777], 0), (.iconst 0, 1053, [], 0), (.ireturn, 1054, [], 1), (.aload_n 1, 1055, [], 0), (.aload_n 0, 1056, [], 0), (.iload 4, 1057, [], 0), (.iconst 1, 1059, [], 0), (.iadd, 1060, [], 0), (.iaload, 1061, [], 0), (.invokevirtual 158, 1062, [38, 1, 10, 815], 0), (.aload_n 2, 1065, [], 0), (.aload_n 0, 1066, [], 0), (.iload 4, 1067, [], 0), (.iconst 1, 1069, [], 0), (.iadd, 1070, [], 0), (.iaload, 1071, [], 0), (.invokevirtual 161, 1072, [85, 1, 11, 816], 0), (.if_icmp .eq 254, 1075, [777], 0), (.iconst 0, 1078, [], 0), (.ireturn, 1079, [], 1), (.aload_n 1, 1080, [], 0), (.aload_n 0, 1081, [], 0), (.iload 4, 1082, [], 0), (.iconst 1, 1084, [], 0), (.iadd, 1085, [], 0), (.iaload, 1086, [], 0), (.invokevirtual 162, 1087, [77, 1, 10, 817], 0), (.aload_n 2, 1090, [], 0), (.aload_n 0, 1091, [], 0), (.iload 4, 1092, [], 0), (.iconst 1, 1094, [], 0), (.iadd, 1095, [], 0), (.iaload, 1096, [], 0), (.invokevirtual 165, 1097, [135, 1, 11, 818], 0), (.if_icmp .eq 229, 1100, [777], 0), (.iconst 0, 1103, [], 0), (.ireturn, 1104, [], 1), (.aload_n 1, 1105, [], 0), (.aload_n 0, 1106, [], 0), (.iload 4, 1107, [], 0), (.iconst 1, 1109, [], 0), (.iadd, 1110, [], 0), (.iaload, 1111, [], 0), (.invokevirtual 166, 1112, [44, 1, 10, 819], 0), (.aload_n 2, 1115, [], 0), (.aload_n 0, 1116, [], 0), (.iload 4, 1117, [], 0), (.iconst 1, 1119, [], 0), (.iadd, 1120, [], 0), (.iaload, 1121, [], 0), (.invokevirtual 169, 1122, [90, 1, 11, 820], 0), (.if_icmp .eq 204, 1125, [777], 0), (.iconst 0, 1128, [], 0), (.ireturn, 1129, [], 1), (.aload_n 1, 1130, [], 0), (.aload_n 0, 1131, [], 0), (.iload 4, 1132, [], 0), (.iconst 1, 1134, [], 0), (.iadd, 1135, [], 0), (.iaload, 1136, [], 0), (.aload_n 0, 1137, [], 0), (.iload 4, 1138, [], 0), (.iconst 2, 1140, [], 0), (.iadd, 1141, [], 0), (.iaload, 1142, [], 0), (.aload_n 0, 1143, [], 0), (.iload 4, 1144, [], 0), (.iconst 3, 1146, [], 0), (.iadd, 1147, [], 0), (.iaload, 1148, [], 0), (.invokevirtual 170, 1149, [69, 3, 10, 821], 0), (.aload_n 2, 1152, [], 0), (.aload_n 0, 1153, [], 0), (.iload 4, 1154, [], 0), (.iconst 1, 1156, [], 0), (.iadd, 1157, [], 0), (.iaload, 1158, [], 0), (.aload_n 0, 1159, [], 0), (.iload 4, 1160, [], 0), (.iconst 2, 1162, [], 0), (.iadd, 1163, [], 0), (.iaload, 1164, [], 0), (.aload_n 0, 1165, [], 0), (.iload 4, 1166, [], 0), (.iconst 3, 1168, [], 0), (.iadd, 1169, [], 0), (.iaload, 1170, [], 0), (.invokevirtual 174, 1171, [123, 3, 11, 822], 0), (.if_icmp .eq 155, 1174, [777], 0), (.iconst 0, 1177, [], 0), (.ireturn, 1178, [], 1), (.aload_n 1, 1179, [], 0), (.aload_n 0, 1180, [], 0), (.iload 4, 1181, [], 0), (.iconst 1, 1183, [], 0), (.iadd, 1184, [], 0), (.iaload, 1185, [], 0), (.aload_n 0, 1186, [], 0), (.iload 4, 1187, [], 0), (.iconst 2, 1189, [], 0), (.iadd, 1190, [], 0), (.iaload, 1191, [], 0), (.invokevirtual 175, 1192, [59, 2, 10, 823], 0), (.aload_n 2, 1195, [], 0), (.aload_n 0, 1196, [], 0), (.iload 4, 1197, [], 0), (.iconst 1, 1199, [], 0), (.iadd, 1200, [], 0), (.iaload, 1201, [], 0), (.aload_n 0, 1202, [], 0), (.iload 4, 1203, [], 0), (.iconst 2, 1205, [], 0), (.iadd, 1206, [], 0), (.iaload, 1207, [], 0), (.invokevirtual 178, 1208, [110, 2, 11, 824], 0), (.if_icmp .eq 118, 1211, [777], 0), (.iconst 0, 1214, [], 0), (.ireturn, 1215, [], 1), (.aload_n 1, 1216, [], 0), (.invokevirtual 179, 1217, [68, 0, 10, 825], 0), (.aload_n 2, 1220, [], 0), (.invokevirtual 182, 1221, [122, 0, 11, 826], 0), (.if_icmp .eq 105, 1224, [777], 0), (.iconst 0, 1227, [], 0), (.ireturn, 1228, [], 1), (.aload_n 1, 1229, [], 0), (.aload_n 0, 1230, [], 0), (.iload 4, 1231, [], 0), (.iconst 1, 1233, [], 0), (.iadd, 1234, [], 0), (.iaload, 1235, [], 0), (.invokevirtual 183, 1236, [67, 1, 10, 827], 0), (.aload_n 2, 1239, [], 0), (.aload_n 0, 1240, [], 0), (.iload 4, 1241, [], 0), (.iconst 1, 1243, [], 0), (.iadd, 1244, [], 0), (.iaload, 1245, [], 0), (.invokevirtual 186, 1246, [121, 1, 11, 828], 0), (.if_icmp .eq 80, 1249, [777], 0), (.iconst 0, 1252, [], 0), (.ireturn, 1253, [], 1), (.aload_n 1, 1254, [], 0), (.aload_n 0, 1255, [], 0), (.iload 4, 1256, [], 0), (.iconst 1, 1258, [], 0), (.iadd, 1259, [], 0), (.iaload, 1260, [], 0), (.invokevirtual 187, 1261, [52, 1, 10, 829], 0), (.aload_n 2, 1264, [], 0), (.aload_n 0, 1265, [], 0), (.iload 4, 1266, [], 0), (.iconst 1, 1268, [], 0), (.iadd, 1269, [], 0), (.iaload, 1270, [], 0), (.invokevirtual 190, 1271, [99, 1, 11, 830], 0), (.if_icmp .eq 55, 1274, [777], 0), (.iconst 0, 1277, [], 0), (.ireturn, 1278, [], 1), (.aload_n 1, 1279, [], 0), (.aload_n 0, 1280, [], 0), (.iload 4, 1281, [], 0), (.iconst 1, 1283, [], 0), (.iadd, 1284, [], 0), (.iaload, 1285, [], 0), (.invokevirtual 191, 1286, [65, 1, 10, 831], 0), (.aload_n 2, 1289, [], 0), (.aload_n 0, 1290, [], 0), (.iload 4, 1291, [], 0), (.iconst 1, 1293, [], 0), (.iadd, 1294, [], 0), (.iaload, 1295, [], 0), (.invokevirtual 194, 1296, [119, 1, 11, 832], 0), (.if_icmp .eq 30, 1299, [777], 0), (.iconst 0, 1302, [], 0), (.ireturn, 1303, [], 1), (.aload_n 1, 1304, [], 0), (.aload_n 0, 1305, [], 0), (.iload 4, 1306, [], 0), (.iconst 1, 1308, [], 0), (.iadd, 1309, [], 0), (.iaload, 1310, [], 0), (.invokevirtual 195, 1311, [43, 1, 10, 833], 0), (.aload_n 2, 1314, [], 0), (.aload_n 0, 1315, [], 0), (.iload 4, 1316, [], 0), (.iconst 1, 1318, [], 0), (.iadd, 1319, [], 0), (.iaload, 1320, [], 0), (.invokevirtual 198, 1321, [89, 1, 11, 834], 0), (.if_icmp .eq 5, 1324, [777], 0), (.iconst 0, 1327, [], 0), (.ireturn, 1328, [], 1), (.iinc 4 6, 1329, [], 0), (.goto (-1309), 1332, [13], 0), (.iconst 1, 1335, [], 0), (.ireturn, 1336, [], 1)]
end
section
/-! ===== what is checked of them ===== -/
set_option maxRecDepth 100000 in
theorem ok_X0_init : mj_ok1 mj_tab mt_X0_init = true := mj_ok1_mk (mj_cm2 (mj_wi_in 345) (mj_wi_in 214) (mj_wi_in 346) rfl (by decide +kernel)) (by decide +kernel) (by decide +kernel)
set_option maxRecDepth 100000 in
theorem ok_X1_clear : mj_ok1 mj_tab mt_X1_clear = true := mj_ok1_mk (mj_cm0 (mj_wi_in 347) (mj_wi_in 124) (mj_wi_in 348) (mj_wi_in 349) rfl (by decide +kernel)) (by decide +kernel) (by decide +kernel)
set_option maxRecDepth 100000 in
theorem ok_X1_copy : mj_ok1 mj_tab mt_X1_copy = true := mj_ok1_mk (mj_cm0 (mj_wi_in 350) (mj_wi_in 124) (mj_wi_in 351) (mj_wi_in 352) rfl (by decide +kernel)) (by decide +kernel) (by decide +kernel)
set_option maxRecDepth 100000 in
theorem ok_X1_init : mj_ok1 mj_tab mt_X1_init = true := mj_ok1_mk (mj_cm2 (mj_wi_in 353) (mj_wi_in 124) (mj_wi_in 354) rfl (by decide +kernel)) (by decide +kernel) (by decide +kernel)
set_option maxRecDepth 100000 in
theorem ok_X1_readRows : mj_ok1 mj_tab mt_X1_readRows = true := mj_ok1_mk (mj_cm0 (mj_wi_in 355) (mj_wi_in 124) (mj_wi_in 356) (mj_wi_in 357) rfl (by decide +kernel)) (by decide +kernel) (by decide +kernel)
set_option maxRecDepth 100000 in
theorem ok_X1_tells : mj_ok1 mj_tab mt_X1_tells = true := mj_ok1_mk (mj_cm0 (mj_wi_in 358) (mj_wi_in 124) (mj_wi_in 359) (mj_wi_in 360) rfl (by decide +kernel)) (by decide +kernel) (by decide +kernel)
set_option maxRecDepth 100000 in
theorem ok_X2_init : mj_ok1 mj_tab mt_X2_init = true := mj_ok1_mk (mj_cm2 (mj_wi_in 361) (mj_wi_in 222) (mj_wi_in 362) rfl (by decide +kernel)) (by decide +kernel) (by decide +kernel)
set_option maxRecDepth 100000 in
theorem ok_X2_readLevels : mj_ok1 mj_tab mt_X2_readLevels = true := mj_ok1_mk (mj_cm0 (mj_wi_in 363) (mj_wi_in 222) (mj_wi_in 364) (mj_wi_in 365) rfl (by decide +kernel)) (by decide +kernel) (by decide +kernel)
set_option maxRecDepth 100000 in
theorem ok_X3_clear : mj_ok1 mj_tab mt_X3_clear = true := mj_ok1_mk (mj_cm0 (mj_wi_in 366) (mj_wi_in 120) (mj_wi_in 367) (mj_wi_in 368) rfl (by decide +kernel)) (by decide +kernel) (by decide +kernel)
set_option maxRecDepth 100000 in
theorem ok_X3_copy : mj_ok1 mj_tab mt_X3_copy = true := mj_ok1_mk (mj_cm0 (mj_wi_in 369) (mj_wi_in 120) (mj_wi_in 370) (mj_wi_in 371) rfl (by decide +kernel)) (by decide +kernel) (by decide +kernel)
set_option maxRecDepth 100000 in
theorem ok_X3_init : mj_ok1 mj_tab mt_X3_init = true := mj_ok1_mk (mj_cm2 (mj_wi_in 372) (mj_wi_in 120) (mj_wi_in 373) rfl (by decide +kernel)) (by decide +kernel) (by decide +kernel)
set_option maxRecDepth 100000 in
theorem ok_X3_readRows : mj_ok1 mj_tab mt_X3_readRows = true := mj_ok1_mk (mj_cm0 (mj_wi_in 374) (mj_wi_in 120) (mj_wi_in 375) (mj_wi_in 376) rfl (by decide +kernel)) (by decide +kernel) (by decide +kernel)
set_option maxRecDepth 100000 in
theorem ok_X4_init : mj_ok1 mj_tab mt_X4_init = true := mj_ok1_mk (mj_cm2 (mj_wi_in 377) (mj_wi_in 218) (mj_wi_in 378) rfl (by decide +kernel)) (by decide +kernel) (by decide +kernel)
set_option maxRecDepth 100000 in
theorem ok_X5_begins : mj_ok1 mj_tab mt_X5_begins = true := mj_ok1_mk (mj_cm1 (mj_wi_in 379) (mj_wi_in 128) (mj_wi_in 380) rfl (by decide +kernel)) (by decide +kernel) (by decide +kernel)
set_option maxRecDepth 100000 in
theorem ok_X5_clear : mj_ok1 mj_tab mt_X5_clear = true := mj_ok1_mk (mj_cm0 (mj_wi_in 381) (mj_wi_in 128) (mj_wi_in 382) (mj_wi_in 383) rfl (by decide +kernel)) (by decide +kernel) (by decide +kernel)
set_option maxRecDepth 100000 in
theorem ok_X5_copy : mj_ok1 mj_tab mt_X5_copy = true := mj_ok1_mk (mj_cm0 (mj_wi_in 384) (mj_wi_in 128) (mj_wi_in 385) (mj_wi_in 386) rfl (by decide +kernel)) (by decide +kernel) (by decide +kernel)
set_option maxRecDepth 100000 in
theorem ok_X5_init : mj_ok1 mj_tab mt_X5_init = true := mj_ok1_mk (mj_cm2 (mj_wi_in 387) (mj_wi_in 128) (mj_wi_in 388) rfl (by decide +kernel)) (by decide +kernel) (by decide +kernel)
set_option maxRecDepth 100000 in
theorem ok_X5_readAll : mj_ok1 mj_tab mt_X5_readAll = true := mj_ok1_mk (mj_cm0 (mj_wi_in 389) (mj_wi_in 128) (mj_wi_in 390) (mj_wi_in 391) rfl (by decide +kernel)) (by decide +kernel) (by decide +kernel)
set_option maxRecDepth 100000 in
theorem ok_X5_readCond : mj_ok1 mj_tab mt_X5_readCond = true := mj_ok1_mk (mj_cm0 (mj_wi_in 392) (mj_wi_in 128) (mj_wi_in 393) (mj_wi_in 394) rfl (by decide +kernel)) (by decide +kernel) (by decide +kernel)
set_option maxRecDepth 100000 in
theorem ok_X5_readOne : mj_ok1 mj_tab mt_X5_readOne = true := mj_ok1_mk (mj_cm0 (mj_wi_in 395) (mj_wi_in 128) (mj_wi_in 396) (mj_wi_in 397) rfl (by decide +kernel)) (by decide +kernel) (by decide +kernel)
set_option maxRecDepth 100000 in
theorem ok_X5_readText : mj_ok1 mj_tab mt_X5_readText = true := mj_ok1_mk (mj_cm0 (mj_wi_in 398) (mj_wi_in 128) (mj_wi_in 399) (mj_wi_in 400) rfl (by decide +kernel)) (by decide +kernel) (by decide +kernel)
set_option maxRecDepth 100000 in
theorem ok_X6_copy : mj_ok1 mj_tab mt_X6_copy = true := mj_ok1_mk (mj_cm0 (mj_wi_in 401) (mj_wi_in 205) (mj_wi_in 402) (mj_wi_in 403) rfl (by decide +kernel)) (by decide +kernel) (by decide +kernel)
set_option maxRecDepth 100000 in
theorem ok_X6_init : mj_ok1 mj_tab mt_X6_init = true := mj_ok1_mk (mj_cm2 (mj_wi_in 404) (mj_wi_in 205) (mj_wi_in 405) rfl (by decide +kernel)) (by decide +kernel) (by decide +kernel)
set_option maxRecDepth 100000 in
theorem ok_X7_advance : mj_ok1 mj_tab mt_X7_advance = true := mj_ok1_mk (mj_cm0 (mj_wi_in 406) (mj_wi_in 201) (mj_wi_in 407) (mj_wi_in 408) rfl (by decide +kernel)) (by decide +kernel) (by decide +kernel)
set_option maxRecDepth 100000 in
theorem ok_X7_finish : mj_ok1 mj_tab mt_X7_finish = true := mj_ok1_mk (mj_cm0 (mj_wi_in 409) (mj_wi_in 201) (mj_wi_in 410) (mj_wi_in 411) rfl (by decide +kernel)) (by decide +kernel) (by decide +kernel)
set_option maxRecDepth 100000 in
theorem ok_X7_hasRoom : mj_ok1 mj_tab mt_X7_hasRoom = true := mj_ok1_mk (mj_cm0 (mj_wi_in 412) (mj_wi_in 201) (mj_wi_in 413) (mj_wi_in 414) rfl (by decide +kernel)) (by decide +kernel) (by decide +kernel)
set_option maxRecDepth 100000 in
theorem ok_X7_init : mj_ok1 mj_tab mt_X7_init = true := mj_ok1_mk (mj_cm2 (mj_wi_in 415) (mj_wi_in 201) (mj_wi_in 416) rfl (by decide +kernel)) (by decide +kernel) (by decide +kernel)
set_option maxRecDepth 100000 in
theorem ok_X7_isSign : mj_ok1 mj_tab mt_X7_isSign = true := mj_ok1_mk (mj_cm0 (mj_wi_in 417) (mj_wi_in 201) (mj_wi_in 418) (mj_wi_in 419) rfl (by decide +kernel)) (by decide +kernel) (by decide +kernel)
set_option maxRecDepth 100000 in
theorem ok_X7_open : mj_ok1 mj_tab mt_X7_open = true := mj_ok1_mk (mj_cm0 (mj_wi_in 420) (mj_wi_in 201) (mj_wi_in 421) (mj_wi_in 422) rfl (by decide +kernel)) (by decide +kernel) (by decide +kernel)
set_option maxRecDepth 100000 in
theorem ok_X7_put : mj_ok1 mj_tab mt_X7_put = true := mj_ok1_mk (mj_cm0 (mj_wi_in 423) (mj_wi_in 201) (mj_wi_in 424) (mj_wi_in 425) rfl (by decide +kernel)) (by decide +kernel) (by decide +kernel)
set_option maxRecDepth 100000 in
theorem ok_X7_refuse : mj_ok1 mj_tab mt_X7_refuse = true := mj_ok1_mk (mj_cm0 (mj_wi_in 426) (mj_wi_in 201) (mj_wi_in 427) (mj_wi_in 428) rfl (by decide +kernel)) (by decide +kernel) (by decide +kernel)
set_option maxRecDepth 100000 in
theorem ok_X8_back : mj_ok1 mj_tab mt_X8_back = true := mj_ok1_mk (mj_cm0 (mj_wi_in 429) (mj_wi_in 209) (mj_wi_in 430) (mj_wi_in 431) rfl (by decide +kernel)) (by decide +kernel) (by decide +kernel)
set_option maxRecDepth 100000 in
theorem ok_X8_init : mj_ok1 mj_tab mt_X8_init = true := mj_ok1_mk (mj_cm2 (mj_wi_in 432) (mj_wi_in 209) (mj_wi_in 433) rfl (by decide +kernel)) (by decide +kernel) (by decide +kernel)
set_option maxRecDepth 100000 in
theorem ok_X10_copy : mj_ok1 mj_tab mt_X10_copy = true := mj_ok1_mk (mj_cm0 (mj_wi_in 434) (mj_wi_in 43) (mj_wi_in 435) (mj_wi_in 436) rfl (by decide +kernel)) (by decide +kernel) (by decide +kernel)
set_option maxRecDepth 100000 in
theorem ok_X10_init : mj_ok1 mj_tab mt_X10_init = true := mj_ok1_mk (mj_cm2 (mj_wi_in 437) (mj_wi_in 43) (mj_wi_in 438) rfl (by decide +kernel)) (by decide +kernel) (by decide +kernel)
set_option maxRecDepth 100000 in
theorem ok_X11_begin : mj_ok1 mj_tab mt_X11_begin = true := mj_ok1_mk (mj_cm0 (mj_wi_in 439) (mj_wi_in 440) (mj_wi_in 441) (mj_wi_in 442) rfl (by decide +kernel)) (by decide +kernel) (by decide +kernel)
set_option maxRecDepth 100000 in
theorem ok_X11_bid : mj_ok1 mj_tab mt_X11_bid = true := mj_ok1_mk (mj_cm0 (mj_wi_in 443) (mj_wi_in 440) (mj_wi_in 444) (mj_wi_in 445) rfl (by decide +kernel)) (by decide +kernel) (by decide +kernel)
set_option maxRecDepth 100000 in
theorem ok_X11_bidsOf : mj_ok1 mj_tab mt_X11_bidsOf = true := mj_ok1_mk (mj_cm0 (mj_wi_in 446) (mj_wi_in 440) (mj_wi_in 447) (mj_wi_in 448) rfl (by decide +kernel)) (by decide +kernel) (by decide +kernel)
set_option maxRecDepth 100000 in
theorem ok_X11_byteAt : mj_ok1 mj_tab mt_X11_byteAt = true := mj_ok1_mk (mj_cm0 (mj_wi_in 449) (mj_wi_in 440) (mj_wi_in 450) (mj_wi_in 451) rfl (by decide +kernel)) (by decide +kernel) (by decide +kernel)
set_option maxRecDepth 100000 in
theorem ok_X11_cheapest : mj_ok1 mj_tab mt_X11_cheapest = true := mj_ok1_mk (mj_cm0 (mj_wi_in 452) (mj_wi_in 440) (mj_wi_in 453) (mj_wi_in 454) rfl (by decide +kernel)) (by decide +kernel) (by decide +kernel)
set_option maxRecDepth 100000 in
theorem ok_X11_closeTape : mj_ok1 mj_tab mt_X11_closeTape = true := mj_ok1_mk (mj_cm0 (mj_wi_in 455) (mj_wi_in 440) (mj_wi_in 456) (mj_wi_in 457) rfl (by decide +kernel)) (by decide +kernel) (by decide +kernel)
set_option maxRecDepth 100000 in
theorem ok_X11_contract : mj_ok1 mj_tab mt_X11_contract = true := mj_ok1_mk (mj_cm0 (mj_wi_in 458) (mj_wi_in 440) (mj_wi_in 459) (mj_wi_in 460) rfl (by decide +kernel)) (by decide +kernel) (by decide +kernel)
set_option maxRecDepth 100000 in
theorem ok_X11_contracts : mj_ok1 mj_tab mt_X11_contracts = true := mj_ok1_mk (mj_cm0 (mj_wi_in 461) (mj_wi_in 440) (mj_wi_in 462) (mj_wi_in 463) rfl (by decide +kernel)) (by decide +kernel) (by decide +kernel)
set_option maxRecDepth 100000 in
theorem ok_X11_count : mj_ok1 mj_tab mt_X11_count = true := mj_ok1_mk (mj_cm0 (mj_wi_in 464) (mj_wi_in 440) (mj_wi_in 465) (mj_wi_in 466) rfl (by decide +kernel)) (by decide +kernel) (by decide +kernel)
set_option maxRecDepth 100000 in
theorem ok_X11_drawn : mj_ok1 mj_tab mt_X11_drawn = true := mj_ok1_mk (mj_cm0 (mj_wi_in 467) (mj_wi_in 440) (mj_wi_in 468) (mj_wi_in 469) rfl (by decide +kernel)) (by decide +kernel) (by decide +kernel)
set_option maxRecDepth 100000 in
theorem ok_X11_droughts : mj_ok1 mj_tab mt_X11_droughts = true := mj_ok1_mk (mj_cm0 (mj_wi_in 470) (mj_wi_in 440) (mj_wi_in 471) (mj_wi_in 472) rfl (by decide +kernel)) (by decide +kernel) (by decide +kernel)
set_option maxRecDepth 100000 in
theorem ok_X11_end : mj_ok1 mj_tab mt_X11_end = true := mj_ok1_mk (mj_cm0 (mj_wi_in 473) (mj_wi_in 440) (mj_wi_in 474) (mj_wi_in 475) rfl (by decide +kernel)) (by decide +kernel) (by decide +kernel)
set_option maxRecDepth 100000 in
theorem ok_X11_enough : mj_ok1 mj_tab mt_X11_enough = true := mj_ok1_mk (mj_cm0 (mj_wi_in 476) (mj_wi_in 440) (mj_wi_in 477) (mj_wi_in 478) rfl (by decide +kernel)) (by decide +kernel) (by decide +kernel)
set_option maxRecDepth 100000 in
theorem ok_X11_fault : mj_ok1 mj_tab mt_X11_fault = true := mj_ok1_mk (mj_cm0 (mj_wi_in 479) (mj_wi_in 440) (mj_wi_in 480) (mj_wi_in 481) rfl (by decide +kernel)) (by decide +kernel) (by decide +kernel)
set_option maxRecDepth 100000 in
theorem ok_X11_feed : mj_ok1 mj_tab mt_X11_feed = true := mj_ok1_mk (mj_cm0 (mj_wi_in 482) (mj_wi_in 440) (mj_wi_in 483) (mj_wi_in 484) rfl (by decide +kernel)) (by decide +kernel) (by decide +kernel)
set_option maxRecDepth 100000 in
theorem ok_X11_greatest : mj_ok1 mj_tab mt_X11_greatest = true := mj_ok1_mk (mj_cm0 (mj_wi_in 485) (mj_wi_in 440) (mj_wi_in 486) (mj_wi_in 487) rfl (by decide +kernel)) (by decide +kernel) (by decide +kernel)
set_option maxRecDepth 100000 in
theorem ok_X11_has : mj_ok1 mj_tab mt_X11_has = true := mj_ok1_mk (mj_cm0 (mj_wi_in 488) (mj_wi_in 440) (mj_wi_in 489) (mj_wi_in 490) rfl (by decide +kernel)) (by decide +kernel) (by decide +kernel)
set_option maxRecDepth 100000 in
theorem ok_X11_image : mj_ok1 mj_tab mt_X11_image = true := mj_ok1_mk (mj_cm0 (mj_wi_in 491) (mj_wi_in 440) (mj_wi_in 492) (mj_wi_in 493) rfl (by decide +kernel)) (by decide +kernel) (by decide +kernel)
set_option maxRecDepth 100000 in
theorem ok_X11_init : mj_ok1 mj_tab mt_X11_init = true := mj_ok1_mk (mj_cm2 (mj_wi_in 494) (mj_wi_in 440) (mj_wi_in 495) rfl (by decide +kernel)) (by decide +kernel) (by decide +kernel)
set_option maxRecDepth 100000 in
theorem ok_X11_isMonth : mj_ok1 mj_tab mt_X11_isMonth = true := mj_ok1_mk (mj_cm1 (mj_wi_in 496) (mj_wi_in 440) (mj_wi_in 497) rfl (by decide +kernel)) (by decide +kernel) (by decide +kernel)
set_option maxRecDepth 100000 in
theorem ok_X11_isTown : mj_ok1 mj_tab mt_X11_isTown = true := mj_ok1_mk (mj_cm0 (mj_wi_in 498) (mj_wi_in 440) (mj_wi_in 499) (mj_wi_in 500) rfl (by decide +kernel)) (by decide +kernel) (by decide +kernel)
set_option maxRecDepth 100000 in
theorem ok_X11_leak : mj_ok1 mj_tab mt_X11_leak = true := mj_ok1_mk (mj_cm0 (mj_wi_in 501) (mj_wi_in 440) (mj_wi_in 502) (mj_wi_in 503) rfl (by decide +kernel)) (by decide +kernel) (by decide +kernel)
set_option maxRecDepth 100000 in
theorem ok_X11_leaks : mj_ok1 mj_tab mt_X11_leaks = true := mj_ok1_mk (mj_cm0 (mj_wi_in 504) (mj_wi_in 440) (mj_wi_in 505) (mj_wi_in 506) rfl (by decide +kernel)) (by decide +kernel) (by decide +kernel)
set_option maxRecDepth 100000 in
theorem ok_X11_let : mj_ok1 mj_tab mt_X11_let = true := mj_ok1_mk (mj_cm0 (mj_wi_in 507) (mj_wi_in 440) (mj_wi_in 508) (mj_wi_in 509) rfl (by decide +kernel)) (by decide +kernel) (by decide +kernel)
set_option maxRecDepth 100000 in
theorem ok_X11_must : mj_ok1 mj_tab mt_X11_must = true := mj_ok1_mk (mj_cm0 (mj_wi_in 510) (mj_wi_in 440) (mj_wi_in 511) (mj_wi_in 512) rfl (by decide +kernel)) (by decide +kernel) (by decide +kernel)
set_option maxRecDepth 100000 in
theorem ok_X11_offer : mj_ok1 mj_tab mt_X11_offer = true := mj_ok1_mk (mj_cm0 (mj_wi_in 513) (mj_wi_in 440) (mj_wi_in 514) (mj_wi_in 515) rfl (by decide +kernel)) (by decide +kernel) (by decide +kernel)
set_option maxRecDepth 100000 in
theorem ok_X11_on : mj_ok1 mj_tab mt_X11_on = true := mj_ok1_mk (mj_cm0 (mj_wi_in 516) (mj_wi_in 440) (mj_wi_in 517) (mj_wi_in 518) rfl (by decide +kernel)) (by decide +kernel) (by decide +kernel)
set_option maxRecDepth 100000 in
theorem ok_X11_plain : mj_ok1 mj_tab mt_X11_plain = true := mj_ok1_mk (mj_cm0 (mj_wi_in 519) (mj_wi_in 440) (mj_wi_in 520) (mj_wi_in 521) rfl (by decide +kernel)) (by decide +kernel) (by decide +kernel)
set_option maxRecDepth 100000 in
theorem ok_X11_plan : mj_ok1 mj_tab mt_X11_plan = true := mj_ok1_mk (mj_cm0 (mj_wi_in 522) (mj_wi_in 440) (mj_wi_in 523) (mj_wi_in 524) rfl (by decide +kernel)) (by decide +kernel) (by decide +kernel)
set_option maxRecDepth 100000 in
theorem ok_X11_price : mj_ok1 mj_tab mt_X11_price = true := mj_ok1_mk (mj_cm0 (mj_wi_in 525) (mj_wi_in 440) (mj_wi_in 526) (mj_wi_in 527) rfl (by decide +kernel)) (by decide +kernel) (by decide +kernel)
set_option maxRecDepth 100000 in
theorem ok_X11_restore : mj_ok1 mj_tab mt_X11_restore = true := mj_ok1_mk (mj_cm0 (mj_wi_in 528) (mj_wi_in 440) (mj_wi_in 529) (mj_wi_in 530) rfl (by decide +kernel)) (by decide +kernel) (by decide +kernel)
set_option maxRecDepth 100000 in
theorem ok_X11_rounds : mj_ok1 mj_tab mt_X11_rounds = true := mj_ok1_mk (mj_cm0 (mj_wi_in 531) (mj_wi_in 440) (mj_wi_in 532) (mj_wi_in 533) rfl (by decide +kernel)) (by decide +kernel) (by decide +kernel)
set_option maxRecDepth 100000 in
theorem ok_X11_said : mj_ok1 mj_tab mt_X11_said = true := mj_ok1_mk (mj_cm0 (mj_wi_in 534) (mj_wi_in 440) (mj_wi_in 535) (mj_wi_in 536) rfl (by decide +kernel)) (by decide +kernel) (by decide +kernel)
set_option maxRecDepth 100000 in
theorem ok_X11_sentence : mj_ok1 mj_tab mt_X11_sentence = true := mj_ok1_mk (mj_cm0 (mj_wi_in 537) (mj_wi_in 440) (mj_wi_in 538) (mj_wi_in 539) rfl (by decide +kernel)) (by decide +kernel) (by decide +kernel)
set_option maxRecDepth 100000 in
theorem ok_X11_shores : mj_ok1 mj_tab mt_X11_shores = true := mj_ok1_mk (mj_cm0 (mj_wi_in 540) (mj_wi_in 440) (mj_wi_in 541) (mj_wi_in 542) rfl (by decide +kernel)) (by decide +kernel) (by decide +kernel)
set_option maxRecDepth 100000 in
theorem ok_X11_shoresOf : mj_ok1 mj_tab mt_X11_shoresOf = true := mj_ok1_mk (mj_cm0 (mj_wi_in 543) (mj_wi_in 440) (mj_wi_in 544) (mj_wi_in 545) rfl (by decide +kernel)) (by decide +kernel) (by decide +kernel)
set_option maxRecDepth 100000 in
theorem ok_X11_take : mj_ok1 mj_tab mt_X11_take = true := mj_ok1_mk (mj_cm0 (mj_wi_in 546) (mj_wi_in 440) (mj_wi_in 547) (mj_wi_in 548) rfl (by decide +kernel)) (by decide +kernel) (by decide +kernel)
set_option maxRecDepth 100000 in
theorem ok_X11_thirsty : mj_ok1 mj_tab mt_X11_thirsty = true := mj_ok1_mk (mj_cm0 (mj_wi_in 549) (mj_wi_in 440) (mj_wi_in 550) (mj_wi_in 551) rfl (by decide +kernel)) (by decide +kernel) (by decide +kernel)
set_option maxRecDepth 100000 in
theorem ok_X11_town : mj_ok1 mj_tab mt_X11_town = true := mj_ok1_mk (mj_cm0 (mj_wi_in 552) (mj_wi_in 440) (mj_wi_in 553) (mj_wi_in 554) rfl (by decide +kernel)) (by decide +kernel) (by decide +kernel)
set_option maxRecDepth 100000 in
theorem ok_X11_undo : mj_ok1 mj_tab mt_X11_undo = true := mj_ok1_mk (mj_cm0 (mj_wi_in 555) (mj_wi_in 440) (mj_wi_in 556) (mj_wi_in 557) rfl (by decide +kernel)) (by decide +kernel) (by decide +kernel)
set_option maxRecDepth 100000 in
theorem ok_X11_water : mj_ok1 mj_tab mt_X11_water = true := mj_ok1_mk (mj_cm0 (mj_wi_in 558) (mj_wi_in 440) (mj_wi_in 559) (mj_wi_in 560) rfl (by decide +kernel)) (by decide +kernel) (by decide +kernel)
set_option maxRecDepth 100000 in
theorem ok_X11_wettest : mj_ok1 mj_tab mt_X11_wettest = true := mj_ok1_mk (mj_cm0 (mj_wi_in 561) (mj_wi_in 440) (mj_wi_in 562) (mj_wi_in 563) rfl (by decide +kernel)) (by decide +kernel) (by decide +kernel)
set_option maxRecDepth 100000 in
theorem ok_X11_worth : mj_ok1 mj_tab mt_X11_worth = true := mj_ok1_mk (mj_cm0 (mj_wi_in 564) (mj_wi_in 440) (mj_wi_in 565) (mj_wi_in 566) rfl (by decide +kernel)) (by decide +kernel) (by decide +kernel)
set_option maxRecDepth 100000 in
theorem ok_X11_write : mj_ok1 mj_tab mt_X11_write = true := mj_ok1_mk (mj_cm0 (mj_wi_in 567) (mj_wi_in 440) (mj_wi_in 568) (mj_wi_in 569) rfl (by decide +kernel)) (by decide +kernel) (by decide +kernel)
set_option maxRecDepth 100000 in
theorem ok_X11_year : mj_ok1 mj_tab mt_X11_year = true := mj_ok1_mk (mj_cm0 (mj_wi_in 570) (mj_wi_in 440) (mj_wi_in 571) (mj_wi_in 572) rfl (by decide +kernel)) (by decide +kernel) (by decide +kernel)
set_option maxRecDepth 100000 in
theorem ok_X12_bad : mj_ok1 mj_tab mt_X12_bad = true := mj_ok1_mk (mj_cm0 (mj_wi_in 573) (mj_wi_in 574) (mj_wi_in 575) (mj_wi_in 576) rfl (by decide +kernel)) (by decide +kernel) (by decide +kernel)
set_option maxRecDepth 100000 in
theorem ok_X12_begin : mj_ok1 mj_tab mt_X12_begin = true := mj_ok1_mk (mj_cm0 (mj_wi_in 577) (mj_wi_in 574) (mj_wi_in 578) (mj_wi_in 579) rfl (by decide +kernel)) (by decide +kernel) (by decide +kernel)
set_option maxRecDepth 100000 in
theorem ok_X12_bid : mj_ok1 mj_tab mt_X12_bid = true := mj_ok1_mk (mj_cm0 (mj_wi_in 580) (mj_wi_in 574) (mj_wi_in 581) (mj_wi_in 582) rfl (by decide +kernel)) (by decide +kernel) (by decide +kernel)
set_option maxRecDepth 100000 in
theorem ok_X12_bidMany : mj_ok1 mj_tab mt_X12_bidMany = true := mj_ok1_mk (mj_cm0 (mj_wi_in 583) (mj_wi_in 574) (mj_wi_in 584) (mj_wi_in 585) rfl (by decide +kernel)) (by decide +kernel) (by decide +kernel)
set_option maxRecDepth 100000 in
theorem ok_X12_bidsOf : mj_ok1 mj_tab mt_X12_bidsOf = true := mj_ok1_mk (mj_cm0 (mj_wi_in 586) (mj_wi_in 574) (mj_wi_in 587) (mj_wi_in 588) rfl (by decide +kernel)) (by decide +kernel) (by decide +kernel)
set_option maxRecDepth 100000 in
theorem ok_X12_byteAt : mj_ok1 mj_tab mt_X12_byteAt = true := mj_ok1_mk (mj_cm0 (mj_wi_in 589) (mj_wi_in 574) (mj_wi_in 590) (mj_wi_in 591) rfl (by decide +kernel)) (by decide +kernel) (by decide +kernel)
set_option maxRecDepth 100000 in
theorem ok_X12_cheapest : mj_ok1 mj_tab mt_X12_cheapest = true := mj_ok1_mk (mj_cm0 (mj_wi_in 592) (mj_wi_in 574) (mj_wi_in 593) (mj_wi_in 594) rfl (by decide +kernel)) (by decide +kernel) (by decide +kernel)
set_option maxRecDepth 100000 in
theorem ok_X12_contract : mj_ok1 mj_tab mt_X12_contract = true := mj_ok1_mk (mj_cm0 (mj_wi_in 595) (mj_wi_in 574) (mj_wi_in 596) (mj_wi_in 597) rfl (by decide +kernel)) (by decide +kernel) (by decide +kernel)
set_option maxRecDepth 100000 in
theorem ok_X12_contracts : mj_ok1 mj_tab mt_X12_contracts = true := mj_ok1_mk (mj_cm0 (mj_wi_in 598) (mj_wi_in 574) (mj_wi_in 599) (mj_wi_in 600) rfl (by decide +kernel)) (by decide +kernel) (by decide +kernel)
set_option maxRecDepth 100000 in
theorem ok_X12_count : mj_ok1 mj_tab mt_X12_count = true := mj_ok1_mk (mj_cm0 (mj_wi_in 601) (mj_wi_in 574) (mj_wi_in 602) (mj_wi_in 603) rfl (by decide +kernel)) (by decide +kernel) (by decide +kernel)
set_option maxRecDepth 100000 in
theorem ok_X12_drawn : mj_ok1 mj_tab mt_X12_drawn = true := mj_ok1_mk (mj_cm0 (mj_wi_in 604) (mj_wi_in 574) (mj_wi_in 605) (mj_wi_in 606) rfl (by decide +kernel)) (by decide +kernel) (by decide +kernel)
set_option maxRecDepth 100000 in
theorem ok_X12_droughts : mj_ok1 mj_tab mt_X12_droughts = true := mj_ok1_mk (mj_cm0 (mj_wi_in 607) (mj_wi_in 574) (mj_wi_in 608) (mj_wi_in 609) rfl (by decide +kernel)) (by decide +kernel) (by decide +kernel)
set_option maxRecDepth 100000 in
theorem ok_X12_end : mj_ok1 mj_tab mt_X12_end = true := mj_ok1_mk (mj_cm0 (mj_wi_in 610) (mj_wi_in 574) (mj_wi_in 611) (mj_wi_in 612) rfl (by decide +kernel)) (by decide +kernel) (by decide +kernel)
set_option maxRecDepth 100000 in
theorem ok_X12_enough : mj_ok1 mj_tab mt_X12_enough = true := mj_ok1_mk (mj_cm0 (mj_wi_in 613) (mj_wi_in 574) (mj_wi_in 614) (mj_wi_in 615) rfl (by decide +kernel)) (by decide +kernel) (by decide +kernel)
set_option maxRecDepth 100000 in
theorem ok_X12_fault : mj_ok1 mj_tab mt_X12_fault = true := mj_ok1_mk (mj_cm0 (mj_wi_in 616) (mj_wi_in 574) (mj_wi_in 617) (mj_wi_in 618) rfl (by decide +kernel)) (by decide +kernel) (by decide +kernel)
set_option maxRecDepth 100000 in
theorem ok_X12_feed : mj_ok1 mj_tab mt_X12_feed = true := mj_ok1_mk (mj_cm0 (mj_wi_in 619) (mj_wi_in 574) (mj_wi_in 620) (mj_wi_in 621) rfl (by decide +kernel)) (by decide +kernel) (by decide +kernel)
set_option maxRecDepth 100000 in
theorem ok_X12_four : mj_ok1 mj_tab mt_X12_four = true := mj_ok1_mk (mj_cm0 (mj_wi_in 622) (mj_wi_in 574) (mj_wi_in 623) (mj_wi_in 624) rfl (by decide +kernel)) (by decide +kernel) (by decide +kernel)
set_option maxRecDepth 100000 in
theorem ok_X12_greatest : mj_ok1 mj_tab mt_X12_greatest = true := mj_ok1_mk (mj_cm0 (mj_wi_in 625) (mj_wi_in 574) (mj_wi_in 626) (mj_wi_in 627) rfl (by decide +kernel)) (by decide +kernel) (by decide +kernel)
set_option maxRecDepth 100000 in
theorem ok_X12_has : mj_ok1 mj_tab mt_X12_has = true := mj_ok1_mk (mj_cm0 (mj_wi_in 628) (mj_wi_in 574) (mj_wi_in 629) (mj_wi_in 630) rfl (by decide +kernel)) (by decide +kernel) (by decide +kernel)
set_option maxRecDepth 100000 in
theorem ok_X12_image : mj_ok1 mj_tab mt_X12_image = true := mj_ok1_mk (mj_cm0 (mj_wi_in 631) (mj_wi_in 574) (mj_wi_in 632) (mj_wi_in 633) rfl (by decide +kernel)) (by decide +kernel) (by decide +kernel)
set_option maxRecDepth 100000 in
theorem ok_X12_init : mj_ok1 mj_tab mt_X12_init = true := mj_ok1_mk (mj_cm2 (mj_wi_in 634) (mj_wi_in 574) (mj_wi_in 635) rfl (by decide +kernel)) (by decide +kernel) (by decide +kernel)
set_option maxRecDepth 100000 in
theorem ok_X12_isIn : mj_ok1 mj_tab mt_X12_isIn = true := mj_ok1_mk (mj_cm1 (mj_wi_in 636) (mj_wi_in 574) (mj_wi_in 637) rfl (by decide +kernel)) (by decide +kernel) (by decide +kernel)
set_option maxRecDepth 100000 in
theorem ok_X12_isMonth : mj_ok1 mj_tab mt_X12_isMonth = true := mj_ok1_mk (mj_cm1 (mj_wi_in 638) (mj_wi_in 574) (mj_wi_in 639) rfl (by decide +kernel)) (by decide +kernel) (by decide +kernel)
set_option maxRecDepth 100000 in
theorem ok_X12_isSign : mj_ok1 mj_tab mt_X12_isSign = true := mj_ok1_mk (mj_cm0 (mj_wi_in 640) (mj_wi_in 574) (mj_wi_in 641) (mj_wi_in 642) rfl (by decide +kernel)) (by decide +kernel) (by decide +kernel)
set_option maxRecDepth 100000 in
theorem ok_X12_isTown : mj_ok1 mj_tab mt_X12_isTown = true := mj_ok1_mk (mj_cm0 (mj_wi_in 643) (mj_wi_in 574) (mj_wi_in 644) (mj_wi_in 645) rfl (by decide +kernel)) (by decide +kernel) (by decide +kernel)
set_option maxRecDepth 100000 in
theorem ok_X12_isWord : mj_ok1 mj_tab mt_X12_isWord = true := mj_ok1_mk (mj_cm0 (mj_wi_in 646) (mj_wi_in 574) (mj_wi_in 647) (mj_wi_in 648) rfl (by decide +kernel)) (by decide +kernel) (by decide +kernel)
set_option maxRecDepth 100000 in
theorem ok_X12_leafOf : mj_ok1 mj_tab mt_X12_leafOf = true := mj_ok1_mk (mj_cm0 (mj_wi_in 649) (mj_wi_in 574) (mj_wi_in 650) (mj_wi_in 651) rfl (by decide +kernel)) (by decide +kernel) (by decide +kernel)
set_option maxRecDepth 100000 in
theorem ok_X12_leak : mj_ok1 mj_tab mt_X12_leak = true := mj_ok1_mk (mj_cm0 (mj_wi_in 652) (mj_wi_in 574) (mj_wi_in 653) (mj_wi_in 654) rfl (by decide +kernel)) (by decide +kernel) (by decide +kernel)
set_option maxRecDepth 100000 in
theorem ok_X12_leaks : mj_ok1 mj_tab mt_X12_leaks = true := mj_ok1_mk (mj_cm0 (mj_wi_in 655) (mj_wi_in 574) (mj_wi_in 656) (mj_wi_in 657) rfl (by decide +kernel)) (by decide +kernel) (by decide +kernel)
set_option maxRecDepth 100000 in
theorem ok_X12_let : mj_ok1 mj_tab mt_X12_let = true := mj_ok1_mk (mj_cm0 (mj_wi_in 658) (mj_wi_in 574) (mj_wi_in 659) (mj_wi_in 660) rfl (by decide +kernel)) (by decide +kernel) (by decide +kernel)
set_option maxRecDepth 100000 in
theorem ok_X12_must : mj_ok1 mj_tab mt_X12_must = true := mj_ok1_mk (mj_cm0 (mj_wi_in 661) (mj_wi_in 574) (mj_wi_in 662) (mj_wi_in 663) rfl (by decide +kernel)) (by decide +kernel) (by decide +kernel)
set_option maxRecDepth 100000 in
theorem ok_X12_next : mj_ok1 mj_tab mt_X12_next = true := mj_ok1_mk (mj_cm0 (mj_wi_in 664) (mj_wi_in 574) (mj_wi_in 665) (mj_wi_in 666) rfl (by decide +kernel)) (by decide +kernel) (by decide +kernel)
set_option maxRecDepth 100000 in
theorem ok_X12_offer : mj_ok1 mj_tab mt_X12_offer = true := mj_ok1_mk (mj_cm0 (mj_wi_in 667) (mj_wi_in 574) (mj_wi_in 668) (mj_wi_in 669) rfl (by decide +kernel)) (by decide +kernel) (by decide +kernel)
set_option maxRecDepth 100000 in
theorem ok_X12_on : mj_ok1 mj_tab mt_X12_on = true := mj_ok1_mk (mj_cm0 (mj_wi_in 670) (mj_wi_in 574) (mj_wi_in 671) (mj_wi_in 672) rfl (by decide +kernel)) (by decide +kernel) (by decide +kernel)
set_option maxRecDepth 100000 in
theorem ok_X12_operand : mj_ok1 mj_tab mt_X12_operand = true := mj_ok1_mk (mj_cm0 (mj_wi_in 673) (mj_wi_in 574) (mj_wi_in 674) (mj_wi_in 675) rfl (by decide +kernel)) (by decide +kernel) (by decide +kernel)
set_option maxRecDepth 100000 in
theorem ok_X12_peek : mj_ok1 mj_tab mt_X12_peek = true := mj_ok1_mk (mj_cm0 (mj_wi_in 676) (mj_wi_in 574) (mj_wi_in 677) (mj_wi_in 678) rfl (by decide +kernel)) (by decide +kernel) (by decide +kernel)
set_option maxRecDepth 100000 in
theorem ok_X12_plain : mj_ok1 mj_tab mt_X12_plain = true := mj_ok1_mk (mj_cm0 (mj_wi_in 679) (mj_wi_in 574) (mj_wi_in 680) (mj_wi_in 681) rfl (by decide +kernel)) (by decide +kernel) (by decide +kernel)
set_option maxRecDepth 100000 in
theorem ok_X12_plan : mj_ok1 mj_tab mt_X12_plan = true := mj_ok1_mk (mj_cm0 (mj_wi_in 682) (mj_wi_in 574) (mj_wi_in 683) (mj_wi_in 684) rfl (by decide +kernel)) (by decide +kernel) (by decide +kernel)
set_option maxRecDepth 100000 in
theorem ok_X12_price : mj_ok1 mj_tab mt_X12_price = true := mj_ok1_mk (mj_cm0 (mj_wi_in 685) (mj_wi_in 574) (mj_wi_in 686) (mj_wi_in 687) rfl (by decide +kernel)) (by decide +kernel) (by decide +kernel)
set_option maxRecDepth 100000 in
theorem ok_X12_restore : mj_ok1 mj_tab mt_X12_restore = true := mj_ok1_mk (mj_cm0 (mj_wi_in 688) (mj_wi_in 574) (mj_wi_in 689) (mj_wi_in 690) rfl (by decide +kernel)) (by decide +kernel) (by decide +kernel)
set_option maxRecDepth 100000 in
theorem ok_X12_rounds : mj_ok1 mj_tab mt_X12_rounds = true := mj_ok1_mk (mj_cm0 (mj_wi_in 691) (mj_wi_in 574) (mj_wi_in 692) (mj_wi_in 693) rfl (by decide +kernel)) (by decide +kernel) (by decide +kernel)
set_option maxRecDepth 100000 in
theorem ok_X12_said : mj_ok1 mj_tab mt_X12_said = true := mj_ok1_mk (mj_cm0 (mj_wi_in 694) (mj_wi_in 574) (mj_wi_in 695) (mj_wi_in 696) rfl (by decide +kernel)) (by decide +kernel) (by decide +kernel)
set_option maxRecDepth 100000 in
theorem ok_X12_sentence : mj_ok1 mj_tab mt_X12_sentence = true := mj_ok1_mk (mj_cm0 (mj_wi_in 697) (mj_wi_in 574) (mj_wi_in 698) (mj_wi_in 699) rfl (by decide +kernel)) (by decide +kernel) (by decide +kernel)
set_option maxRecDepth 100000 in
theorem ok_X12_shores : mj_ok1 mj_tab mt_X12_shores = true := mj_ok1_mk (mj_cm0 (mj_wi_in 700) (mj_wi_in 574) (mj_wi_in 701) (mj_wi_in 702) rfl (by decide +kernel)) (by decide +kernel) (by decide +kernel)
set_option maxRecDepth 100000 in
theorem ok_X12_shoresOf : mj_ok1 mj_tab mt_X12_shoresOf = true := mj_ok1_mk (mj_cm0 (mj_wi_in 703) (mj_wi_in 574) (mj_wi_in 704) (mj_wi_in 705) rfl (by decide +kernel)) (by decide +kernel) (by decide +kernel)
set_option maxRecDepth 100000 in
theorem ok_X12_take : mj_ok1 mj_tab mt_X12_take = true := mj_ok1_mk (mj_cm0 (mj_wi_in 706) (mj_wi_in 574) (mj_wi_in 707) (mj_wi_in 708) rfl (by decide +kernel)) (by decide +kernel) (by decide +kernel)
set_option maxRecDepth 100000 in
theorem ok_X12_taken : mj_ok1 mj_tab mt_X12_taken = true := mj_ok1_mk (mj_cm0 (mj_wi_in 709) (mj_wi_in 574) (mj_wi_in 710) (mj_wi_in 711) rfl (by decide +kernel)) (by decide +kernel) (by decide +kernel)
set_option maxRecDepth 100000 in
theorem ok_X12_thirsty : mj_ok1 mj_tab mt_X12_thirsty = true := mj_ok1_mk (mj_cm0 (mj_wi_in 712) (mj_wi_in 574) (mj_wi_in 713) (mj_wi_in 714) rfl (by decide +kernel)) (by decide +kernel) (by decide +kernel)
set_option maxRecDepth 100000 in
theorem ok_X12_thrown : mj_ok1 mj_tab mt_X12_thrown = true := mj_ok1_mk (mj_cm0 (mj_wi_in 715) (mj_wi_in 574) (mj_wi_in 716) (mj_wi_in 717) rfl (by decide +kernel)) (by decide +kernel) (by decide +kernel)
set_option maxRecDepth 100000 in
theorem ok_X12_throwsIf : mj_ok1 mj_tab mt_X12_throwsIf = true := mj_ok1_mk (mj_cm0 (mj_wi_in 718) (mj_wi_in 574) (mj_wi_in 719) (mj_wi_in 720) rfl (by decide +kernel)) (by decide +kernel) (by decide +kernel)
set_option maxRecDepth 100000 in
theorem ok_X12_told : mj_ok1 mj_tab mt_X12_told = true := mj_ok1_mk (mj_cm0 (mj_wi_in 721) (mj_wi_in 574) (mj_wi_in 722) (mj_wi_in 723) rfl (by decide +kernel)) (by decide +kernel) (by decide +kernel)
set_option maxRecDepth 100000 in
theorem ok_X12_town : mj_ok1 mj_tab mt_X12_town = true := mj_ok1_mk (mj_cm0 (mj_wi_in 724) (mj_wi_in 574) (mj_wi_in 725) (mj_wi_in 726) rfl (by decide +kernel)) (by decide +kernel) (by decide +kernel)
set_option maxRecDepth 100000 in
theorem ok_X12_undo : mj_ok1 mj_tab mt_X12_undo = true := mj_ok1_mk (mj_cm0 (mj_wi_in 727) (mj_wi_in 574) (mj_wi_in 728) (mj_wi_in 729) rfl (by decide +kernel)) (by decide +kernel) (by decide +kernel)
set_option maxRecDepth 100000 in
theorem ok_X12_water : mj_ok1 mj_tab mt_X12_water = true := mj_ok1_mk (mj_cm0 (mj_wi_in 730) (mj_wi_in 574) (mj_wi_in 731) (mj_wi_in 732) rfl (by decide +kernel)) (by decide +kernel) (by decide +kernel)
set_option maxRecDepth 100000 in
theorem ok_X12_wettest : mj_ok1 mj_tab mt_X12_wettest = true := mj_ok1_mk (mj_cm0 (mj_wi_in 733) (mj_wi_in 574) (mj_wi_in 734) (mj_wi_in 735) rfl (by decide +kernel)) (by decide +kernel) (by decide +kernel)
set_option maxRecDepth 100000 in
theorem ok_X12_worth : mj_ok1 mj_tab mt_X12_worth = true := mj_ok1_mk (mj_cm0 (mj_wi_in 736) (mj_wi_in 574) (mj_wi_in 737) (mj_wi_in 738) rfl (by decide +kernel)) (by decide +kernel) (by decide +kernel)
set_option maxRecDepth 100000 in
theorem ok_X12_write : mj_ok1 mj_tab mt_X12_write = true := mj_ok1_mk (mj_cm0 (mj_wi_in 739) (mj_wi_in 574) (mj_wi_in 740) (mj_wi_in 741) rfl (by decide +kernel)) (by decide +kernel) (by decide +kernel)
set_option maxRecDepth 100000 in
theorem ok_X12_year : mj_ok1 mj_tab mt_X12_year = true := mj_ok1_mk (mj_cm0 (mj_wi_in 742) (mj_wi_in 574) (mj_wi_in 743) (mj_wi_in 744) rfl (by decide +kernel)) (by decide +kernel) (by decide +kernel)
end
section
theorem mj_cond {P : mj_T → Bool} {b : Bool} {x z : mj_T} (h1 : P x = true) (h2 : P z = true) : P (cond b x z) = true := match b with
  | true => h1
  | false => h2
abbrev n_X0_init : Nat := 0
abbrev n_X1_clear : Nat := 1
abbrev n_X1_copy : Nat := 2
abbrev n_X1_init : Nat := 3
abbrev n_X1_readRows : Nat := 4
abbrev n_X1_tells : Nat := 5
abbrev n_X2_init : Nat := 6
abbrev n_X2_readLevels : Nat := 7
abbrev n_X3_clear : Nat := 8
abbrev n_X3_copy : Nat := 9
abbrev n_X3_init : Nat := 10
abbrev n_X3_readRows : Nat := 11
abbrev n_X4_init : Nat := 12
abbrev n_X5_begins : Nat := 13
abbrev n_X5_clear : Nat := 14
abbrev n_X5_copy : Nat := 15
abbrev n_X5_init : Nat := 16
abbrev n_X5_readAll : Nat := 17
abbrev n_X5_readCond : Nat := 18
abbrev n_X5_readOne : Nat := 19
abbrev n_X5_readText : Nat := 20
abbrev n_X6_copy : Nat := 21
abbrev n_X6_init : Nat := 22
abbrev n_X7_advance : Nat := 23
abbrev n_X7_finish : Nat := 24
abbrev n_X7_hasRoom : Nat := 25
abbrev n_X7_init : Nat := 26
abbrev n_X7_isSign : Nat := 27
abbrev n_X7_open : Nat := 28
abbrev n_X7_put : Nat := 29
abbrev n_X7_refuse : Nat := 30
abbrev n_X8_back : Nat := 31
abbrev n_X8_init : Nat := 32
abbrev n_X10_copy : Nat := 33
abbrev n_X10_init : Nat := 34
abbrev n_X11_begin : Nat := 35
abbrev n_X11_bid : Nat := 36
abbrev n_X11_bidsOf : Nat := 37
abbrev n_X11_byteAt : Nat := 38
abbrev n_X11_cheapest : Nat := 39
abbrev n_X11_closeTape : Nat := 40
abbrev n_X11_contract : Nat := 41
abbrev n_X11_contracts : Nat := 42
abbrev n_X11_count : Nat := 43
abbrev n_X11_drawn : Nat := 44
abbrev n_X11_droughts : Nat := 45
abbrev n_X11_end : Nat := 46
abbrev n_X11_enough : Nat := 47
abbrev n_X11_fault : Nat := 48
abbrev n_X11_feed : Nat := 49
abbrev n_X11_greatest : Nat := 50
abbrev n_X11_has : Nat := 51
abbrev n_X11_image : Nat := 52
abbrev n_X11_init : Nat := 53
abbrev n_X11_isMonth : Nat := 54
abbrev n_X11_isTown : Nat := 55
abbrev n_X11_leak : Nat := 56
abbrev n_X11_leaks : Nat := 57
abbrev n_X11_let : Nat := 58
abbrev n_X11_must : Nat := 59
abbrev n_X11_offer : Nat := 60
abbrev n_X11_on : Nat := 61
abbrev n_X11_plain : Nat := 62
abbrev n_X11_plan : Nat := 63
abbrev n_X11_price : Nat := 64
abbrev n_X11_restore : Nat := 65
abbrev n_X11_rounds : Nat := 66
abbrev n_X11_said : Nat := 67
abbrev n_X11_sentence : Nat := 68
abbrev n_X11_shores : Nat := 69
abbrev n_X11_shoresOf : Nat := 70
abbrev n_X11_take : Nat := 71
abbrev n_X11_thirsty : Nat := 72
abbrev n_X11_town : Nat := 73
abbrev n_X11_undo : Nat := 74
abbrev n_X11_water : Nat := 75
abbrev n_X11_wettest : Nat := 76
abbrev n_X11_worth : Nat := 77
abbrev n_X11_write : Nat := 78
abbrev n_X11_year : Nat := 79
abbrev n_X12_bad : Nat := 80
abbrev n_X12_begin : Nat := 81
abbrev n_X12_bid : Nat := 82
abbrev n_X12_bidMany : Nat := 83
abbrev n_X12_bidsOf : Nat := 84
abbrev n_X12_byteAt : Nat := 85
abbrev n_X12_cheapest : Nat := 86
abbrev n_X12_contract : Nat := 87
abbrev n_X12_contracts : Nat := 88
abbrev n_X12_count : Nat := 89
abbrev n_X12_drawn : Nat := 90
abbrev n_X12_droughts : Nat := 91
abbrev n_X12_end : Nat := 92
abbrev n_X12_enough : Nat := 93
abbrev n_X12_fault : Nat := 94
abbrev n_X12_feed : Nat := 95
abbrev n_X12_four : Nat := 96
abbrev n_X12_greatest : Nat := 97
abbrev n_X12_has : Nat := 98
abbrev n_X12_image : Nat := 99
abbrev n_X12_init : Nat := 100
abbrev n_X12_isIn : Nat := 101
abbrev n_X12_isMonth : Nat := 102
abbrev n_X12_isSign : Nat := 103
abbrev n_X12_isTown : Nat := 104
abbrev n_X12_isWord : Nat := 105
abbrev n_X12_leafOf : Nat := 106
abbrev n_X12_leak : Nat := 107
abbrev n_X12_leaks : Nat := 108
abbrev n_X12_let : Nat := 109
abbrev n_X12_must : Nat := 110
abbrev n_X12_next : Nat := 111
abbrev n_X12_offer : Nat := 112
abbrev n_X12_on : Nat := 113
abbrev n_X12_operand : Nat := 114
abbrev n_X12_peek : Nat := 115
abbrev n_X12_plain : Nat := 116
abbrev n_X12_plan : Nat := 117
abbrev n_X12_price : Nat := 118
abbrev n_X12_restore : Nat := 119
abbrev n_X12_rounds : Nat := 120
abbrev n_X12_said : Nat := 121
abbrev n_X12_sentence : Nat := 122
abbrev n_X12_shores : Nat := 123
abbrev n_X12_shoresOf : Nat := 124
abbrev n_X12_take : Nat := 125
abbrev n_X12_taken : Nat := 126
abbrev n_X12_thirsty : Nat := 127
abbrev n_X12_thrown : Nat := 128
abbrev n_X12_throwsIf : Nat := 129
abbrev n_X12_told : Nat := 130
abbrev n_X12_town : Nat := 131
abbrev n_X12_undo : Nat := 132
abbrev n_X12_water : Nat := 133
abbrev n_X12_wettest : Nat := 134
abbrev n_X12_worth : Nat := 135
abbrev n_X12_write : Nat := 136
abbrev n_X12_year : Nat := 137
theorem mj_all (y : Nat) : mj_ok1 mj_tab (mj_tab y) = true := by
  have e : mj_tab y = (cond (Nat.blt y 69) (cond (Nat.blt y 34) (cond (Nat.blt y 17) (cond (Nat.blt y 8) (cond (Nat.blt y 4) (cond (Nat.blt y 2) (cond (Nat.blt y 1) mt_X0_init mt_X1_clear) (cond (Nat.blt y 3) mt_X1_copy mt_X1_init)) (cond (Nat.blt y 6) (cond (Nat.blt y 5) mt_X1_readRows mt_X1_tells) (cond (Nat.blt y 7) mt_X2_init mt_X2_readLevels))) (cond (Nat.blt y 12) (cond (Nat.blt y 10) (cond (Nat.blt y 9) mt_X3_clear mt_X3_copy) (cond (Nat.blt y 11) mt_X3_init mt_X3_readRows)) (cond (Nat.blt y 14) (cond (Nat.blt y 13) mt_X4_init mt_X5_begins) (cond (Nat.blt y 15) mt_X5_clear (cond (Nat.blt y 16) mt_X5_copy mt_X5_init))))) (cond (Nat.blt y 25) (cond (Nat.blt y 21) (cond (Nat.blt y 19) (cond (Nat.blt y 18) mt_X5_readAll mt_X5_readCond) (cond (Nat.blt y 20) mt_X5_readOne mt_X5_readText)) (cond (Nat.blt y 23) (cond (Nat.blt y 22) mt_X6_copy mt_X6_init) (cond (Nat.blt y 24) mt_X7_advance mt_X7_finish))) (cond (Nat.blt y 29) (cond (Nat.blt y 27) (cond (Nat.blt y 26) mt_X7_hasRoom mt_X7_init) (cond (Nat.blt y 28) mt_X7_isSign mt_X7_open)) (cond (Nat.blt y 31) (cond (Nat.blt y 30) mt_X7_put mt_X7_refuse) (cond (Nat.blt y 32) mt_X8_back (cond (Nat.blt y 33) mt_X8_init mt_X10_copy)))))) (cond (Nat.blt y 51) (cond (Nat.blt y 42) (cond (Nat.blt y 38) (cond (Nat.blt y 36) (cond (Nat.blt y 35) mt_X10_init mt_X11_begin) (cond (Nat.blt y 37) mt_X11_bid mt_X11_bidsOf)) (cond (Nat.blt y 40) (cond (Nat.blt y 39) mt_X11_byteAt mt_X11_cheapest) (cond (Nat.blt y 41) mt_X11_closeTape mt_X11_contract))) (cond (Nat.blt y 46) (cond (Nat.blt y 44) (cond (Nat.blt y 43) mt_X11_contracts mt_X11_count) (cond (Nat.blt y 45) mt_X11_drawn mt_X11_droughts)) (cond (Nat.blt y 48) (cond (Nat.blt y 47) mt_X11_end mt_X11_enough) (cond (Nat.blt y 49) mt_X11_fault (cond (Nat.blt y 50) mt_X11_feed mt_X11_greatest))))) (cond (Nat.blt y 60) (cond (Nat.blt y 55) (cond (Nat.blt y 53) (cond (Nat.blt y 52) mt_X11_has mt_X11_image) (cond (Nat.blt y 54) mt_X11_init mt_X11_isMonth)) (cond (Nat.blt y 57) (cond (Nat.blt y 56) mt_X11_isTown mt_X11_leak) (cond (Nat.blt y 58) mt_X11_leaks (cond (Nat.blt y 59) mt_X11_let mt_X11_must)))) (cond (Nat.blt y 64) (cond (Nat.blt y 62) (cond (Nat.blt y 61) mt_X11_offer mt_X11_on) (cond (Nat.blt y 63) mt_X11_plain mt_X11_plan)) (cond (Nat.blt y 66) (cond (Nat.blt y 65) mt_X11_price mt_X11_restore) (cond (Nat.blt y 67) mt_X11_rounds (cond (Nat.blt y 68) mt_X11_said mt_X11_sentence))))))) (cond (Nat.blt y 103) (cond (Nat.blt y 86) (cond (Nat.blt y 77) (cond (Nat.blt y 73) (cond (Nat.blt y 71) (cond (Nat.blt y 70) mt_X11_shores mt_X11_shoresOf) (cond (Nat.blt y 72) mt_X11_take mt_X11_thirsty)) (cond (Nat.blt y 75) (cond (Nat.blt y 74) mt_X11_town mt_X11_undo) (cond (Nat.blt y 76) mt_X11_water mt_X11_wettest))) (cond (Nat.blt y 81) (cond (Nat.blt y 79) (cond (Nat.blt y 78) mt_X11_worth mt_X11_write) (cond (Nat.blt y 80) mt_X11_year mt_X12_bad)) (cond (Nat.blt y 83) (cond (Nat.blt y 82) mt_X12_begin mt_X12_bid) (cond (Nat.blt y 84) mt_X12_bidMany (cond (Nat.blt y 85) mt_X12_bidsOf mt_X12_byteAt))))) (cond (Nat.blt y 94) (cond (Nat.blt y 90) (cond (Nat.blt y 88) (cond (Nat.blt y 87) mt_X12_cheapest mt_X12_contract) (cond (Nat.blt y 89) mt_X12_contracts mt_X12_count)) (cond (Nat.blt y 92) (cond (Nat.blt y 91) mt_X12_drawn mt_X12_droughts) (cond (Nat.blt y 93) mt_X12_end mt_X12_enough))) (cond (Nat.blt y 98) (cond (Nat.blt y 96) (cond (Nat.blt y 95) mt_X12_fault mt_X12_feed) (cond (Nat.blt y 97) mt_X12_four mt_X12_greatest)) (cond (Nat.blt y 100) (cond (Nat.blt y 99) mt_X12_has mt_X12_image) (cond (Nat.blt y 101) mt_X12_init (cond (Nat.blt y 102) mt_X12_isIn mt_X12_isMonth)))))) (cond (Nat.blt y 120) (cond (Nat.blt y 111) (cond (Nat.blt y 107) (cond (Nat.blt y 105) (cond (Nat.blt y 104) mt_X12_isSign mt_X12_isTown) (cond (Nat.blt y 106) mt_X12_isWord mt_X12_leafOf)) (cond (Nat.blt y 109) (cond (Nat.blt y 108) mt_X12_leak mt_X12_leaks) (cond (Nat.blt y 110) mt_X12_let mt_X12_must))) (cond (Nat.blt y 115) (cond (Nat.blt y 113) (cond (Nat.blt y 112) mt_X12_next mt_X12_offer) (cond (Nat.blt y 114) mt_X12_on mt_X12_operand)) (cond (Nat.blt y 117) (cond (Nat.blt y 116) mt_X12_peek mt_X12_plain) (cond (Nat.blt y 118) mt_X12_plan (cond (Nat.blt y 119) mt_X12_price mt_X12_restore))))) (cond (Nat.blt y 129) (cond (Nat.blt y 124) (cond (Nat.blt y 122) (cond (Nat.blt y 121) mt_X12_rounds mt_X12_said) (cond (Nat.blt y 123) mt_X12_sentence mt_X12_shores)) (cond (Nat.blt y 126) (cond (Nat.blt y 125) mt_X12_shoresOf mt_X12_take) (cond (Nat.blt y 127) mt_X12_taken (cond (Nat.blt y 128) mt_X12_thirsty mt_X12_thrown)))) (cond (Nat.blt y 133) (cond (Nat.blt y 131) (cond (Nat.blt y 130) mt_X12_throwsIf mt_X12_told) (cond (Nat.blt y 132) mt_X12_town mt_X12_undo)) (cond (Nat.blt y 135) (cond (Nat.blt y 134) mt_X12_water mt_X12_wettest) (cond (Nat.blt y 136) mt_X12_worth (cond (Nat.blt y 137) mt_X12_write mt_X12_year)))))))) := rfl
  rw [e]
  generalize hP : mj_ok1 mj_tab = P
  have h : ∀ q, mj_ok1 mj_tab q = true → P q = true := fun q h => by rw [← hP]; exact h
  exact (mj_cond (mj_cond (mj_cond (mj_cond (mj_cond (mj_cond (mj_cond (h _ ok_X0_init) (h _ ok_X1_clear)) (mj_cond (h _ ok_X1_copy) (h _ ok_X1_init))) (mj_cond (mj_cond (h _ ok_X1_readRows) (h _ ok_X1_tells)) (mj_cond (h _ ok_X2_init) (h _ ok_X2_readLevels)))) (mj_cond (mj_cond (mj_cond (h _ ok_X3_clear) (h _ ok_X3_copy)) (mj_cond (h _ ok_X3_init) (h _ ok_X3_readRows))) (mj_cond (mj_cond (h _ ok_X4_init) (h _ ok_X5_begins)) (mj_cond (h _ ok_X5_clear) (mj_cond (h _ ok_X5_copy) (h _ ok_X5_init)))))) (mj_cond (mj_cond (mj_cond (mj_cond (h _ ok_X5_readAll) (h _ ok_X5_readCond)) (mj_cond (h _ ok_X5_readOne) (h _ ok_X5_readText))) (mj_cond (mj_cond (h _ ok_X6_copy) (h _ ok_X6_init)) (mj_cond (h _ ok_X7_advance) (h _ ok_X7_finish)))) (mj_cond (mj_cond (mj_cond (h _ ok_X7_hasRoom) (h _ ok_X7_init)) (mj_cond (h _ ok_X7_isSign) (h _ ok_X7_open))) (mj_cond (mj_cond (h _ ok_X7_put) (h _ ok_X7_refuse)) (mj_cond (h _ ok_X8_back) (mj_cond (h _ ok_X8_init) (h _ ok_X10_copy))))))) (mj_cond (mj_cond (mj_cond (mj_cond (mj_cond (h _ ok_X10_init) (h _ ok_X11_begin)) (mj_cond (h _ ok_X11_bid) (h _ ok_X11_bidsOf))) (mj_cond (mj_cond (h _ ok_X11_byteAt) (h _ ok_X11_cheapest)) (mj_cond (h _ ok_X11_closeTape) (h _ ok_X11_contract)))) (mj_cond (mj_cond (mj_cond (h _ ok_X11_contracts) (h _ ok_X11_count)) (mj_cond (h _ ok_X11_drawn) (h _ ok_X11_droughts))) (mj_cond (mj_cond (h _ ok_X11_end) (h _ ok_X11_enough)) (mj_cond (h _ ok_X11_fault) (mj_cond (h _ ok_X11_feed) (h _ ok_X11_greatest)))))) (mj_cond (mj_cond (mj_cond (mj_cond (h _ ok_X11_has) (h _ ok_X11_image)) (mj_cond (h _ ok_X11_init) (h _ ok_X11_isMonth))) (mj_cond (mj_cond (h _ ok_X11_isTown) (h _ ok_X11_leak)) (mj_cond (h _ ok_X11_leaks) (mj_cond (h _ ok_X11_let) (h _ ok_X11_must))))) (mj_cond (mj_cond (mj_cond (h _ ok_X11_offer) (h _ ok_X11_on)) (mj_cond (h _ ok_X11_plain) (h _ ok_X11_plan))) (mj_cond (mj_cond (h _ ok_X11_price) (h _ ok_X11_restore)) (mj_cond (h _ ok_X11_rounds) (mj_cond (h _ ok_X11_said) (h _ ok_X11_sentence)))))))) (mj_cond (mj_cond (mj_cond (mj_cond (mj_cond (mj_cond (h _ ok_X11_shores) (h _ ok_X11_shoresOf)) (mj_cond (h _ ok_X11_take) (h _ ok_X11_thirsty))) (mj_cond (mj_cond (h _ ok_X11_town) (h _ ok_X11_undo)) (mj_cond (h _ ok_X11_water) (h _ ok_X11_wettest)))) (mj_cond (mj_cond (mj_cond (h _ ok_X11_worth) (h _ ok_X11_write)) (mj_cond (h _ ok_X11_year) (h _ ok_X12_bad))) (mj_cond (mj_cond (h _ ok_X12_begin) (h _ ok_X12_bid)) (mj_cond (h _ ok_X12_bidMany) (mj_cond (h _ ok_X12_bidsOf) (h _ ok_X12_byteAt)))))) (mj_cond (mj_cond (mj_cond (mj_cond (h _ ok_X12_cheapest) (h _ ok_X12_contract)) (mj_cond (h _ ok_X12_contracts) (h _ ok_X12_count))) (mj_cond (mj_cond (h _ ok_X12_drawn) (h _ ok_X12_droughts)) (mj_cond (h _ ok_X12_end) (h _ ok_X12_enough)))) (mj_cond (mj_cond (mj_cond (h _ ok_X12_fault) (h _ ok_X12_feed)) (mj_cond (h _ ok_X12_four) (h _ ok_X12_greatest))) (mj_cond (mj_cond (h _ ok_X12_has) (h _ ok_X12_image)) (mj_cond (h _ ok_X12_init) (mj_cond (h _ ok_X12_isIn) (h _ ok_X12_isMonth))))))) (mj_cond (mj_cond (mj_cond (mj_cond (mj_cond (h _ ok_X12_isSign) (h _ ok_X12_isTown)) (mj_cond (h _ ok_X12_isWord) (h _ ok_X12_leafOf))) (mj_cond (mj_cond (h _ ok_X12_leak) (h _ ok_X12_leaks)) (mj_cond (h _ ok_X12_let) (h _ ok_X12_must)))) (mj_cond (mj_cond (mj_cond (h _ ok_X12_next) (h _ ok_X12_offer)) (mj_cond (h _ ok_X12_on) (h _ ok_X12_operand))) (mj_cond (mj_cond (h _ ok_X12_peek) (h _ ok_X12_plain)) (mj_cond (h _ ok_X12_plan) (mj_cond (h _ ok_X12_price) (h _ ok_X12_restore)))))) (mj_cond (mj_cond (mj_cond (mj_cond (h _ ok_X12_rounds) (h _ ok_X12_said)) (mj_cond (h _ ok_X12_sentence) (h _ ok_X12_shores))) (mj_cond (mj_cond (h _ ok_X12_shoresOf) (h _ ok_X12_take)) (mj_cond (h _ ok_X12_taken) (mj_cond (h _ ok_X12_thirsty) (h _ ok_X12_thrown))))) (mj_cond (mj_cond (mj_cond (h _ ok_X12_throwsIf) (h _ ok_X12_told)) (mj_cond (h _ ok_X12_town) (h _ ok_X12_undo))) (mj_cond (mj_cond (h _ ok_X12_water) (h _ ok_X12_wettest)) (mj_cond (h _ ok_X12_worth) (mj_cond (h _ ok_X12_write) (h _ ok_X12_year)))))))))
end
section
/-! ===== a symbolic run of the small machine, by a program: ints known or by a sign with bounds, cells by numbers ===== -/
abbrev sx_I : Type := Int ⊕ Nat
abbrev sx_V : Type := sx_I ⊕ (Int64 ⊕ Option Nat)
abbrev sx_L : Type := List (Option sx_V)
abbrev sx_c : Type := Nat × Nat × Lean.RArray sx_I × Lean.RArray Int64 × Lean.RArray (Option Nat)
abbrev sx_H : Type := Nat × Lean.RArray sx_c
abbrev sx_Y : Type := List (Int × Int)
abbrev sx_F : Type := Nat × Nat × List mj_E × sx_L × List sx_V × Nat × Nat
abbrev sx_K : Type := Nat → Nat → List mj_E → sx_L → List sx_V → Nat → Nat → List sx_F → sx_H → sx_Y → Bool
/-! a tree by the bits of a number, the lowest first -/
noncomputable def sx_g {β : Type} (t : Lean.RArray β) : Nat → β := Lean.RArray.rec (motive := fun _ => Nat → β) (fun a _ => a) (fun _ _ _ l r k => cond (Nat.beq (Nat.mod k 2) 0) (l (Nat.div k 2)) (r (Nat.div k 2))) t
def sx_s {β : Type} : Nat → Lean.RArray β → Nat → β → Lean.RArray β
  | 0, _, _, v => .leaf v
  | d + 1, .leaf a, k, v => cond (Nat.beq (Nat.mod k 2) 0) (.branch 0 (sx_s d (.leaf a) (Nat.div k 2) v) (.leaf a)) (.branch 0 (.leaf a) (sx_s d (.leaf a) (Nat.div k 2) v))
  | d + 1, .branch p l r, k, v => cond (Nat.beq (Nat.mod k 2) 0) (.branch p (sx_s d l (Nat.div k 2) v) r) (.branch p l (sx_s d r (Nat.div k 2) v))
noncomputable def sx_sk {β : Type} (d : Nat) : Lean.RArray β → Nat → β → (Lean.RArray β → Bool) → Bool := Nat.rec (motive := fun _ => Lean.RArray β → Nat → β → (Lean.RArray β → Bool) → Bool) (fun _ _ v K => K (.leaf v))
  (fun _ ih t k v K => Lean.RArray.casesOn (motive := fun _ => Bool) t
    (fun a => cond (Nat.beq (Nat.mod k 2) 0) (ih (.leaf a) (Nat.div k 2) v fun l => K (.branch 0 l (.leaf a))) (ih (.leaf a) (Nat.div k 2) v fun r => K (.branch 0 (.leaf a) r)))
    (fun p l r => cond (Nat.beq (Nat.mod k 2) 0) (ih l (Nat.div k 2) v fun l' => K (.branch p l' r)) (ih r (Nat.div k 2) v fun r' => K (.branch p l r')))) d
/-! numbers -/
def sx_le (x y : Int) : Bool := match x, y with
  | .ofNat a, .ofNat b => Nat.ble a b
  | .negSucc _, .ofNat _ => true
  | .ofNat _, .negSucc _ => false
  | .negSucc a, .negSucc b => Nat.ble b a
def sx_eq (x y : Int) : Bool := sx_le x y && sx_le y x
def sx_in (lo hi : Int) : Bool := sx_le (.negSucc 2147483647) lo && sx_le hi (.ofNat 2147483647)
def sx_fn (n : Nat) (k : Nat → Bool) : Bool := match n with
  | 0 => k 0
  | m + 1 => k (Nat.succ m)
def sx_fi (z : Int) (k : Int → Bool) : Bool := match z with
  | .ofNat n => sx_fn n fun n => k (.ofNat n)
  | .negSucc n => sx_fn n fun n => k (.negSucc n)
def sx_ny : sx_Y → Nat → Option (Int × Int)
  | [], _ => none
  | x :: _, 0 => some x
  | _ :: t, n + 1 => sx_ny t n
def sx_iv (Y : sx_Y) (x : sx_I) (k : Int → Int → Bool) : Bool := match x with
  | .inl z => k z z
  | .inr i => match sx_ny Y i with
    | some q => k q.1 q.2
    | none => false
def sx_kn (Y : sx_Y) (x : sx_I) (k : Int → Bool) : Bool := sx_iv Y x fun lo hi => cond (sx_eq lo hi) (k lo) false
/-- a new sign -/
def sx_fr (Y : sx_Y) (lo hi : Int) (k : sx_I → sx_Y → Bool) : Bool := k (.inr Y.length) (Y ++ [(lo, hi)])
def sx_ff (Y : sx_Y) (k : sx_I → sx_Y → Bool) : Bool := sx_fr Y (.negSucc 2147483647) (.ofNat 2147483647) k
/-- a result within bounds -/
def sx_ai (Y : sx_Y) (lo hi : Int) (k : sx_I → sx_Y → Bool) (no : Bool) : Bool := sx_fi lo fun lo => sx_fi hi fun hi => cond (sx_in lo hi) (cond (sx_eq lo hi) (k (.inl lo) Y) (sx_fr Y lo hi k)) no
def sx_ar (Y : sx_Y) (lo hi : Int) (k : sx_I → sx_Y → Bool) : Bool := sx_ai Y lo hi k (sx_ff Y k)
/-- every value from lo on, n of them -/
def sx_all (n : Nat) (lo : Int) (k : Int → Bool) : Bool := match n with
  | 0 => true
  | n + 1 => sx_fi lo k && sx_all n (lo + 1) k
/-- the value of an index: each that it may be -/
def sx_sp (Y : sx_Y) (x : sx_I) (k : Int → sx_Y → Bool) : Bool := match x with
  | .inl z => k z Y
  | .inr i => match sx_ny Y i with
    | some q => cond (sx_le (q.2 - q.1) (.ofNat 60)) (sx_all (q.2 + 1 - q.1).toNat q.1 fun z => k z (Y.set i (z, z))) false
    | none => false
/-! comparisons -/
def sx_may (c : ClassFile.Cond) (a b c' d : Int) : Bool := match c with
  | .eq => sx_le a d && sx_le c' b
  | .ne => !(sx_eq a b && sx_eq c' d && sx_eq a c')
  | .lt => !(sx_le d a)
  | .ge => sx_le c' b
  | .gt => !(sx_le b c')
  | .le => sx_le a d
def sx_neg (c : ClassFile.Cond) : ClassFile.Cond := match c with
  | .eq => .ne
  | .ne => .eq
  | .lt => .ge
  | .ge => .lt
  | .gt => .le
  | .le => .gt
def sx_swp (c : ClassFile.Cond) : ClassFile.Cond := match c with
  | .eq => .eq
  | .ne => .ne
  | .lt => .gt
  | .ge => .le
  | .gt => .lt
  | .le => .ge
def sx_rfn (c : ClassFile.Cond) (lo hi z : Int) : Int × Int := match c with
  | .eq => (z, z)
  | .ne => (cond (sx_eq lo z) (lo + 1) lo, cond (sx_eq hi z) (hi - 1) hi)
  | .lt => (lo, cond (sx_le z hi) (z - 1) hi)
  | .ge => (cond (sx_le lo z) z lo, hi)
  | .gt => (cond (sx_le lo z) (z + 1) lo, hi)
  | .le => (lo, cond (sx_le z hi) z hi)
/-- x is held against z, which is known -/
def sx_rf1 (c : ClassFile.Cond) (Y : sx_Y) (x : sx_I) (lo hi c' d : Int) : sx_Y := match x with
  | .inl _ => Y
  | .inr i => cond (sx_eq c' d) (Y.set i (sx_rfn c lo hi c')) Y
def sx_br1 (c : ClassFile.Cond) (Y : sx_Y) (x y : sx_I) (a b c' d : Int) (k : sx_Y → Bool) : Bool := cond (sx_may c a b c' d) (k (match x with
  | .inl _ => sx_rf1 (sx_swp c) Y y c' d a b
  | .inr _ => sx_rf1 c Y x a b c' d)) true
def sx_br (c : ClassFile.Cond) (Y : sx_Y) (x y : sx_I) (k k' : sx_Y → Bool) : Bool := sx_iv Y x fun a b => sx_iv Y y fun c' d => sx_br1 c Y x y a b c' d k && sx_br1 (sx_neg c) Y x y a b c' d k'
/-! places and stack -/
def sx_nt {β : Type} : List (Option β) → Nat → Option β
  | [], _ => none
  | x :: _, 0 => x
  | _ :: t, n + 1 => sx_nt t n
def sx_kl (L : sx_L) (i : Nat) : sx_L := match i with
  | 0 => L
  | j + 1 => match sx_nt L j with
    | some (.inr (.inl _)) => L.set j none
    | _ => L
def sx_s1 (L : sx_L) (i : Nat) (v : sx_V) : sx_L := (sx_kl L i).set i (some v)
def sx_s2 (L : sx_L) (i : Nat) (v : sx_V) : sx_L := ((sx_kl L i).set i (some v)).set (i + 1) none
def sx_cat : List sx_V → Nat
  | [] => 0
  | .inr (.inl _) :: t => 2 + sx_cat t
  | _ :: t => 1 + sx_cat t
def sx_ldi (L : sx_L) (i : Nat) (k : sx_I → Bool) : Bool := match sx_nt L i with
  | some (.inl z) => k z
  | _ => false
def sx_ldl (L : sx_L) (i : Nat) (k : Int64 → Bool) : Bool := match sx_nt L i with
  | some (.inr (.inl z)) => k z
  | _ => false
def sx_lda (L : sx_L) (i : Nat) (k : Option Nat → Bool) : Bool := match sx_nt L i with
  | some (.inr (.inr z)) => k z
  | _ => false
def sx_i1 (st : List sx_V) (k : sx_I → List sx_V → Bool) : Bool := match st with
  | .inl x :: t => k x t
  | _ => false
def sx_l1 (st : List sx_V) (k : Int64 → List sx_V → Bool) : Bool := match st with
  | .inr (.inl x) :: t => k x t
  | _ => false
def sx_r1 (st : List sx_V) (k : Option Nat → List sx_V → Bool) : Bool := match st with
  | .inr (.inr x) :: t => k x t
  | _ => false
def sx_a1 (st : List sx_V) (k : Nat → List sx_V → Bool) : Bool := match st with
  | .inr (.inr (some x)) :: t => k x t
  | _ => false
def sx_c1 (st : List sx_V) (k : sx_V → List sx_V → Bool) : Bool := match st with
  | .inl x :: t => k (.inl x) t
  | .inr (.inr x) :: t => k (.inr (.inr x)) t
  | _ => false
def sx_pop : Nat → List sx_V → List sx_V → (List sx_V → List sx_V → Bool) → Bool
  | 0, acc, st, k => k acc st
  | _ + 1, _, [], _ => false
  | n + 1, acc, v :: st, k => sx_pop n (v :: acc) st k
/-! arithmetic -/
def sx_op2 (Y : sx_Y) (st : List sx_V) (f : Int → Int → Int → Int → Option (Int × Int)) (k : sx_I → sx_Y → List sx_V → Bool) : Bool := sx_i1 st fun y st => sx_i1 st fun x st => sx_iv Y x fun a b => sx_iv Y y fun c d => match f a b c d with
  | some q => sx_ar Y q.1 q.2 fun x Y => k x Y st
  | none => sx_ff Y fun x Y => k x Y st
def sx_fadd (a b c d : Int) : Option (Int × Int) := some (a + c, b + d)
def sx_fsub (a b c d : Int) : Option (Int × Int) := some (a - d, b - c)
def sx_fmul (a b c d : Int) : Option (Int × Int) := cond (sx_eq a b && sx_eq c d) (some (a * c, a * c)) (cond (sx_eq c d && sx_le (.ofNat 0) c) (some (a * c, b * c)) (cond (sx_eq a b && sx_le (.ofNat 0) a) (some (a * c, a * d)) none))
def sx_bit (Y : sx_Y) (st : List sx_V) (an : Bool) (g : Int32 → Int32 → Int32) (k : sx_I → sx_Y → List sx_V → Bool) : Bool := sx_i1 st fun y st => sx_i1 st fun x st => sx_iv Y x fun a b => sx_iv Y y fun c d => cond (sx_eq c d) (cond (sx_eq a b) (sx_fi (g (Int32.ofInt a) (Int32.ofInt c)).toInt fun z => k (.inl z) Y st) (cond (an && (sx_le (.ofNat 0) c && sx_le c (.ofNat 2147483647))) (sx_fr Y (.ofNat 0) c fun x Y => k x Y st) (sx_ff Y fun x Y => k x Y st))) (sx_ff Y fun x Y => k x Y st)
def sx_un (Y : sx_Y) (st : List sx_V) (g : Int32 → Int32) (k : sx_I → sx_Y → List sx_V → Bool) : Bool := sx_i1 st fun x st => sx_iv Y x fun a b => cond (sx_eq a b) (sx_fi (g (Int32.ofInt a)).toInt fun z => k (.inl z) Y st) (sx_ff Y fun x Y => k x Y st)
/-! cells -/
noncomputable def sx_cl (h : sx_H) (i : Nat) (k : Nat → Nat → Lean.RArray sx_I → Lean.RArray Int64 → Lean.RArray (Option Nat) → Bool) : Bool := match sx_g h.2 i with
  | (t, n, a, b, c) => k t n a b c
noncomputable def sx_pt (h : sx_H) (i : Nat) (c : sx_c) (k : sx_H → Bool) : Bool := sx_sk 12 h.2 i c fun u => k (h.1, u)
noncomputable def sx_p0 (h : sx_H) (i j : Nat) (x : sx_I) (k : sx_H → Bool) : Bool := cond (Nat.blt j 4096) (sx_cl h i fun t n a b c => sx_sk 12 a j x fun a => sx_pt h i (t, n, a, b, c) k) false
noncomputable def sx_p1 (h : sx_H) (i j : Nat) (x : Int64) (k : sx_H → Bool) : Bool := cond (Nat.blt j 4096) (sx_cl h i fun t n a b c => sx_sk 12 b j x fun b => sx_pt h i (t, n, a, b, c) k) false
noncomputable def sx_p2 (h : sx_H) (i j : Nat) (x : Option Nat) (k : sx_H → Bool) : Bool := cond (Nat.blt j 4096) (sx_cl h i fun t n a b c => sx_sk 12 c j x fun c => sx_pt h i (t, n, a, b, c) k) false
def sx_nc (t n : Nat) : sx_c := (t, n, .leaf (.inl (.ofNat 0)), .leaf 0, .leaf none)
noncomputable def sx_nw (h : sx_H) (t n : Nat) (k : Nat → sx_H → Bool) : Bool := cond (Nat.blt h.1 4096) (sx_sk 12 h.2 h.1 (sx_nc t n) fun u => k h.1 (Nat.succ h.1, u)) false
/-- a boolean's bounds -/
def sx_tf (Y : sx_Y) (x : sx_I) : Bool := sx_iv Y x fun a b => sx_le (.ofNat 0) a && sx_le b (.ofNat 1)
def sx_isb (ty : FieldType) : Bool := match ty with
  | .boolean => true
  | _ => false
noncomputable def sx_get (ci fk : Nat) (st : List sx_V) (h : sx_H) (k : List sx_V → Bool) : Bool := cond (Nat.blt fk 4096) (sx_a1 st fun i st => sx_cl h i fun t _ a b c => cond (Nat.beq (Nat.mod t 1000) (ci + 1)) (match mj_so ci fk with
  | 0 => k (.inl (sx_g a fk) :: st)
  | 1 => k (.inr (.inl (sx_g b fk)) :: st)
  | _ => k (.inr (.inr (sx_g c fk)) :: st)) false) false
noncomputable def sx_wr (h : sx_H) (i s : Nat) (k : Bool) : Bool := sx_cl h i fun t _ _ _ _ => cond (Nat.beq (Nat.mod t 1000) s && Nat.blt t 900000) k false
noncomputable def sx_put (ci fk : Nat) (Y : sx_Y) (st : List sx_V) (h : sx_H) (k : List sx_V → sx_H → Bool) : Bool := match mj_so ci fk with
  | 0 => sx_i1 st fun z st => sx_a1 st fun i st => sx_wr h i (ci + 1) ((!sx_isb (mj_ty ci fk) || sx_tf Y z) && sx_p0 h i fk z fun h => k st h)
  | 1 => sx_l1 st fun z st => sx_a1 st fun i st => sx_wr h i (ci + 1) (sx_p1 h i fk z fun h => k st h)
  | _ => sx_r1 st fun z st => sx_a1 st fun i st => sx_wr h i (ci + 1) (sx_p2 h i fk z fun h => k st h)
/-- a place of an array: the array, its tag's rest, the index -/
noncomputable def sx_ix (Y : sx_Y) (st : List sx_V) (h : sx_H) (k : Nat → Nat → Nat → sx_c → sx_Y → List sx_V → Bool) : Bool := sx_i1 st fun x st => sx_a1 st fun i st => sx_cl h i fun t n a b c => sx_sp Y x fun z Y => cond (sx_le (.ofNat 0) z && (Nat.blt z.toNat n && Nat.blt z.toNat 4096)) (k i t z.toNat (t, n, a, b, c) Y st) false
/-! calls -/
def sx_wd : List sx_V → Nat
  | [] => 0
  | .inr (.inl _) :: t => 2 + sx_wd t
  | _ :: t => 1 + sx_wd t
def sx_en : List sx_V → Nat → sx_L
  | [], n => List.replicate n none
  | .inr (.inl w) :: t, n => some (.inr (.inl w)) :: none :: sx_en t (n - 2)
  | .inl z :: t, n => some (.inl z) :: sx_en t (n - 1)
  | .inr (.inr r) :: t, n => some (.inr (.inr r)) :: sx_en t (n - 1)
def sx_full (y : Nat) : List mj_E := cond (Nat.blt y 900) (mj_tab y).2.2.2.2.1 mj_law
noncomputable def sx_call (K : sx_K) (y d : Nat) (rest : List mj_E) (L : sx_L) (st : List sx_V) (cb sb : Nat) (fs : List sx_F) (h : sx_H) (Y : sx_Y) (f : Nat) (av : List sx_V) : Bool := match d with
  | 0 => false
  | d + 1 => cond (Nat.ble (sx_cat st) 8 && (Nat.ble (mj_tab f).2.2.2.2.2.2.1 cb && (Nat.ble (mj_tab f).2.2.2.2.2.2.2 sb && (Nat.ble (sx_wd av) (mj_tab f).2.2.1 && Nat.blt f 900)))) (K f d (mj_tab f).2.2.2.2.1 (sx_en av (mj_tab f).2.2.1) [] (mj_tab f).2.2.2.2.2.2.1 (mj_tab f).2.2.2.2.2.2.2 ((y, d + 1, rest, L, st, cb - (mj_tab f).2.2.2.2.2.2.1, sb - (mj_tab f).2.2.2.2.2.2.2) :: fs) h Y) false
def sx_back (K : sx_K) (fs : List sx_F) (h : sx_H) (Y : sx_Y) (r : Option sx_V) : Bool := match fs with
  | [] => match r with
    | some (.inl x) => sx_kn Y x fun z => sx_eq z (.ofNat 1)
    | _ => false
  | (y, d, rest, L, st, cb, sb) :: fs => match r with
    | none => K y d rest L st cb sb fs h Y
    | some v => K y d rest L (v :: st) cb sb fs h Y
def sx_swt (Y : sx_Y) (lo hi : Int) (k : Nat → sx_Y → Bool) (x : sx_I) : Int → List Nat → Bool
  | _, [] => true
  | v, t :: ts => cond (sx_le lo v && sx_le v hi) (k t (match x with
    | .inl _ => Y
    | .inr i => Y.set i (v, v))) true && sx_swt Y lo hi k x (v + 1) ts
noncomputable def sx_cpa {β : Type} : Nat → Lean.RArray β → Nat → Lean.RArray β → Nat → (Lean.RArray β → Bool) → Bool
  | 0, _, _, b, _, k => k b
  | n + 1, a, sp, b, dp, k => sx_sk 12 b (dp + n) (sx_g a (sp + n)) fun b => sx_cpa n a sp b dp k
/-- the rows of new int[n][m] -/
noncomputable def sx_rws (t m : Nat) : Nat → sx_H → (sx_H → Bool) → Bool
  | 0, h, k => k h
  | n + 1, h, k => sx_nw h t m fun _ h => sx_rws t m n h k
noncomputable def sx_rfs (b : Nat) : Nat → Lean.RArray (Option Nat) → (Lean.RArray (Option Nat) → Bool) → Bool
  | 0, u, k => k u
  | n + 1, u, k => sx_sk 12 u n (some (b + n)) fun u => sx_rfs b n u k
noncomputable def sx_lib (f : Nat) (Y : sx_Y) (st : List sx_V) (h : sx_H) (k : List sx_V → sx_H → Bool) : Bool := match f with
  | 0 => sx_i1 st fun y st => sx_i1 st fun x st => cond (Nat.ble (sx_cat st) 8) (sx_kn Y x fun x => sx_kn Y y fun y => k (.inl (.inl (cond (sx_le y x) x y)) :: st) h) false
  | 1 => sx_i1 st fun y st => sx_i1 st fun x st => cond (Nat.ble (sx_cat st) 8) (sx_kn Y x fun x => sx_kn Y y fun y => k (.inl (.inl (cond (sx_le x y) x y)) :: st) h) false
  | 3 => sx_i1 st fun n st => sx_i1 st fun dp st => sx_a1 st fun b st => sx_i1 st fun sp st => sx_a1 st fun a st => sx_kn Y n fun n => sx_kn Y dp fun dp => sx_kn Y sp fun sp => sx_cl h a fun ta na ia _ _ => sx_cl h b fun tb nb ib lb rb => cond (Nat.beq (Nat.mod ta 1000) 100 && (Nat.beq (Nat.mod tb 1000) 100 && (Nat.blt tb 900000 && (sx_le (.ofNat 0) sp && (sx_le (.ofNat 0) dp && (sx_le (.ofNat 0) n && (Nat.ble (sp.toNat + n.toNat) na && (Nat.ble (dp.toNat + n.toNat) nb && (Nat.ble na 4096 && (Nat.ble nb 4096 && Nat.ble (sx_cat st) 8)))))))))) (sx_cpa n.toNat ia sp.toNat ib dp.toNat fun ib => sx_pt h b (tb, nb, ib, lb, rb) fun h => k st h) false
  | 4 => sx_i1 st fun n st => sx_i1 st fun dp st => sx_a1 st fun b st => sx_i1 st fun sp st => sx_a1 st fun a st => sx_kn Y n fun n => sx_kn Y dp fun dp => sx_kn Y sp fun sp => sx_cl h a fun ta na _ ia _ => sx_cl h b fun tb nb lb ib rb => cond (Nat.beq (Nat.mod ta 1000) 103 && (Nat.beq (Nat.mod tb 1000) 103 && (Nat.blt tb 900000 && (sx_le (.ofNat 0) sp && (sx_le (.ofNat 0) dp && (sx_le (.ofNat 0) n && (Nat.ble (sp.toNat + n.toNat) na && (Nat.ble (dp.toNat + n.toNat) nb && (Nat.ble na 4096 && (Nat.ble nb 4096 && Nat.ble (sx_cat st) 8)))))))))) (sx_cpa n.toNat ia sp.toNat ib dp.toNat fun ib => sx_pt h b (tb, nb, lb, ib, rb) fun h => k st h) false
  | _ => false
/-- told of a fresh object: it throws, and the law's told answers 1 -/
noncomputable def sx_told (K : sx_K) (y d : Nat) (rest : List mj_E) (L : sx_L) (st : List sx_V) (cb sb : Nat) (fs : List sx_F) (h : sx_H) (Y : sx_Y) : Bool := sx_r1 st fun _ st => sx_i1 st fun _ st => sx_i1 st fun _ st => sx_a1 st fun x st => sx_cl h x fun t1 _ _ _ c1 => match sx_g c1 1 with
  | none => false
  | some b => sx_cl h b fun t2 _ _ _ c2 => match sx_g c2 0 with
    | none => false
    | some c => sx_cl h c fun t3 _ a3 _ _ => sx_kn Y (sx_g a3 4) fun z => cond (Nat.beq (Nat.mod t1 1000) 11 && (Nat.beq (Nat.mod t2 1000) 7 && (Nat.beq (Nat.mod t3 1000) 4 && (sx_eq z (.ofNat 0) && (Nat.ble (sx_cat st) 8 && (Nat.ble 4 cb && Nat.ble 64 sb)))))) (K y d rest L (.inl (.inl (.ofNat 1)) :: st) (cb - 4) (sb - 64) fs h Y) false
noncomputable def sx_tl (K : sx_K) (y d : Nat) (rest : List mj_E) (L : sx_L) (st : List sx_V) (cb sb : Nat) (fs : List sx_F) (h : sx_H) (Y : sx_Y) : Bool := match fs with
  | [] => sx_told K y d rest L st cb sb [] h Y
  | _ => false
/-- the law reads its script: signs 0 to 5 are its ints, sign 6 its length, cell 0 itself -/
def sx_scl (y d : Nat) (rest : List mj_E) (L : sx_L) (st : List sx_V) (cb sb : Nat) (fs : List sx_F) (h : sx_H) (Y : sx_Y) (K : sx_K) : Bool := fs.isEmpty && sx_i1 st fun x st => sx_a1 st fun i st => sx_kn Y x fun z => sx_iv Y (.inr 6) fun lo _ => cond (Nat.beq i 0 && (sx_le (.ofNat 0) z && (!sx_le lo z && Nat.blt z.toNat 6))) (K y d rest L (.inl (.inr z.toNat) :: st) cb sb fs h Y) false
def sx_sln (y d : Nat) (rest : List mj_E) (L : sx_L) (st : List sx_V) (cb sb : Nat) (fs : List sx_F) (h : sx_H) (Y : sx_Y) (K : sx_K) : Bool := fs.isEmpty && sx_a1 st fun i st => cond (Nat.beq i 0) (K y d rest L (.inl (.inr 6) :: st) cb sb fs h Y) false
/-- the law's sort of call: sign 7 is the script's first int, its six lowest bits -/
def sx_opc (y d : Nat) (rest : List mj_E) (L : sx_L) (st : List sx_V) (cb sb : Nat) (fs : List sx_F) (h : sx_H) (Y : sx_Y) (K : sx_K) : Bool := fs.isEmpty && sx_i1 st fun v st => sx_i1 st fun x st => match x with
  | .inr 0 => sx_kn Y v fun z => cond (sx_eq z (.ofNat 63)) (K y d rest L (.inl (.inr 7) :: st) cb sb fs h Y) false
  | _ => false
/-- one instruction -/
noncomputable def sx_st (K : sx_K) : sx_K := fun y d rest L st cb sb fs h Y => match rest with
  | [] => false
  | x :: rest => match x.1 with
    | .iload_n i => sx_ldi L i.val fun v => K y d rest L (.inl v :: st) cb sb fs h Y
    | .iload i => sx_ldi L i fun v => K y d rest L (.inl v :: st) cb sb fs h Y
    | .lload_n i => sx_ldl L i.val fun v => K y d rest L (.inr (.inl v) :: st) cb sb fs h Y
    | .lload i => sx_ldl L i fun v => K y d rest L (.inr (.inl v) :: st) cb sb fs h Y
    | .aload_n i => sx_lda L i.val fun v => K y d rest L (.inr (.inr v) :: st) cb sb fs h Y
    | .aload i => sx_lda L i fun v => K y d rest L (.inr (.inr v) :: st) cb sb fs h Y
    | .istore_n i => sx_i1 st fun z st => K y d rest (sx_s1 L i.val (.inl z)) st cb sb fs h Y
    | .istore i => sx_i1 st fun z st => K y d rest (sx_s1 L i (.inl z)) st cb sb fs h Y
    | .astore_n i => sx_r1 st fun z st => K y d rest (sx_s1 L i.val (.inr (.inr z))) st cb sb fs h Y
    | .astore i => sx_r1 st fun z st => K y d rest (sx_s1 L i (.inr (.inr z))) st cb sb fs h Y
    | .iinc i c => sx_ldi L i fun v => sx_iv Y v fun lo hi => sx_ai Y (lo + c) (hi + c) (fun v Y => K y d rest (sx_s1 L i (.inl v)) st cb sb fs h Y) false
    | .iconst z => K y d rest L (.inl (.inl z) :: st) cb sb fs h Y
    | .bipush z => K y d rest L (.inl (.inl z) :: st) cb sb fs h Y
    | .sipush z => K y d rest L (.inl (.inl z) :: st) cb sb fs h Y
    | .ldc _ => K y d rest L (.inl (.inl x.2.2.2) :: st) cb sb fs h Y
    | .ldc2_w _ => K y d rest L (.inr (.inl (Int64.ofInt x.2.2.2)) :: st) cb sb fs h Y
    | .lconst z => K y d rest L (.inr (.inl (Int64.ofNat z.val)) :: st) cb sb fs h Y
    | .aconst_null => K y d rest L (.inr (.inr none) :: st) cb sb fs h Y
    | .iadd => sx_op2 Y st sx_fadd fun v Y st => K y d rest L (.inl v :: st) cb sb fs h Y
    | .isub => sx_op2 Y st sx_fsub fun v Y st => K y d rest L (.inl v :: st) cb sb fs h Y
    | .imul => sx_op2 Y st sx_fmul fun v Y st => K y d rest L (.inl v :: st) cb sb fs h Y
    | .iand => cond (Nat.beq y 900) (sx_opc y d rest L st cb sb fs h Y K) (sx_bit Y st true (fun x y => x &&& y) fun v Y st => K y d rest L (.inl v :: st) cb sb fs h Y)
    | .ior => sx_bit Y st false (fun x y => x ||| y) fun v Y st => K y d rest L (.inl v :: st) cb sb fs h Y
    | .ishl => sx_bit Y st false (fun x y => x <<< (y &&& 31)) fun v Y st => K y d rest L (.inl v :: st) cb sb fs h Y
    | .ishr => sx_bit Y st false (fun x y => x >>> (y &&& 31)) fun v Y st => K y d rest L (.inl v :: st) cb sb fs h Y
    | .iushr => sx_bit Y st false (fun x y => (x.toUInt32 >>> (y.toUInt32 &&& Int32.toUInt32 31)).toInt32) fun v Y st => K y d rest L (.inl v :: st) cb sb fs h Y
    | .ineg => sx_un Y st (fun x => -x) fun v Y st => K y d rest L (.inl v :: st) cb sb fs h Y
    | .i2b => sx_un Y st (fun x => x.toInt8.toInt32) fun v Y st => K y d rest L (.inl v :: st) cb sb fs h Y
    | .dup => sx_c1 st fun v st => K y d rest L (v :: v :: st) cb sb fs h Y
    | .dup2 => sx_c1 st fun v st => sx_c1 st fun w st => K y d rest L (v :: w :: v :: w :: st) cb sb fs h Y
    | .pop => sx_c1 st fun _ st => K y d rest L st cb sb fs h Y
    | .ifCond c _ => sx_i1 st fun z st => sx_br c Y z (.inl (.ofNat 0)) (fun Y => K y d ((sx_full y).drop (mj_hd x.2.2.1)) L st cb sb fs h Y) (fun Y => K y d rest L st cb sb fs h Y)
    | .if_icmp c _ => sx_i1 st fun v st => sx_i1 st fun z st => sx_br c Y z v (fun Y => K y d ((sx_full y).drop (mj_hd x.2.2.1)) L st cb sb fs h Y) (fun Y => K y d rest L st cb sb fs h Y)
    | .ifnull _ => sx_r1 st fun z st => match z with
      | none => K y d ((sx_full y).drop (mj_hd x.2.2.1)) L st cb sb fs h Y
      | some _ => K y d rest L st cb sb fs h Y
    | .ifnonnull _ => sx_r1 st fun z st => match z with
      | some _ => K y d ((sx_full y).drop (mj_hd x.2.2.1)) L st cb sb fs h Y
      | none => K y d rest L st cb sb fs h Y
    | .goto _ => K y d ((sx_full y).drop (mj_hd x.2.2.1)) L st cb sb fs h Y
    | .getfield _ => !x.2.2.1.isEmpty && sx_get (mj_hd x.2.2.1) (mj_h1 x.2.2.1) st h fun st => K y d rest L st cb sb fs h Y
    | .putfield _ => !x.2.2.1.isEmpty && sx_put (mj_hd x.2.2.1) (mj_h1 x.2.2.1) Y st h fun st h => K y d rest L st cb sb fs h Y
    | .iaload => cond (Nat.beq y 900) (sx_scl y d rest L st cb sb fs h Y K) (sx_ix Y st h fun _ t k c Y st => cond (Nat.beq (Nat.mod t 1000) 100) (K y d rest L (.inl (sx_g c.2.2.1 k) :: st) cb sb fs h Y) false)
    | .baload => sx_ix Y st h fun _ t k c Y st => cond (Nat.beq (Nat.mod t 1000) 101 || Nat.beq (Nat.mod t 1000) 102) (K y d rest L (.inl (sx_g c.2.2.1 k) :: st) cb sb fs h Y) false
    | .laload => sx_ix Y st h fun _ t k c Y st => cond (Nat.beq (Nat.mod t 1000) 103) (K y d rest L (.inr (.inl (sx_g c.2.2.2.1 k)) :: st) cb sb fs h Y) false
    | .aaload => sx_ix Y st h fun _ t k c Y st => cond (Nat.beq (Nat.mod t 1000) (100 + mj_hd x.2.2.1)) (K y d rest L (.inr (.inr (sx_g c.2.2.2.2 k)) :: st) cb sb fs h Y) false
    | .iastore => sx_i1 st fun z st => sx_ix Y st h fun i t k _ Y st => cond (Nat.beq (Nat.mod t 1000) 100 && Nat.blt t 900000) (sx_p0 h i k z fun h => K y d rest L st cb sb fs h Y) false
    | .bastore => sx_i1 st fun z st => sx_ix Y st h fun i t k _ Y st => cond (Nat.blt t 900000) (cond (Nat.beq (Nat.mod t 1000) 101) (sx_iv Y z fun a b => cond (sx_eq a b) (sx_fi (mj_nb a) fun z => sx_p0 h i k (.inl z) fun h => K y d rest L st cb sb fs h Y) (sx_ff Y fun z Y => sx_p0 h i k z fun h => K y d rest L st cb sb fs h Y)) (cond (Nat.beq (Nat.mod t 1000) 102 && sx_tf Y z) (sx_p0 h i k z fun h => K y d rest L st cb sb fs h Y) false)) false
    | .lastore => sx_l1 st fun z st => sx_ix Y st h fun i t k _ Y st => cond (Nat.beq (Nat.mod t 1000) 103 && Nat.blt t 900000) (sx_p1 h i k z fun h => K y d rest L st cb sb fs h Y) false
    | .aastore => sx_r1 st fun z st => sx_ix Y st h fun i t k _ Y st => cond (Nat.beq (Nat.mod t 1000) (100 + mj_hd x.2.2.1) && Nat.blt t 900000) (match z with
      | none => sx_p2 h i k none fun h => K y d rest L st cb sb fs h Y
      | some b => sx_cl h b fun tb _ _ _ _ => cond (Nat.beq (mj_hd x.2.2.1) 6 && Nat.beq (Nat.mod tb 1000) 7) (sx_p2 h i k (some b) fun h => K y d rest L st cb sb fs h Y) false) false
    | .tableswitch _ lo hi _ => sx_i1 st fun z st => sx_iv Y z fun a b => (cond (sx_le lo a) true (K y d ((sx_full y).drop (mj_hd x.2.2.1)) L st cb sb fs h (sx_rf1 .lt Y z a b lo lo)) && cond (sx_le b hi) true (K y d ((sx_full y).drop (mj_hd x.2.2.1)) L st cb sb fs h (sx_rf1 .gt Y z a b hi hi))) && sx_swt Y a b (fun t Y => K y d ((sx_full y).drop t) L st cb sb fs h Y) z lo (x.2.2.1.drop 1)
    | .arraylength => cond (Nat.beq y 900) (sx_sln y d rest L st cb sb fs h Y K) (sx_a1 st fun i st => sx_cl h i fun t n _ _ _ => cond (Nat.ble 100 (Nat.mod t 1000) && (Nat.blt (Nat.mod t 1000) 107 && Nat.ble n 4096)) (K y d rest L (.inl (.inl (.ofNat n)) :: st) cb sb fs h Y) false)
    | .newarray _ => sx_i1 st fun z st => sx_kn Y z fun z => cond (sx_le (.ofNat 0) z && (Nat.ble z.toNat 4096 && (Nat.ble 1 cb && (Nat.ble z.toNat sb && Nat.blt (mj_hd x.2.2.1) 4)))) (sx_nw h (1100 + mj_hd x.2.2.1) z.toNat fun i h => K y d rest L (.inr (.inr (some i)) :: st) (cb - 1) (sb - z.toNat) fs h Y) false
    | .anewarray _ => sx_i1 st fun z st => sx_kn Y z fun z => cond (sx_le (.ofNat 0) z && (Nat.ble z.toNat 4096 && (Nat.ble 1 cb && (Nat.ble z.toNat sb && Nat.blt (mj_hd x.2.2.1) 7)))) (sx_nw h (1100 + mj_hd x.2.2.1) z.toNat fun i h => K y d rest L (.inr (.inr (some i)) :: st) (cb - 1) (sb - z.toNat) fs h Y) false
    | .multianewarray _ _ => sx_i1 st fun z st => sx_i1 st fun v st => sx_kn Y z fun z => sx_kn Y v fun v => cond (sx_le (.ofNat 0) z && (sx_le (.ofNat 0) v && (Nat.ble z.toNat 1000 && (Nat.ble v.toNat 1000 && (Nat.ble (1 + v.toNat) cb && Nat.ble (v.toNat + v.toNat * z.toNat) sb))))) (sx_nw h 1104 v.toNat fun i h => sx_rws 1100 z.toNat v.toNat h fun h => sx_cl h i fun t n a b c => sx_rfs (i + 1) v.toNat c fun c => sx_pt h i (t, n, a, b, c) fun h => K y d rest L (.inr (.inr (some i)) :: st) (cb - (1 + v.toNat)) (sb - (v.toNat + v.toNat * z.toNat)) fs h Y) false
    | .new _ => cond (!x.2.2.1.isEmpty && (Nat.ble 1 cb && (Nat.ble (mj_h1 x.2.2.1) sb && Nat.blt (mj_hd x.2.2.1) 90))) (sx_nw h (1001 + mj_hd x.2.2.1) 0 fun i h => K y d rest L (.inr (.inr (some i)) :: st) (cb - 1) (sb - mj_h1 x.2.2.1) fs h Y) false
    | .invokevirtual _ => !x.2.2.1.isEmpty && sx_pop (mj_h1 x.2.2.1) [] st fun As st => sx_a1 st fun a st => sx_cl h a fun t _ _ _ _ => cond (Nat.beq (Nat.mod t 1000) (mj_h2 x.2.2.1 + 1)) (sx_call K y d rest L st cb sb fs h Y (mj_hd x.2.2.1) (.inr (.inr (some a)) :: As)) false
    | .invokestatic _ => match x.2.2.1 with
      | [] => cond (Nat.beq y 900) (sx_tl K y d rest L st cb sb fs h Y) false
      | [f, _] => sx_lib f Y st h fun st h => K y d rest L st cb sb fs h Y
      | _ => sx_pop (mj_h1 x.2.2.1) [] st fun As st => sx_call K y d rest L st cb sb fs h Y (mj_hd x.2.2.1) As
    | .invokespecial _ => match x.2.2.1 with
      | [] => sx_a1 st fun _ st => cond (Nat.ble (sx_cat st) 8) (K y d rest L st cb sb fs h Y) false
      | f :: _ => sx_pop (mj_h1 x.2.2.1) [] st fun As st => sx_a1 st fun a st => sx_cl h a fun t _ _ _ _ => cond (Nat.beq (Nat.mod t 1000) (mj_h2 x.2.2.1 + 1)) (sx_call K y d rest L st cb sb fs h Y f (.inr (.inr (some a)) :: As)) false
    | .ireturn => sx_i1 st fun z st => st.isEmpty && ((cond (sx_eq x.2.2.2 (.ofNat 1)) (sx_tf Y z) true) && sx_back K fs h Y (some (.inl z)))
    | .return_ => st.isEmpty && sx_back K fs h Y none
    | _ => false
noncomputable def sx_ex (n : Nat) : sx_K := Nat.rec (motive := fun _ => sx_K) (fun _ _ _ _ _ _ _ _ _ _ => false) (fun _ ih => sx_st ih) n
noncomputable def sx_exT (n : Nat) : sx_K := Nat.rec (motive := fun _ => sx_K) (fun _ _ _ _ _ _ _ _ _ _ => true) (fun _ ih => sx_st ih) n
end
section
/-! ===== what the symbolic run says, the small machine does ===== -/
abbrev sx_w : Type := Nat × (Nat → Int) × Nat × (Nat → Nat)
def sx_up (w w' : sx_w) : Prop := w.1 ≤ w'.1 ∧ (∀ i, i < w.1 → w'.2.1 i = w.2.1 i) ∧ w.2.2.1 ≤ w'.2.2.1 ∧ ∀ i, i < w.2.2.1 → w'.2.2.2 i = w.2.2.2 i
theorem sx_up.rf {w : sx_w} : sx_up w w := ⟨Nat.le_refl _, fun _ _ => rfl, Nat.le_refl _, fun _ _ => rfl⟩
def sx_e (w w' : sx_w) : Prop := sx_up w w' ∧ w'.2.2.1 = w.2.2.1
theorem sx_e.rf {w : sx_w} : sx_e w w := ⟨sx_up.rf, rfl⟩
def sx_RI (w : sx_w) (x : sx_I) (z : Int) : Prop := match x with
  | .inl y => y = z
  | .inr i => i < w.1 ∧ w.2.1 i = z
def sx_RO (w : sx_w) (x r : Option Nat) : Prop := match x with
  | none => r = none
  | some i => i < w.2.2.1 ∧ r = some (w.2.2.2 i)
def sx_RV (w : sx_w) (x : sx_V) (v : mj_V) : Prop := match x with
  | .inl x => ∃ z, v = .inl z ∧ sx_RI w x z
  | .inr (.inl x) => v = .inr (.inl x)
  | .inr (.inr x) => ∃ r, v = .inr (.inr r) ∧ sx_RO w x r
def sx_RS (w : sx_w) : List sx_V → List mj_V → Prop
  | [], t => t = []
  | x :: s, t => ∃ v t', t = v :: t' ∧ sx_RV w x v ∧ sx_RS w s t'
def sx_RL (w : sx_w) : sx_L → mj_L → Prop
  | [], L => L = []
  | none :: s, L => ∃ v L', L = v :: L' ∧ sx_RL w s L'
  | some x :: s, L => ∃ v L', L = some v :: L' ∧ sx_RV w x v ∧ sx_RL w s L'
def sx_RY (w : sx_w) (Y : sx_Y) : Prop := w.1 = Y.length ∧ ∀ i q, sx_ny Y i = some q → q.1 ≤ w.2.1 i ∧ w.2.1 i ≤ q.2
abbrev sx_ms : Nat → Nat × Nat := fun y => (mj_tab y).2.2.2.2.2.2
/-- the law's told on a fresh object -/
def sx_td (Z : mj_S) : Prop := ∀ (k pc : Nat) (im : Int) (rest : List mj_E) (L : mj_L) (st : List mj_V) (G : mj_G) (M : mj_M) (cb sb : Nat) (o : Option Nat) (p1 p0 : Int) (a b c t1 t2 t3 n1 n2 n3 : Nat), G a = (t1, n1) → t1 % 1000 = 11 → M.2.2 a 1 = some b → G b = (t2, n2) → t2 % 1000 = 7 → M.2.2 b 0 = some c → G c = (t3, n3) → t3 % 1000 = 4 → M.1 c 4 = 0 → mj_cat st ≤ 8 → 4 ≤ cb → 64 ≤ sb → Z rest L (.inl 1 :: st) G M (cb - 4) (sb - 64) → Z ((.invokestatic k, pc, [], im) :: rest) L (.inr (.inr o) :: .inl p1 :: .inl p0 :: .inr (.inr (some a)) :: st) G M cb sb
/-- the script: where it lies, its ints; at 6 its length -/
abbrev sx_q : Type := Nat × (Nat → Int)
def sx_tz (q : sx_q) (Z : mj_S) : Prop := sx_td Z ∧ (∀ (pc : Nat) (aux : List Nat) (im : Int) (rest : List mj_E) (L : mj_L) (st : List mj_V) (G : mj_G) (M : mj_M) (cb sb : Nat) (z : Int), 0 ≤ z → z < q.2 6 → Z rest L (.inl (q.2 z.toNat) :: st) G M cb sb → Z ((.iaload, pc, aux, im) :: rest) L (.inl z :: .inr (.inr (some q.1)) :: st) G M cb sb) ∧ ∀ (pc : Nat) (aux : List Nat) (im : Int) (rest : List mj_E) (L : mj_L) (st : List mj_V) (G : mj_G) (M : mj_M) (cb sb : Nat), Z rest L (.inl (q.2 6) :: st) G M cb sb → Z ((.arraylength, pc, aux, im) :: rest) L (.inr (.inr (some q.1)) :: st) G M cb sb
def sx_sc (q : sx_q) (w : sx_w) : Prop := 0 < w.2.2.1 ∧ w.2.2.2 0 = q.1 ∧ 8 ≤ w.1 ∧ (∀ k, k < 8 → w.2.1 k = q.2 k) ∧ q.2 7 = (Int32.ofInt (q.2 0) &&& Int32.ofInt 63).toInt
theorem sx_sc.up {q : sx_q} {w w' : sx_w} (u : sx_up w w') (h : sx_sc q w) : sx_sc q w' := ⟨Nat.lt_of_lt_of_le h.1 u.2.2.1, (u.2.2.2 0 h.1).trans h.2.1, Nat.le_trans h.2.2.1 u.1, fun k hk => (u.2.1 k (Nat.lt_of_lt_of_le hk h.2.2.1)).trans (h.2.2.2.1 k hk), h.2.2.2.2⟩
def sx_cz (q : sx_q) (fs : List sx_F) (y d : Nat) (Q : mj_P) (Z : mj_S) : Prop := (∀ rest L st G M cb sb, mj_x sx_ms (mj_R mj_tab d) (sx_full y) Q Z 1 rest L st G M cb sb → Z rest L st G M cb sb) ∧ (fs = [] → y = 900 → sx_tz q Z)
def sx_RF (q : sx_q) (w : sx_w) : List sx_F → mj_P → Prop
  | [], Q => (∀ G M, Q (some (.inl 1)) G M) ∧ sx_sc q w
  | (y, d, rest, L, st, cb, sb) :: fs, Q => ∃ (L' : mj_L) (st' : List mj_V) (Q' : mj_P) (Z : mj_S), sx_cz q fs y d Q' Z ∧ sx_RL w L L' ∧ sx_RS w st st' ∧ sx_RF q w fs Q' ∧ ∀ r G M, Z rest L' (mj_ret r st') G M cb sb → Q r G M
def sx_RC (w : sx_w) (G : mj_G) (M : mj_M) (i : Nat) (c : sx_c) : Prop := G (w.2.2.2 i) = (c.1, c.2.1) ∧ c.1 ≠ 0 ∧ ∀ k, k < 4096 → sx_RI w (sx_g c.2.2.1 k) (M.1 (w.2.2.2 i) k) ∧ M.2.1 (w.2.2.2 i) k = sx_g c.2.2.2.1 k ∧ sx_RO w (sx_g c.2.2.2.2 k) (M.2.2 (w.2.2.2 i) k)
def sx_RH (w : sx_w) (h : sx_H) (G : mj_G) (M : mj_M) : Prop := h.1 = w.2.2.1 ∧ h.1 ≤ 4096 ∧ (∀ i, i < h.1 → sx_RC w G M i (sx_g h.2 i)) ∧ ∀ i j, i < h.1 → j < h.1 → w.2.2.2 i = w.2.2.2 j → i = j
theorem sx_RI.up {w w' : sx_w} {x : sx_I} {z : Int} (u : sx_up w w') (h : sx_RI w x z) : sx_RI w' x z := by
  cases x with
  | inl y => exact h
  | inr i => exact ⟨Nat.lt_of_lt_of_le h.1 u.1, (u.2.1 i h.1).trans h.2⟩
theorem sx_RO.up {w w' : sx_w} {x r : Option Nat} (u : sx_up w w') (h : sx_RO w x r) : sx_RO w' x r := by
  cases x with
  | none => exact h
  | some i => exact ⟨Nat.lt_of_lt_of_le h.1 u.2.2.1, by rw [u.2.2.2 i h.1]; exact h.2⟩
theorem sx_RV.up {w w' : sx_w} {x : sx_V} {v : mj_V} (u : sx_up w w') (h : sx_RV w x v) : sx_RV w' x v := by
  rcases x with x | x | x
  · obtain ⟨z, h1, h2⟩ := h; exact ⟨z, h1, h2.up u⟩
  · exact h
  · obtain ⟨z, h1, h2⟩ := h; exact ⟨z, h1, h2.up u⟩
theorem sx_RS.up {w w' : sx_w} (u : sx_up w w') : ∀ {s : List sx_V} {t : List mj_V}, sx_RS w s t → sx_RS w' s t
  | [], _, h => h
  | _ :: _, _, h => by
    obtain ⟨v, t', h1, h2, h3⟩ := h
    exact ⟨v, t', h1, h2.up u, h3.up u⟩
theorem sx_RL.up {w w' : sx_w} (u : sx_up w w') : ∀ {s : sx_L} {t : mj_L}, sx_RL w s t → sx_RL w' s t
  | [], _, h => h
  | none :: _, _, h => by
    obtain ⟨v, t', h1, h3⟩ := h
    exact ⟨v, t', h1, h3.up u⟩
  | some _ :: _, _, h => by
    obtain ⟨v, t', h1, h2, h3⟩ := h
    exact ⟨v, t', h1, h2.up u, h3.up u⟩
theorem sx_RF.up {q : sx_q} {w w' : sx_w} (u : sx_up w w') : ∀ {fs : List sx_F} {Q : mj_P}, sx_RF q w fs Q → sx_RF q w' fs Q
  | [], _, h => ⟨h.1, h.2.up u⟩
  | (_, _, _, _, _, _, _) :: _, _, h => by
    obtain ⟨L', st', Q', Z, h1, h2, h3, h4, h5⟩ := h
    exact ⟨L', st', Q', Z, h1, h2.up u, h3.up u, h4.up u, h5⟩
theorem sx_RH.up {w w' : sx_w} {h : sx_H} {G : mj_G} {M : mj_M} (u : sx_e w w') (hh : sx_RH w h G M) : sx_RH w' h G M := by
  obtain ⟨h1, h2, h3, h4⟩ := hh
  have e : ∀ i, i < h.1 → w'.2.2.2 i = w.2.2.2 i := fun i hi => u.1.2.2.2 i (by omega)
  refine ⟨by rw [u.2]; exact h1, h2, fun i hi => ?_, fun i j hi hj q => h4 i j hi hj (by rw [← e i hi, ← e j hj]; exact q)⟩
  obtain ⟨c1, c2, c3⟩ := h3 i hi
  unfold sx_RC
  rw [e i hi]
  exact ⟨c1, c2, fun k hk => ⟨(c3 k hk).1.up u.1, (c3 k hk).2.1, (c3 k hk).2.2.up u.1⟩⟩
/-! numbers -/
theorem sx_le_iff {x y : Int} : sx_le x y = true ↔ x ≤ y := by
  cases x <;> cases y <;> simp only [sx_le]
  · rw [Nat.ble_eq]; simp only [Int.ofNat_eq_natCast]; omega
  · simp only [Int.ofNat_eq_natCast, Int.negSucc_eq, Bool.false_eq_true, false_iff]; omega
  · simp only [Int.ofNat_eq_natCast, Int.negSucc_eq, true_iff]; omega
  · rw [Nat.ble_eq]; simp only [Int.negSucc_eq]; omega
theorem sx_le_no {x y : Int} (h : sx_le x y ≠ true) : y < x := by
  have := mt sx_le_iff.mpr h; omega
theorem sx_eq_iff {x y : Int} : sx_eq x y = true ↔ x = y := by
  unfold sx_eq; rw [Bool.and_eq_true, sx_le_iff, sx_le_iff]; omega
theorem sx_in_of {lo hi z : Int} (h : sx_in lo hi = true) (h1 : lo ≤ z) (h2 : z ≤ hi) : mj_in z := by
  unfold sx_in at h
  rw [Bool.and_eq_true, sx_le_iff, sx_le_iff] at h
  obtain ⟨a, b⟩ := h
  have a' : (-2147483648 : Int) ≤ lo := a
  have b' : hi ≤ (2147483647 : Int) := b
  exact ⟨by omega, by omega⟩
theorem sx_fn_eq (n : Nat) (k : Nat → Bool) : sx_fn n k = k n := by cases n <;> rfl
theorem sx_fi_eq (z : Int) (k : Int → Bool) : sx_fi z k = k z := by cases z <;> simp only [sx_fi, sx_fn_eq]
theorem sx_cd {b x : Bool} (h : cond b x false = true) : b = true ∧ x = true := by cases b <;> simp_all
theorem sx_ct {b x : Bool} (h : cond b x true = true) (hb : b = true) : x = true := by subst hb; exact h
theorem sx_cf {b x : Bool} (h : cond b true x = true) (hb : b ≠ true) : x = true := by cases b <;> simp_all
theorem sx_nd {a b : Bool} (h : (a && b) = true) : a = true ∧ b = true := by rw [Bool.and_eq_true] at h; exact h
theorem sx_beq {a b : Nat} (h : Nat.beq a b = true) : a = b := Nat.eq_of_beq_eq_true h
theorem sx_blt {a b : Nat} (h : Nat.blt a b = true) : a < b := Nat.le_of_ble_eq_true h
theorem sx_ble {a b : Nat} (h : Nat.ble a b = true) : a ≤ b := Nat.le_of_ble_eq_true h
theorem sx_iv_s {Y : sx_Y} {x : sx_I} {k : Int → Int → Bool} {w : sx_w} {z : Int} (h : sx_iv Y x k = true) (hY : sx_RY w Y) (hx : sx_RI w x z) : ∃ lo hi, k lo hi = true ∧ lo ≤ z ∧ z ≤ hi := by
  cases x with
  | inl y => exact ⟨y, y, h, by rw [show y = z from hx]; exact Int.le_refl _, by rw [show y = z from hx]; exact Int.le_refl _⟩
  | inr i =>
    unfold sx_iv at h
    dsimp only at h
    cases hq : sx_ny Y i with
    | none => rw [hq] at h; cases h
    | some q =>
      rw [hq] at h
      have hb := hY.2 i q hq
      rw [hx.2] at hb
      exact ⟨q.1, q.2, h, hb⟩
theorem sx_kn_s {Y : sx_Y} {x : sx_I} {k : Int → Bool} {w : sx_w} {z : Int} (h : sx_kn Y x k = true) (hY : sx_RY w Y) (hx : sx_RI w x z) : k z = true := by
  obtain ⟨lo, hi, h1, h2, h3⟩ := sx_iv_s h hY hx
  obtain ⟨h4, h5⟩ := sx_cd h1
  have := sx_eq_iff.mp h4
  rw [show z = lo by omega]; exact h5
theorem sx_ny_app : ∀ (Y : sx_Y) (q : Int × Int) (i : Nat) (r : Int × Int), sx_ny (Y ++ [q]) i = some r → (i = Y.length ∧ r = q) ∨ sx_ny Y i = some r
  | [], q, 0, r, h => Or.inl ⟨rfl, (Option.some.inj h).symm⟩
  | [], q, i + 1, r, h => by cases h
  | x :: t, q, 0, r, h => Or.inr h
  | x :: t, q, i + 1, r, h => by
    rcases sx_ny_app t q i r h with ⟨h1, h2⟩ | h1
    · exact Or.inl ⟨by rw [h1]; rfl, h2⟩
    · exact Or.inr h1
theorem sx_ny_set : ∀ (Y : sx_Y) (j : Nat) (q : Int × Int) (i : Nat) (r : Int × Int), sx_ny (Y.set j q) i = some r → (i = j ∧ r = q) ∨ sx_ny Y i = some r
  | [], _, _, _, _, h => by cases h
  | x :: t, 0, q, 0, r, h => Or.inl ⟨rfl, (Option.some.inj h).symm⟩
  | x :: t, 0, q, i + 1, r, h => Or.inr h
  | x :: t, j + 1, q, 0, r, h => Or.inr h
  | x :: t, j + 1, q, i + 1, r, h => by
    rcases sx_ny_set t j q i r h with ⟨h1, h2⟩ | h1
    · exact Or.inl ⟨by rw [h1], h2⟩
    · exact Or.inr h1
theorem sx_RY.set {w : sx_w} {Y : sx_Y} (hY : sx_RY w Y) {i : Nat} {q : Int × Int} (h : q.1 ≤ w.2.1 i ∧ w.2.1 i ≤ q.2) : sx_RY w (Y.set i q) := by
  refine ⟨by rw [List.length_set]; exact hY.1, fun j r hr => ?_⟩
  rcases sx_ny_set Y i q j r hr with ⟨h1, h2⟩ | h1
  · rw [h1, h2]; exact h
  · exact hY.2 j r h1
theorem sx_fr_s {Y : sx_Y} {lo hi z : Int} {k : sx_I → sx_Y → Bool} {w : sx_w} (h : sx_fr Y lo hi k = true) (hY : sx_RY w Y) (h1 : lo ≤ z) (h2 : z ≤ hi) : ∃ w' x Y', sx_e w w' ∧ sx_RY w' Y' ∧ sx_RI w' x z ∧ k x Y' = true := by
  have hz : (if w.1 = w.1 then z else w.2.1 w.1) = z := if_pos rfl
  refine ⟨(w.1 + 1, fun i => if i = w.1 then z else w.2.1 i, w.2.2), .inr Y.length, Y ++ [(lo, hi)], ⟨⟨Nat.le_succ _, fun i hi => if_neg (Nat.ne_of_lt hi), Nat.le_refl _, fun _ _ => rfl⟩, rfl⟩, ⟨?_, fun i r hr => ?_⟩, ⟨?_, ?_⟩, h⟩
  · rw [List.length_append, ← hY.1]; rfl
  · rcases sx_ny_app Y _ i r hr with ⟨e1, e2⟩ | e1
    · rw [e1, e2, ← hY.1]
      show lo ≤ (if w.1 = w.1 then z else w.2.1 w.1) ∧ (if w.1 = w.1 then z else w.2.1 w.1) ≤ hi
      rw [hz]; exact ⟨h1, h2⟩
    · have hb := hY.2 i r e1
      by_cases hi : i = w.1
      · exfalso
        have : ∀ (Y : sx_Y) (i : Nat), Y.length ≤ i → sx_ny Y i = none := by
          intro Y
          induction Y with
          | nil => intro i _; rfl
          | cons x t ih =>
            intro i hi
            cases i with
            | zero => simp at hi
            | succ i => exact ih i (by simp at hi; omega)
        rw [this Y i (by rw [← hY.1]; omega)] at e1
        cases e1
      · show r.1 ≤ (if i = w.1 then z else w.2.1 i) ∧ (if i = w.1 then z else w.2.1 i) ≤ r.2
        rw [if_neg hi]; exact hb
  · show Y.length < w.1 + 1
    rw [hY.1]; exact Nat.lt_succ_self _
  · show (if Y.length = w.1 then z else w.2.1 Y.length) = z
    rw [if_pos hY.1.symm]
theorem sx_ff_s {Y : sx_Y} {z : Int} {k : sx_I → sx_Y → Bool} {w : sx_w} (h : sx_ff Y k = true) (hY : sx_RY w Y) (hz : mj_in z) : ∃ w' x Y', sx_e w w' ∧ sx_RY w' Y' ∧ sx_RI w' x z ∧ k x Y' = true :=
  sx_fr_s h hY hz.1 (show z ≤ (2147483647 : Int) from by have := hz.2; omega)
theorem sx_ai_s {Y : sx_Y} {lo hi z : Int} {k : sx_I → sx_Y → Bool} {no : Bool} {w : sx_w} (h : sx_ai Y lo hi k no = true) (hY : sx_RY w Y) (h1 : lo ≤ z) (h2 : z ≤ hi) : (mj_in z ∧ ∃ w' x Y', sx_e w w' ∧ sx_RY w' Y' ∧ sx_RI w' x z ∧ k x Y' = true) ∨ no = true := by
  unfold sx_ai at h
  rw [sx_fi_eq, sx_fi_eq] at h
  cases hin : sx_in lo hi with
  | false => rw [hin] at h; exact Or.inr h
  | true =>
    rw [hin] at h
    refine Or.inl ⟨sx_in_of hin h1 h2, ?_⟩
    cases he : sx_eq lo hi with
    | false => rw [he] at h; exact sx_fr_s h hY h1 h2
    | true =>
      rw [he] at h
      have := sx_eq_iff.mp he
      exact ⟨w, .inl lo, Y, sx_e.rf, hY, (by show lo = z; omega), h⟩
theorem sx_all_s {k : Int → Bool} {z : Int} : ∀ (n : Nat) (lo : Int), sx_all n lo k = true → lo ≤ z → z < lo + n → k z = true
  | 0, lo, _, h1, h2 => by omega
  | n + 1, lo, h, h1, h2 => by
    unfold sx_all at h
    rw [Bool.and_eq_true, sx_fi_eq] at h
    by_cases e : z = lo
    · rw [e]; exact h.1
    · exact sx_all_s n (lo + 1) h.2 (by omega) (by omega)
theorem sx_sp_s {Y : sx_Y} {x : sx_I} {k : Int → sx_Y → Bool} {w : sx_w} {z : Int} (h : sx_sp Y x k = true) (hY : sx_RY w Y) (hx : sx_RI w x z) : ∃ Y', sx_RY w Y' ∧ k z Y' = true := by
  cases x with
  | inl y => exact ⟨Y, hY, by rw [← (show y = z from hx)]; exact h⟩
  | inr i =>
    unfold sx_sp at h
    dsimp only at h
    cases hq : sx_ny Y i with
    | none => rw [hq] at h; cases h
    | some q =>
      rw [hq] at h
      have hb := hY.2 i q hq
      rw [hx.2] at hb
      obtain ⟨-, h2⟩ := sx_cd h
      exact ⟨Y.set i (z, z), hY.set ⟨by rw [hx.2]; exact Int.le_refl _, by rw [hx.2]; exact Int.le_refl _⟩, sx_all_s _ _ h2 hb.1 (by omega)⟩
/-! comparisons -/
theorem sx_may_s {c : ClassFile.Cond} {x y a b c' d : Int} (h : mj_cc c x y) (h1 : a ≤ x) (h2 : x ≤ b) (h3 : c' ≤ y) (h4 : y ≤ d) : sx_may c a b c' d = true := by
  cases c <;> simp only [mj_cc] at h <;> simp only [sx_may]
  · rw [Bool.and_eq_true, sx_le_iff, sx_le_iff]; omega
  · rw [Bool.not_eq_true', Bool.eq_false_iff]
    intro q
    rw [Bool.and_eq_true, Bool.and_eq_true, sx_eq_iff, sx_eq_iff, sx_eq_iff] at q
    omega
  · rw [Bool.not_eq_true', Bool.eq_false_iff]
    intro q; rw [sx_le_iff] at q; omega
  · rw [sx_le_iff]; omega
  · rw [Bool.not_eq_true', Bool.eq_false_iff]
    intro q; rw [sx_le_iff] at q; omega
  · rw [sx_le_iff]; omega
theorem sx_neg_s {c : ClassFile.Cond} {x y : Int} (h : ¬ mj_cc c x y) : mj_cc (sx_neg c) x y := by
  cases c <;> simp only [mj_cc, sx_neg] at h ⊢ <;> omega
theorem sx_swp_s {c : ClassFile.Cond} {x y : Int} (h : mj_cc c x y) : mj_cc (sx_swp c) y x := by
  cases c <;> simp only [mj_cc, sx_swp] at h ⊢ <;> omega
theorem sx_rfn_s {c : ClassFile.Cond} {lo hi z q : Int} (h : mj_cc c z q) (h1 : lo ≤ z) (h2 : z ≤ hi) : (sx_rfn c lo hi q).1 ≤ z ∧ z ≤ (sx_rfn c lo hi q).2 := by
  cases c <;> simp only [mj_cc] at h <;> simp only [sx_rfn]
  · omega
  · constructor
    · cases e : sx_eq lo q with
      | true => have := sx_eq_iff.mp e; simp only [cond_true]; omega
      | false => simp only [cond_false]; omega
    · cases e : sx_eq hi q with
      | true => have := sx_eq_iff.mp e; simp only [cond_true]; omega
      | false => simp only [cond_false]; omega
  · constructor
    · omega
    · cases e : sx_le q hi with
      | true => simp only [cond_true]; omega
      | false => simp only [cond_false]; omega
  · constructor
    · cases e : sx_le lo q with
      | true => simp only [cond_true]; omega
      | false => simp only [cond_false]; omega
    · omega
  · constructor
    · cases e : sx_le lo q with
      | true => simp only [cond_true]; omega
      | false => simp only [cond_false]; omega
    · omega
  · constructor
    · omega
    · cases e : sx_le q hi with
      | true => simp only [cond_true]; omega
      | false => simp only [cond_false]; omega
theorem sx_rf1_s {c : ClassFile.Cond} {Y : sx_Y} {x : sx_I} {lo hi c' d z q : Int} {w : sx_w} (hY : sx_RY w Y) (hx : sx_RI w x z) (h : mj_cc c z q) (h1 : lo ≤ z) (h2 : z ≤ hi) (h3 : c' ≤ q) (h4 : q ≤ d) : sx_RY w (sx_rf1 c Y x lo hi c' d) := by
  cases x with
  | inl y => exact hY
  | inr i =>
    unfold sx_rf1
    cases e : sx_eq c' d with
    | false => exact hY
    | true =>
      have := sx_eq_iff.mp e
      refine hY.set ?_
      rw [hx.2, show c' = q by omega]
      exact sx_rfn_s h h1 h2
theorem sx_br1_s {c : ClassFile.Cond} {Y : sx_Y} {x y : sx_I} {a b c' d zx zy : Int} {k : sx_Y → Bool} {w : sx_w} (h : sx_br1 c Y x y a b c' d k = true) (hY : sx_RY w Y) (hx : sx_RI w x zx) (hy : sx_RI w y zy) (hc : mj_cc c zx zy) (h1 : a ≤ zx) (h2 : zx ≤ b) (h3 : c' ≤ zy) (h4 : zy ≤ d) : ∃ Y', sx_RY w Y' ∧ k Y' = true := by
  have hk := sx_ct h (sx_may_s hc h1 h2 h3 h4)
  cases x with
  | inl u => exact ⟨_, sx_rf1_s hY hy (sx_swp_s hc) h3 h4 h1 h2, hk⟩
  | inr i => exact ⟨_, sx_rf1_s hY hx hc h1 h2 h3 h4, hk⟩
theorem sx_br_s {c : ClassFile.Cond} {Y : sx_Y} {x y : sx_I} {zx zy : Int} {k k' : sx_Y → Bool} {w : sx_w} {A B : Prop} (h : sx_br c Y x y k k' = true) (hY : sx_RY w Y) (hx : sx_RI w x zx) (hy : sx_RI w y zy) (kk : ∀ Y', sx_RY w Y' → k Y' = true → A) (kk' : ∀ Y', sx_RY w Y' → k' Y' = true → B) : mj_br (mj_cc c zx zy) A B := by
  obtain ⟨a, b, h, h1, h2⟩ := sx_iv_s h hY hx
  obtain ⟨c', d, h, h3, h4⟩ := sx_iv_s h hY hy
  obtain ⟨ha, hb⟩ := sx_nd h
  refine ⟨fun q => ?_, fun q => ?_⟩
  · obtain ⟨Y', u1, u2⟩ := sx_br1_s ha hY hx hy q h1 h2 h3 h4
    exact kk Y' u1 u2
  · obtain ⟨Y', u1, u2⟩ := sx_br1_s hb hY hx hy (sx_neg_s q) h1 h2 h3 h4
    exact kk' Y' u1 u2
end
section
/-! ===== places, stack, cells of the symbolic run ===== -/
theorem sx_nt_s {w : sx_w} : ∀ {L : sx_L} {L' : mj_L} {i : Nat} {x : sx_V}, sx_RL w L L' → sx_nt L i = some x → ∃ v, mj_nt L' i = some v ∧ sx_RV w x v
  | [], _, _, _, _, h => by cases h
  | none :: _, _, 0, _, _, h => by cases h
  | none :: t, _, i + 1, x, hL, h => by
    obtain ⟨v, L', rfl, h3⟩ := hL
    exact sx_nt_s (L := t) (i := i) h3 h
  | some y :: t, _, 0, x, hL, h => by
    obtain ⟨v, L', rfl, h2, h3⟩ := hL
    have e : y = x := Option.some.inj h
    exact ⟨v, rfl, e ▸ h2⟩
  | some y :: t, _, i + 1, x, hL, h => by
    obtain ⟨v, L', rfl, h2, h3⟩ := hL
    exact sx_nt_s (L := t) (i := i) h3 h
theorem sx_set_s {w : sx_w} {x : sx_V} {v : mj_V} (hx : sx_RV w x v) : ∀ {L : sx_L} {L' : mj_L} {i : Nat}, sx_RL w L L' → sx_RL w (L.set i (some x)) (L'.set i (some v))
  | [], _, _, h => by rw [show _ = ([] : mj_L) from h]; rfl
  | none :: t, _, 0, h => by
    obtain ⟨u, L', rfl, h3⟩ := h
    exact ⟨v, L', rfl, hx, h3⟩
  | some y :: t, _, 0, h => by
    obtain ⟨u, L', rfl, h2, h3⟩ := h
    exact ⟨v, L', rfl, hx, h3⟩
  | none :: t, _, i + 1, h => by
    obtain ⟨u, L', rfl, h3⟩ := h
    exact ⟨u, _, rfl, sx_set_s hx h3⟩
  | some y :: t, _, i + 1, h => by
    obtain ⟨u, L', rfl, h2, h3⟩ := h
    exact ⟨u, _, rfl, h2, sx_set_s hx h3⟩
theorem sx_non_s {w : sx_w} {o : Option mj_V} : ∀ {L : sx_L} {L' : mj_L} {i : Nat}, sx_RL w L L' → sx_RL w (L.set i none) (L'.set i o)
  | [], _, _, h => by rw [show _ = ([] : mj_L) from h]; rfl
  | none :: t, _, 0, h => by
    obtain ⟨u, L', rfl, h3⟩ := h
    exact ⟨_, L', rfl, h3⟩
  | some y :: t, _, 0, h => by
    obtain ⟨u, L', rfl, h2, h3⟩ := h
    exact ⟨_, L', rfl, h3⟩
  | none :: t, _, i + 1, h => by
    obtain ⟨u, L', rfl, h3⟩ := h
    exact ⟨u, _, rfl, sx_non_s h3⟩
  | some y :: t, _, i + 1, h => by
    obtain ⟨u, L', rfl, h2, h3⟩ := h
    exact ⟨u, _, rfl, h2, sx_non_s h3⟩
/-- only the concrete place is spoilt: the symbolic one said nothing -/
theorem sx_spl_s {w : sx_w} : ∀ {L : sx_L} {L' : mj_L} {i : Nat}, sx_RL w L L' → sx_nt L i = none → sx_RL w L (L'.set i none)
  | [], _, _, h, _ => by rw [show _ = ([] : mj_L) from h]; rfl
  | none :: t, _, 0, h, _ => by
    obtain ⟨u, L', rfl, h3⟩ := h
    exact ⟨_, L', rfl, h3⟩
  | some y :: t, _, 0, h, hn => by cases hn
  | none :: t, _, i + 1, h, hn => by
    obtain ⟨u, L', rfl, h3⟩ := h
    exact ⟨u, _, rfl, sx_spl_s h3 hn⟩
  | some y :: t, _, i + 1, h, hn => by
    obtain ⟨u, L', rfl, h2, h3⟩ := h
    exact ⟨u, _, rfl, h2, sx_spl_s h3 hn⟩
theorem sx_kl_s {w : sx_w} {L : sx_L} {L' : mj_L} {i : Nat} (h : sx_RL w L L') : sx_RL w (sx_kl L i) (mj_kl L' i) := by
  cases i with
  | zero => exact h
  | succ j =>
    unfold sx_kl mj_kl
    dsimp only
    cases hx : sx_nt L j with
    | none =>
      dsimp only
      split
      · exact sx_spl_s h hx
      · exact h
    | some x =>
      obtain ⟨v, hv, hr⟩ := sx_nt_s h hx
      rw [hv]
      rcases x with x | x | x
      · obtain ⟨z, rfl, -⟩ := hr
        exact h
      · obtain rfl : v = _ := hr
        exact sx_non_s h
      · obtain ⟨z, rfl, -⟩ := hr
        exact h
theorem sx_s1_s {w : sx_w} {L : sx_L} {L' : mj_L} {i : Nat} {x : sx_V} {v : mj_V} (h : sx_RL w L L') (hx : sx_RV w x v) : sx_RL w (sx_s1 L i x) (mj_s1 L' i v) := sx_set_s hx (sx_kl_s h)
theorem sx_ldi_s {w : sx_w} {L : sx_L} {L' : mj_L} {i : Nat} {k : sx_I → Bool} (h : sx_ldi L i k = true) (hL : sx_RL w L L') : ∃ x z, mj_nt L' i = some (.inl z) ∧ sx_RI w x z ∧ k x = true := by
  unfold sx_ldi at h
  split at h
  · rename_i x hx
    obtain ⟨v, hv, z, rfl, hz⟩ := sx_nt_s hL hx
    exact ⟨x, z, hv, hz, h⟩
  · cases h
theorem sx_ldl_s {w : sx_w} {L : sx_L} {L' : mj_L} {i : Nat} {k : Int64 → Bool} (h : sx_ldl L i k = true) (hL : sx_RL w L L') : ∃ x, mj_nt L' i = some (.inr (.inl x)) ∧ k x = true := by
  unfold sx_ldl at h
  split at h
  · rename_i x hx
    obtain ⟨v, hv, hr⟩ := sx_nt_s hL hx
    obtain rfl : v = _ := hr
    exact ⟨x, hv, h⟩
  · cases h
theorem sx_lda_s {w : sx_w} {L : sx_L} {L' : mj_L} {i : Nat} {k : Option Nat → Bool} (h : sx_lda L i k = true) (hL : sx_RL w L L') : ∃ x r, mj_nt L' i = some (.inr (.inr r)) ∧ sx_RO w x r ∧ k x = true := by
  unfold sx_lda at h
  split at h
  · rename_i x hx
    obtain ⟨v, hv, r, rfl, hr⟩ := sx_nt_s hL hx
    exact ⟨x, r, hv, hr, h⟩
  · cases h
section SXS
variable {w : sx_w} {st : List sx_V} {st' : List mj_V}
theorem sx_i1_s {k : sx_I → List sx_V → Bool} (h : sx_i1 st k = true) (hS : sx_RS w st st') : ∃ x t z t', st' = .inl z :: t' ∧ sx_RI w x z ∧ sx_RS w t t' ∧ k x t = true := by
  unfold sx_i1 at h
  split at h
  · obtain ⟨v, t', rfl, ⟨z, rfl, hz⟩, hS⟩ := hS
    exact ⟨_, _, z, t', rfl, hz, hS, h⟩
  · cases h
theorem sx_l1_s {k : Int64 → List sx_V → Bool} (h : sx_l1 st k = true) (hS : sx_RS w st st') : ∃ x t t', st' = .inr (.inl x) :: t' ∧ sx_RS w t t' ∧ k x t = true := by
  unfold sx_l1 at h
  split at h
  · obtain ⟨v, t', rfl, hv, hS⟩ := hS
    obtain rfl : v = _ := hv
    exact ⟨_, _, t', rfl, hS, h⟩
  · cases h
theorem sx_r1_s {k : Option Nat → List sx_V → Bool} (h : sx_r1 st k = true) (hS : sx_RS w st st') : ∃ x t r t', st' = .inr (.inr r) :: t' ∧ sx_RO w x r ∧ sx_RS w t t' ∧ k x t = true := by
  unfold sx_r1 at h
  split at h
  · obtain ⟨v, t', rfl, ⟨r, rfl, hr⟩, hS⟩ := hS
    exact ⟨_, _, r, t', rfl, hr, hS, h⟩
  · cases h
theorem sx_a1_s {k : Nat → List sx_V → Bool} (h : sx_a1 st k = true) (hS : sx_RS w st st') : ∃ i t t', st' = .inr (.inr (some (w.2.2.2 i))) :: t' ∧ i < w.2.2.1 ∧ sx_RS w t t' ∧ k i t = true := by
  unfold sx_a1 at h
  split at h
  · obtain ⟨v, t', rfl, ⟨r, rfl, hr⟩, hS⟩ := hS
    obtain ⟨h1, rfl⟩ := hr
    exact ⟨_, _, t', rfl, h1, hS, h⟩
  · cases h
theorem sx_c1_s {k : sx_V → List sx_V → Bool} (h : sx_c1 st k = true) (hS : sx_RS w st st') : ∃ x t v t', st' = v :: t' ∧ sx_RV w x v ∧ (∀ u, v ≠ .inr (.inl u)) ∧ sx_RS w t t' ∧ k x t = true := by
  unfold sx_c1 at h
  split at h
  · obtain ⟨v, t', rfl, hv, hS⟩ := hS
    refine ⟨_, _, v, t', rfl, hv, ?_, hS, h⟩
    obtain ⟨z, rfl, -⟩ := hv
    intro u q; cases q
  · obtain ⟨v, t', rfl, hv, hS⟩ := hS
    refine ⟨_, _, v, t', rfl, hv, ?_, hS, h⟩
    obtain ⟨z, rfl, -⟩ := hv
    intro u q; cases q
  · cases h
theorem sx_c1_i {v : mj_V} {t : List mj_V} {k : mj_V → List mj_V → Prop} (hv : ∀ u, v ≠ .inr (.inl u)) (h : k v t) : mj_c1 (v :: t) k := by
  rcases v with z | z | z
  · exact h
  · exact absurd rfl (hv z)
  · exact h
theorem sx_pop_s {k : List sx_V → List sx_V → Bool} {k' : List mj_V → List mj_V → Prop} : ∀ (n : Nat) {acc : List sx_V} {acc' : List mj_V} {st : List sx_V} {st' : List mj_V}, sx_pop n acc st k = true → sx_RS w acc acc' → sx_RS w st st' → (∀ A t A' t', sx_RS w A A' → sx_RS w t t' → k A t = true → k' A' t') → mj_pop n acc' st' k'
  | 0, _, _, _, _, h, hA, hS, kk => kk _ _ _ _ hA hS h
  | n + 1, _, _, [], _, h, _, _, _ => by cases h
  | n + 1, _, _, v :: t, _, h, hA, hS, kk => by
    obtain ⟨u, t', rfl, hv, hS⟩ := hS
    exact sx_pop_s n (st := t) h ⟨u, _, rfl, hv, hA⟩ hS kk
theorem sx_cat_s : ∀ {st : List sx_V} {st' : List mj_V}, sx_RS w st st' → sx_cat st = mj_cat st'
  | [], _, h => by rw [show _ = ([] : List mj_V) from h]; rfl
  | x :: t, _, h => by
    obtain ⟨v, t', rfl, hv, hS⟩ := h
    have ih := sx_cat_s hS
    rcases x with x | x | x
    · obtain ⟨z, rfl, -⟩ := hv; simp only [sx_cat, mj_cat, ih]
    · obtain rfl : v = _ := hv; simp only [sx_cat, mj_cat, ih]
    · obtain ⟨z, rfl, -⟩ := hv; simp only [sx_cat, mj_cat, ih]
theorem sx_wd_s : ∀ {st : List sx_V} {st' : List mj_V}, sx_RS w st st' → sx_wd st = mj_wd st'
  | [], _, h => by rw [show _ = ([] : List mj_V) from h]; rfl
  | x :: t, _, h => by
    obtain ⟨v, t', rfl, hv, hS⟩ := h
    have ih := sx_wd_s hS
    rcases x with x | x | x
    · obtain ⟨z, rfl, -⟩ := hv; simp only [sx_wd, mj_wd, ih]
    · obtain rfl : v = _ := hv; simp only [sx_wd, mj_wd, ih]
    · obtain ⟨z, rfl, -⟩ := hv; simp only [sx_wd, mj_wd, ih]
theorem sx_rep_s : ∀ n, sx_RL w (List.replicate n none) (List.replicate n none)
  | 0 => rfl
  | n + 1 => ⟨none, List.replicate n none, rfl, sx_rep_s n⟩
theorem sx_en_s : ∀ {st : List sx_V} {st' : List mj_V} (n : Nat), sx_RS w st st' → sx_RL w (sx_en st n) (mj_en st' n)
  | [], _, n, h => by rw [show _ = ([] : List mj_V) from h]; exact sx_rep_s n
  | x :: t, _, n, h => by
    obtain ⟨v, t', rfl, hv, hS⟩ := h
    rcases x with x | x | x
    · obtain ⟨z, rfl, hz⟩ := hv; exact ⟨_, _, rfl, ⟨z, rfl, hz⟩, sx_en_s (n - 1) hS⟩
    · obtain rfl : v = _ := hv; exact ⟨_, _, rfl, rfl, none, _, rfl, sx_en_s (n - 2) hS⟩
    · obtain ⟨z, rfl, hz⟩ := hv; exact ⟨_, _, rfl, ⟨z, rfl, hz⟩, sx_en_s (n - 1) hS⟩
end SXS
/-! trees -/
theorem sx_g_leaf {β : Type} (a : β) (k : Nat) : sx_g (.leaf a) k = a := rfl
theorem sx_g_br {β : Type} (p : Nat) (l r : Lean.RArray β) (k : Nat) : sx_g (.branch p l r) k = cond (Nat.beq (k % 2) 0) (sx_g l (k / 2)) (sx_g r (k / 2)) := rfl
theorem sx_sk_eq {β : Type} : ∀ (d : Nat) (t : Lean.RArray β) (k : Nat) (v : β) (K : Lean.RArray β → Bool), sx_sk d t k v K = K (sx_s d t k v)
  | 0, t, k, v, K => by cases t <;> rfl
  | d + 1, .leaf a, k, v, K => by
    show cond (Nat.beq (k % 2) 0) (sx_sk d (.leaf a) (k / 2) v fun l => K (.branch 0 l (.leaf a))) (sx_sk d (.leaf a) (k / 2) v fun r => K (.branch 0 (.leaf a) r)) = K (cond (Nat.beq (k % 2) 0) (.branch 0 (sx_s d (.leaf a) (k / 2) v) (.leaf a)) (.branch 0 (.leaf a) (sx_s d (.leaf a) (k / 2) v)))
    rw [sx_sk_eq d, sx_sk_eq d]
    cases Nat.beq (k % 2) 0 <;> rfl
  | d + 1, .branch p l r, k, v, K => by
    show cond (Nat.beq (k % 2) 0) (sx_sk d l (k / 2) v fun l' => K (.branch p l' r)) (sx_sk d r (k / 2) v fun r' => K (.branch p l r')) = K (cond (Nat.beq (k % 2) 0) (.branch p (sx_s d l (k / 2) v) r) (.branch p l (sx_s d r (k / 2) v)))
    rw [sx_sk_eq d, sx_sk_eq d]
    cases Nat.beq (k % 2) 0 <;> rfl
theorem sx_bq {a b : Nat} : Nat.beq a b = decide (a = b) := by
  by_cases h : a = b
  · subst h; simp
  · rw [decide_eq_false h]
    cases e : Nat.beq a b with
    | false => rfl
    | true => exact absurd (Nat.eq_of_beq_eq_true e) h
theorem sx_gs {β : Type} : ∀ (d : Nat) (t : Lean.RArray β) (k j : Nat) (v : β), k < 2 ^ d → j < 2 ^ d → sx_g (sx_s d t k v) j = if j = k then v else sx_g t j
  | 0, t, k, j, v, hk, hj => by
    have e : sx_s 0 t k v = .leaf v := by cases t <;> rfl
    rw [e, sx_g_leaf, if_pos (by omega)]
  | d + 1, .leaf a, k, j, v, hk, hj => by
    have ih := sx_gs d (.leaf a) (k / 2) (j / 2) v (by omega) (by omega)
    show sx_g (cond (Nat.beq (k % 2) 0) (.branch 0 (sx_s d (.leaf a) (k / 2) v) (.leaf a)) (.branch 0 (.leaf a) (sx_s d (.leaf a) (k / 2) v))) j = _
    rw [sx_bq]
    by_cases hk2 : k % 2 = 0
    · rw [decide_eq_true hk2, cond_true, sx_g_br, sx_bq]
      by_cases hj2 : j % 2 = 0
      · rw [decide_eq_true hj2, cond_true, ih]
        by_cases e : j = k
        · rw [if_pos e, if_pos (by omega)]
        · rw [if_neg e, if_neg (by omega)]; rfl
      · rw [decide_eq_false hj2, cond_false, if_neg (by omega)]; rfl
    · rw [decide_eq_false hk2, cond_false, sx_g_br, sx_bq]
      by_cases hj2 : j % 2 = 0
      · rw [decide_eq_true hj2, cond_true, if_neg (by omega)]; rfl
      · rw [decide_eq_false hj2, cond_false, ih]
        by_cases e : j = k
        · rw [if_pos e, if_pos (by omega)]
        · rw [if_neg e, if_neg (by omega)]; rfl
  | d + 1, .branch p l r, k, j, v, hk, hj => by
    have il := sx_gs d l (k / 2) (j / 2) v (by omega) (by omega)
    have ir := sx_gs d r (k / 2) (j / 2) v (by omega) (by omega)
    show sx_g (cond (Nat.beq (k % 2) 0) (.branch p (sx_s d l (k / 2) v) r) (.branch p l (sx_s d r (k / 2) v))) j = _
    rw [sx_bq]
    by_cases hk2 : k % 2 = 0
    · rw [decide_eq_true hk2, cond_true, sx_g_br, sx_g_br, sx_bq]
      by_cases hj2 : j % 2 = 0
      · rw [decide_eq_true hj2, cond_true, cond_true, il]
        by_cases e : j = k
        · rw [if_pos e, if_pos (by omega)]
        · rw [if_neg e, if_neg (by omega)]
      · rw [decide_eq_false hj2, cond_false, cond_false, if_neg (by omega)]
    · rw [decide_eq_false hk2, cond_false, sx_g_br, sx_g_br, sx_bq]
      by_cases hj2 : j % 2 = 0
      · rw [decide_eq_true hj2, cond_true, cond_true, if_neg (by omega)]
      · rw [decide_eq_false hj2, cond_false, cond_false, ir]
        by_cases e : j = k
        · rw [if_pos e, if_pos (by omega)]
        · rw [if_neg e, if_neg (by omega)]
theorem sx_g12 {β : Type} (t : Lean.RArray β) {k j : Nat} (v : β) (hk : k < 4096) (hj : j < 4096) : sx_g (sx_s 12 t k v) j = if j = k then v else sx_g t j := sx_gs 12 t k j v hk hj
/-! cells -/
theorem sx_cl_eq (h : sx_H) (i : Nat) (k : Nat → Nat → Lean.RArray sx_I → Lean.RArray Int64 → Lean.RArray (Option Nat) → Bool) : sx_cl h i k = k (sx_g h.2 i).1 (sx_g h.2 i).2.1 (sx_g h.2 i).2.2.1 (sx_g h.2 i).2.2.2.1 (sx_g h.2 i).2.2.2.2 := rfl
theorem sx_pt_eq (h : sx_H) (i : Nat) (c : sx_c) (k : sx_H → Bool) : sx_pt h i c k = k (h.1, sx_s 12 h.2 i c) := by unfold sx_pt; rw [sx_sk_eq]
/-- a cell changed: the others are as they were -/
theorem sx_RH.put {w : sx_w} {h : sx_H} {G : mj_G} {M M' : mj_M} {i : Nat} {c : sx_c} (hH : sx_RH w h G M) (hi : i < w.2.2.1) (hc : sx_RC w G M' i c) (ho : ∀ x, x ≠ w.2.2.2 i → (∀ k, M'.1 x k = M.1 x k) ∧ (∀ k, M'.2.1 x k = M.2.1 x k) ∧ ∀ k, M'.2.2 x k = M.2.2 x k) : sx_RH w (h.1, sx_s 12 h.2 i c) G M' := by
  obtain ⟨h1, h2, h3, h4⟩ := hH
  refine ⟨h1, h2, fun j hj => ?_, h4⟩
  have hj' : j < h.1 := hj
  show sx_RC w G M' j (sx_g (sx_s 12 h.2 i c) j)
  rw [sx_g12 _ _ (by omega) (by omega)]
  by_cases e : j = i
  · subst e; rw [if_pos rfl]; exact hc
  · rw [if_neg e]
    obtain ⟨c1, c2, c3⟩ := h3 j hj'
    have hne : w.2.2.2 j ≠ w.2.2.2 i := fun q => e (h4 j i hj' (by omega) q)
    obtain ⟨o1, o2, o3⟩ := ho _ hne
    exact ⟨c1, c2, fun k hk => by rw [o1, o2, o3]; exact c3 k hk⟩
theorem sx_p0_s {w : sx_w} {h : sx_H} {G : mj_G} {M : mj_M} {i j : Nat} {x : sx_I} {z : Int} {k : sx_H → Bool} (hk : sx_p0 h i j x k = true) (hH : sx_RH w h G M) (hi : i < w.2.2.1) (hx : sx_RI w x z) : ∃ h', sx_RH w h' G (mj_p0 M (w.2.2.2 i) j z) ∧ k h' = true := by
  obtain ⟨hj, hk⟩ := sx_cd hk
  rw [sx_cl_eq, sx_sk_eq, sx_pt_eq] at hk
  refine ⟨_, hH.put hi ?_ (fun x hx => ⟨fun k => ?_, fun _ => rfl, fun _ => rfl⟩), hk⟩
  · obtain ⟨c1, c2, c3⟩ := hH.2.2.1 i (by rw [hH.1]; exact hi)
    refine ⟨c1, c2, fun q hq => ⟨?_, (c3 q hq).2⟩⟩
    show sx_RI w (sx_g (sx_s 12 _ j x) q) (if w.2.2.2 i = w.2.2.2 i ∧ q = j then z else M.1 (w.2.2.2 i) q)
    rw [sx_g12 _ _ (sx_blt hj) hq]
    by_cases e : q = j
    · rw [if_pos e, if_pos ⟨rfl, e⟩]; exact hx
    · rw [if_neg e, if_neg (fun u => e u.2)]; exact (c3 q hq).1
  · show (if x = w.2.2.2 i ∧ k = j then z else M.1 x k) = M.1 x k
    rw [if_neg (fun u => hx u.1)]
theorem sx_p1_s {w : sx_w} {h : sx_H} {G : mj_G} {M : mj_M} {i j : Nat} {x : Int64} {k : sx_H → Bool} (hk : sx_p1 h i j x k = true) (hH : sx_RH w h G M) (hi : i < w.2.2.1) : ∃ h', sx_RH w h' G (mj_p1 M (w.2.2.2 i) j x) ∧ k h' = true := by
  obtain ⟨hj, hk⟩ := sx_cd hk
  rw [sx_cl_eq, sx_sk_eq, sx_pt_eq] at hk
  refine ⟨_, hH.put hi ?_ (fun x' hx => ⟨fun _ => rfl, fun k => ?_, fun _ => rfl⟩), hk⟩
  · obtain ⟨c1, c2, c3⟩ := hH.2.2.1 i (by rw [hH.1]; exact hi)
    refine ⟨c1, c2, fun q hq => ⟨(c3 q hq).1, ?_, (c3 q hq).2.2⟩⟩
    show (if w.2.2.2 i = w.2.2.2 i ∧ q = j then x else M.2.1 (w.2.2.2 i) q) = sx_g (sx_s 12 _ j x) q
    rw [sx_g12 _ _ (sx_blt hj) hq]
    by_cases e : q = j
    · rw [if_pos e, if_pos ⟨rfl, e⟩]
    · rw [if_neg e, if_neg (fun u => e u.2)]; exact (c3 q hq).2.1
  · show (if x' = w.2.2.2 i ∧ k = j then x else M.2.1 x' k) = M.2.1 x' k
    rw [if_neg (fun u => hx u.1)]
theorem sx_p2_s {w : sx_w} {h : sx_H} {G : mj_G} {M : mj_M} {i j : Nat} {x r : Option Nat} {k : sx_H → Bool} (hk : sx_p2 h i j x k = true) (hH : sx_RH w h G M) (hi : i < w.2.2.1) (hx : sx_RO w x r) : ∃ h', sx_RH w h' G (mj_p2 M (w.2.2.2 i) j r) ∧ k h' = true := by
  obtain ⟨hj, hk⟩ := sx_cd hk
  rw [sx_cl_eq, sx_sk_eq, sx_pt_eq] at hk
  refine ⟨_, hH.put hi ?_ (fun x hx => ⟨fun _ => rfl, fun _ => rfl, fun k => ?_⟩), hk⟩
  · obtain ⟨c1, c2, c3⟩ := hH.2.2.1 i (by rw [hH.1]; exact hi)
    refine ⟨c1, c2, fun q hq => ⟨(c3 q hq).1, (c3 q hq).2.1, ?_⟩⟩
    show sx_RO w (sx_g (sx_s 12 _ j x) q) (if w.2.2.2 i = w.2.2.2 i ∧ q = j then r else M.2.2 (w.2.2.2 i) q)
    rw [sx_g12 _ _ (sx_blt hj) hq]
    by_cases e : q = j
    · rw [if_pos e, if_pos ⟨rfl, e⟩]; exact hx
    · rw [if_neg e, if_neg (fun u => e u.2)]; exact (c3 q hq).2.2
  · show (if x = w.2.2.2 i ∧ k = j then r else M.2.2 x k) = M.2.2 x k
    rw [if_neg (fun u => hx u.1)]
/-- n new cells behind the last -/
def sx_wn (w : sx_w) (a n : Nat) : sx_w := (w.1, w.2.1, w.2.2.1 + n, fun i => if i < w.2.2.1 then w.2.2.2 i else a + (i - w.2.2.1))
theorem sx_wn_up {w : sx_w} {a n : Nat} : sx_up w (sx_wn w a n) := ⟨Nat.le_refl _, fun _ _ => rfl, Nat.le_add_right _ _, fun _ hi => if_pos hi⟩
theorem sx_RY.wn {w : sx_w} {Y : sx_Y} {a n : Nat} (h : sx_RY w Y) : sx_RY (sx_wn w a n) Y := h
theorem sx_wn_top {w : sx_w} {a n : Nat} : sx_RO (sx_wn w a (n + 1)) (some w.2.2.1) (some a) := ⟨by show w.2.2.1 < w.2.2.1 + (n + 1); omega, by show some a = some (if w.2.2.1 < w.2.2.1 then w.2.2.2 w.2.2.1 else a + (w.2.2.1 - w.2.2.1)); rw [if_neg (Nat.lt_irrefl _), Nat.sub_self, Nat.add_zero]⟩
theorem sx_RH.new {w : sx_w} {h h' : sx_H} {G G' : mj_G} {M M' : mj_M} {a n : Nat} (hH : sx_RH w h G M) (ha : ∀ x, a ≤ x → G x = (0, 0)) (h1 : h'.1 = h.1 + n) (h2 : h'.1 ≤ 4096) (ho : ∀ j, j < h.1 → sx_g h'.2 j = sx_g h.2 j) (hG : ∀ x, ¬ a ≤ x → G' x = G x) (hM : ∀ x, ¬ a ≤ x → (∀ k, M'.1 x k = M.1 x k) ∧ (∀ k, M'.2.1 x k = M.2.1 x k) ∧ ∀ k, M'.2.2 x k = M.2.2 x k)
    (hn : ∀ j, j < n → sx_RC (sx_wn w a n) G' M' (h.1 + j) (sx_g h'.2 (h.1 + j))) : sx_RH (sx_wn w a n) h' G' M' := by
  obtain ⟨e1, e2, e3, e4⟩ := hH
  have old : ∀ j, j < h.1 → ¬ a ≤ w.2.2.2 j := fun j hj q => (e3 j hj).2.1 (by have := ha _ q; rw [(e3 j hj).1] at this; exact (Prod.mk.inj this).1)
  have eo : ∀ j, j < h.1 → (sx_wn w a n).2.2.2 j = w.2.2.2 j := fun j hj => if_pos (by omega)
  have en : ∀ j, ¬ j < h.1 → (sx_wn w a n).2.2.2 j = a + (j - w.2.2.1) := fun j hj => if_neg (by omega)
  refine ⟨by rw [h1, e1]; rfl, h2, fun j hj => ?_, fun i j hi hj q => ?_⟩
  · by_cases q : j < h.1
    · rw [ho j q]
      obtain ⟨c1, c2, c3⟩ := e3 j q
      obtain ⟨m1, m2, m3⟩ := hM _ (old j q)
      unfold sx_RC
      rw [eo j q]
      exact ⟨by rw [hG _ (old j q)]; exact c1, c2, fun k hk => by rw [m1, m2, m3]; exact ⟨(c3 k hk).1.up sx_wn_up, (c3 k hk).2.1, (c3 k hk).2.2.up sx_wn_up⟩⟩
    · have := hn (j - h.1) (by omega)
      rw [show h.1 + (j - h.1) = j by omega] at this
      exact this
  · by_cases qi : i < h.1
    · by_cases qj : j < h.1
      · exact e4 i j qi qj (by rw [eo i qi, eo j qj] at q; exact q)
      · rw [eo i qi, en j qj] at q
        exact absurd (by omega) (old i qi)
    · by_cases qj : j < h.1
      · rw [en i qi, eo j qj] at q
        exact absurd (by omega) (old j qj)
      · rw [en i qi, en j qj] at q
        omega
theorem sx_nw_s {w : sx_w} {h : sx_H} {G : mj_G} {M : mj_M} {t n : Nat} {k : Nat → sx_H → Bool} (hk : sx_nw h t n k = true) (hH : sx_RH w h G M) (ht : t ≠ 0) {a : Nat} (ha : ∀ x, a ≤ x → G x = (0, 0)) : ∃ h', sx_RH (sx_wn w a 1) h' (mj_g G a t n) (mj_z M a) ∧ k w.2.2.1 h' = true := by
  obtain ⟨hj, hk⟩ := sx_cd hk
  have hj := sx_blt hj
  rw [sx_sk_eq] at hk
  have hne : ∀ x, ¬ a ≤ x → x ≠ a := fun x hx q => hx (by omega)
  refine ⟨_, hH.new (n := 1) ha (h' := (Nat.succ h.1, sx_s 12 h.2 h.1 (sx_nc t n))) rfl hj (fun j hj' => ?_) (fun x hx => if_neg (hne x hx)) (fun x hx => ⟨fun _ => if_neg (hne x hx), fun _ => if_neg (hne x hx), fun _ => if_neg (hne x hx)⟩) (fun j hj' => ?_), by rw [← hH.1]; exact hk⟩
  · show sx_g (sx_s 12 h.2 h.1 (sx_nc t n)) j = _
    rw [sx_g12 _ _ hj (by omega), if_neg (by omega)]
  · obtain rfl : j = 0 := by omega
    show sx_RC _ _ _ h.1 (sx_g (sx_s 12 h.2 h.1 (sx_nc t n)) h.1)
    rw [sx_g12 _ _ hj hj, if_pos rfl]
    have e : (sx_wn w a 1).2.2.2 h.1 = a := by
      show (if h.1 < w.2.2.1 then w.2.2.2 h.1 else a + (h.1 - w.2.2.1)) = a
      rw [if_neg (by rw [hH.1]; omega), hH.1]; omega
    unfold sx_RC
    rw [e]
    refine ⟨if_pos rfl, ht, fun k _ => ⟨?_, if_pos rfl, if_pos rfl⟩⟩
    show (0 : Int) = if a = a then 0 else M.1 a k
    rw [if_pos rfl]
end
section
/-! ===== rows of arrays, copies, arithmetic, calls of the symbolic run ===== -/
theorem sx_rws_s {t m : Nat} : ∀ (n : Nat) {h : sx_H} {k : sx_H → Bool}, sx_rws t m n h k = true → h.1 ≤ 4096 → ∃ h', h'.1 = h.1 + n ∧ h'.1 ≤ 4096 ∧ (∀ j, j < 4096 → sx_g h'.2 j = if h.1 ≤ j ∧ j < h.1 + n then sx_nc t m else sx_g h.2 j) ∧ k h' = true
  | 0, h, k, hk, h4 => ⟨h, rfl, h4, fun j _ => by rw [if_neg (by omega)], hk⟩
  | n + 1, h, k, hk, h4 => by
    obtain ⟨hj, hk⟩ := sx_cd hk
    have hj := sx_blt hj
    rw [sx_sk_eq] at hk
    obtain ⟨h', a1, a2, a3, a4⟩ := sx_rws_s n (h := (Nat.succ h.1, sx_s 12 h.2 h.1 (sx_nc t m))) hk hj
    have a1 : h'.1 = h.1 + 1 + n := a1
    refine ⟨h', by omega, a2, fun j hj' => ?_, a4⟩
    rw [a3 j hj']
    show (if h.1 + 1 ≤ j ∧ j < h.1 + 1 + n then sx_nc t m else sx_g (sx_s 12 h.2 h.1 (sx_nc t m)) j) = _
    rw [sx_g12 _ _ hj hj']
    by_cases e : j = h.1
    · rw [if_neg (by omega), if_pos e, if_pos (by omega)]
    · rw [if_neg e]
      by_cases e2 : h.1 + 1 ≤ j ∧ j < h.1 + 1 + n
      · rw [if_pos e2, if_pos (by omega)]
      · rw [if_neg e2, if_neg (by omega)]
theorem sx_rfs_s {b : Nat} : ∀ (n : Nat) {u : Lean.RArray (Option Nat)} {k : Lean.RArray (Option Nat) → Bool}, sx_rfs b n u k = true → n ≤ 4096 → ∃ u', (∀ j, j < 4096 → sx_g u' j = if j < n then some (b + j) else sx_g u j) ∧ k u' = true
  | 0, u, k, hk, _ => ⟨u, fun j _ => by rw [if_neg (by omega)], hk⟩
  | n + 1, u, k, hk, h4 => by
    unfold sx_rfs at hk
    rw [sx_sk_eq] at hk
    obtain ⟨u', a1, a2⟩ := sx_rfs_s n hk (by omega)
    refine ⟨u', fun j hj => ?_, a2⟩
    rw [a1 j hj, sx_g12 _ _ (by omega) hj]
    by_cases e : j < n
    · rw [if_pos e, if_pos (by omega)]
    · rw [if_neg e]
      by_cases e2 : j = n
      · rw [if_pos e2, if_pos (by omega), e2]
      · rw [if_neg e2, if_neg (by omega)]
theorem sx_cpa_s {β : Type} {a : Lean.RArray β} {sp dp : Nat} : ∀ (n : Nat) {b : Lean.RArray β} {k : Lean.RArray β → Bool}, sx_cpa n a sp b dp k = true → dp + n ≤ 4096 → ∃ b', (∀ j, j < 4096 → sx_g b' j = if dp ≤ j ∧ j < dp + n then sx_g a (sp + (j - dp)) else sx_g b j) ∧ k b' = true
  | 0, b, k, hk, _ => ⟨b, fun j _ => by rw [if_neg (by omega)], hk⟩
  | n + 1, b, k, hk, h4 => by
    unfold sx_cpa at hk
    rw [sx_sk_eq] at hk
    obtain ⟨b', a1, a2⟩ := sx_cpa_s n hk (by omega)
    refine ⟨b', fun j hj => ?_, a2⟩
    rw [a1 j hj, sx_g12 _ _ (by omega) hj]
    by_cases e : dp ≤ j ∧ j < dp + n
    · rw [if_pos e, if_pos (by omega)]
    · rw [if_neg e]
      by_cases e2 : j = dp + n
      · rw [if_pos e2, if_pos (by omega), e2, Nat.add_sub_cancel_left]
      · rw [if_neg e2, if_neg (by omega)]
/-- new int[n][m] -/
theorem sx_mul_s {w : sx_w} {h : sx_H} {G : mj_G} {M : mj_M} {n m : Nat} {k : Nat → sx_H → Bool} (hk : (sx_nw h 1104 n fun i h => sx_rws 1100 m n h fun h => sx_cl h i fun t l a b c => sx_rfs (i + 1) n c fun c => sx_pt h i (t, l, a, b, c) fun h => k i h) = true) (hH : sx_RH w h G M) {a : Nat} (ha : ∀ x, a ≤ x → G x = (0, 0)) :
    ∃ h', sx_RH (sx_wn w a (1 + n)) h' (mj_gg G a 1104 n 1100 m) (mj_zz M a n) ∧ k w.2.2.1 h' = true := by
  obtain ⟨hj, hk⟩ := sx_cd hk
  have hj := sx_blt hj
  rw [sx_sk_eq] at hk
  obtain ⟨h2, b1, b2, b3, hk⟩ := sx_rws_s n hk hj
  have b1 : h2.1 = h.1 + 1 + n := b1
  have b3 : ∀ j, j < 4096 → sx_g h2.2 j = if h.1 + 1 ≤ j ∧ j < h.1 + 1 + n then sx_nc 1100 m else sx_g (sx_s 12 h.2 h.1 (sx_nc 1104 n)) j := b3
  have b4 : sx_g h2.2 h.1 = sx_nc 1104 n := by rw [b3 _ hj, if_neg (by omega), sx_g12 _ _ hj hj, if_pos rfl]
  rw [sx_cl_eq, b4] at hk
  obtain ⟨u, u1, hk⟩ := sx_rfs_s n hk (by omega)
  rw [sx_pt_eq] at hk
  have hu : ∀ j, j < 4096 → sx_g u j = if j < n then some (h.1 + 1 + j) else none := fun j hj => u1 j hj
  have e1 := hH.1
  have wv : ∀ j, j < 1 + n → (sx_wn w a (1 + n)).2.2.2 (h.1 + j) = a + j := fun j hj' => by
    show (if h.1 + j < w.2.2.1 then w.2.2.2 (h.1 + j) else a + (h.1 + j - w.2.2.1)) = a + j
    rw [if_neg (by omega)]; omega
  refine ⟨_, hH.new (n := 1 + n) ha (h' := (h2.1, sx_s 12 h2.2 h.1 ((sx_nc 1104 n).1, (sx_nc 1104 n).2.1, (sx_nc 1104 n).2.2.1, (sx_nc 1104 n).2.2.2.1, u))) (by show h2.1 = _; omega) b2 (fun j hj' => ?_) (fun x hx => ?_) (fun x hx => ?_) (fun j hj' => ?_), by rw [← hH.1]; exact hk⟩
  · show sx_g (sx_s 12 h2.2 h.1 _) j = _
    rw [sx_g12 _ _ hj (by omega), if_neg (by omega), b3 _ (by omega), if_neg (by omega), sx_g12 _ _ hj (by omega), if_neg (by omega)]
  · unfold mj_gg; rw [if_neg (by omega), if_neg (by omega)]
  · unfold mj_zz
    have n1 : ¬ (a ≤ x ∧ x ≤ a + n) := fun q => hx q.1
    have n2 : ¬ x = a := fun q => hx (by omega)
    exact ⟨fun _ => if_neg n1, fun _ => if_neg n1, fun _ => by dsimp only; rw [if_neg n2, if_neg n1]⟩
  · show sx_RC _ _ _ (h.1 + j) (sx_g (sx_s 12 h2.2 h.1 _) (h.1 + j))
    unfold sx_RC
    rw [wv j hj', sx_g12 _ _ hj (by omega)]
    have n1 : a ≤ a + j ∧ a + j ≤ a + n := ⟨by omega, by omega⟩
    by_cases e : j = 0
    · subst e
      rw [if_pos (Nat.add_zero _), Nat.add_zero]
      refine ⟨by unfold mj_gg; rw [if_pos rfl]; rfl, by show (1104 : Nat) ≠ 0; decide, fun q hq => ⟨?_, ?_, ?_⟩⟩
      · show (0 : Int) = (mj_zz M a n).1 a q
        unfold mj_zz; dsimp only; rw [if_pos (by omega)]
      · show (mj_zz M a n).2.1 a q = 0
        unfold mj_zz; dsimp only; rw [if_pos (by omega)]
      · show sx_RO _ (sx_g u q) ((mj_zz M a n).2.2 a q)
        rw [hu q hq]
        unfold mj_zz
        dsimp only
        rw [if_pos rfl]
        by_cases e2 : q < n
        · rw [if_pos e2, if_pos e2]
          refine ⟨by show h.1 + 1 + q < w.2.2.1 + (1 + n); omega, ?_⟩
          rw [show h.1 + 1 + q = h.1 + (1 + q) by omega, wv (1 + q) (by omega), show a + (1 + q) = a + 1 + q by omega]
        · rw [if_neg e2, if_neg e2]; rfl
    · rw [if_neg (by omega), b3 _ (by omega), if_pos (by omega)]
      refine ⟨by unfold mj_gg; rw [if_neg (by omega), if_pos (by omega)]; rfl, by show (1100 : Nat) ≠ 0; decide, fun q hq => ⟨?_, ?_, ?_⟩⟩
      · show (0 : Int) = (mj_zz M a n).1 (a + j) q
        unfold mj_zz; dsimp only; rw [if_pos n1]
      · show (mj_zz M a n).2.1 (a + j) q = 0
        unfold mj_zz; dsimp only; rw [if_pos n1]
      · show (mj_zz M a n).2.2 (a + j) q = none
        unfold mj_zz; dsimp only; rw [if_neg (by omega), if_pos n1]
theorem sx_ix_s {w : sx_w} {Y : sx_Y} {st : List sx_V} {st' : List mj_V} {h : sx_H} {k : Nat → Nat → Nat → sx_c → sx_Y → List sx_V → Bool} (hk : sx_ix Y st h k = true) (hS : sx_RS w st st') (hY : sx_RY w Y) :
    ∃ (i : Nat) (z : Int) (Y' : sx_Y) (t : List sx_V) (t' : List mj_V), st' = .inl z :: .inr (.inr (some (w.2.2.2 i))) :: t' ∧ i < w.2.2.1 ∧ sx_RY w Y' ∧ sx_RS w t t' ∧ 0 ≤ z ∧ z < ((sx_g h.2 i).2.1 : Int) ∧ z.toNat < 4096 ∧ k i (sx_g h.2 i).1 z.toNat (sx_g h.2 i) Y' t = true := by
  obtain ⟨x, t, z, t', rfl, hx, hS, hk⟩ := sx_i1_s hk hS
  obtain ⟨i, t, t', rfl, hi, hS, hk⟩ := sx_a1_s hk hS
  rw [sx_cl_eq] at hk
  obtain ⟨Y', hY', hk⟩ := sx_sp_s hk hY hx
  obtain ⟨h1, hk⟩ := sx_cd hk
  obtain ⟨h1, h2⟩ := sx_nd h1
  obtain ⟨h2, h3⟩ := sx_nd h2
  have h1 : 0 ≤ z := sx_le_iff.mp h1
  have h2 := sx_blt h2
  exact ⟨i, z, Y', t, t', rfl, hi, hY', hS, h1, by omega, sx_blt h3, hk⟩
/-! arithmetic -/
theorem sx_op2_s {w : sx_w} {Y : sx_Y} {st : List sx_V} {st' : List mj_V} {f : Int → Int → Int → Int → Option (Int × Int)} {k : sx_I → sx_Y → List sx_V → Bool} {F : Int → Int → Int} {g : Int32 → Int32 → Int32} {k' : List mj_V → Prop} (h : sx_op2 Y st f k = true) (hS : sx_RS w st st') (hY : sx_RY w Y) (hf : ∀ a b c d q x y, f a b c d = some q → a ≤ x → x ≤ b → c ≤ y → y ≤ d → q.1 ≤ F x y ∧ F x y ≤ q.2)
    (kk : ∀ w' x z Y' t t', sx_e w w' → sx_RY w' Y' → sx_RI w' x z → sx_RS w' t t' → k x Y' t = true → k' (.inl z :: t')) : mj_bin F st' g k' := by
  obtain ⟨y, t, zy, t', rfl, hy, hS, h⟩ := sx_i1_s h hS
  obtain ⟨x, t, zx, t', rfl, hx, hS, h⟩ := sx_i1_s h hS
  obtain ⟨a, b, h, h1, h2⟩ := sx_iv_s h hY hx
  obtain ⟨c, d, h, h3, h4⟩ := sx_iv_s h hY hy
  show (mj_in (F zx zy) ∧ k' (.inl (F zx zy) :: t')) ∨ ∀ z, mj_in z → z = (g (Int32.ofInt zx) (Int32.ofInt zy)).toInt → k' (.inl z :: t')
  have full : (sx_ff Y fun x Y => k x Y t) = true → ∀ z, mj_in z → z = (g (Int32.ofInt zx) (Int32.ofInt zy)).toInt → k' (.inl z :: t') := fun hf z hz _ => by
    obtain ⟨w', x', Y', u1, u2, u3, u4⟩ := sx_ff_s hf hY hz
    exact kk w' x' z Y' t t' u1 u2 u3 (hS.up u1.1) u4
  cases hq : f a b c d with
  | none => rw [hq] at h; exact Or.inr (full h)
  | some q =>
    rw [hq] at h
    obtain ⟨q1, q2⟩ := hf a b c d q zx zy hq h1 h2 h3 h4
    rcases sx_ai_s h hY q1 q2 with ⟨u0, w', x', Y', u1, u2, u3, u4⟩ | h
    · exact Or.inl ⟨u0, kk w' x' _ Y' t t' u1 u2 u3 (hS.up u1.1) u4⟩
    · exact Or.inr (full h)
theorem sx_fadd_s (a b c d : Int) (q : Int × Int) (x y : Int) (h : sx_fadd a b c d = some q) (h1 : a ≤ x) (h2 : x ≤ b) (h3 : c ≤ y) (h4 : y ≤ d) : q.1 ≤ x + y ∧ x + y ≤ q.2 := by
  obtain rfl := Option.some.inj h
  dsimp only; omega
theorem sx_fsub_s (a b c d : Int) (q : Int × Int) (x y : Int) (h : sx_fsub a b c d = some q) (h1 : a ≤ x) (h2 : x ≤ b) (h3 : c ≤ y) (h4 : y ≤ d) : q.1 ≤ x - y ∧ x - y ≤ q.2 := by
  obtain rfl := Option.some.inj h
  dsimp only; omega
theorem sx_fmul_s (a b c d : Int) (q : Int × Int) (x y : Int) (h : sx_fmul a b c d = some q) (h1 : a ≤ x) (h2 : x ≤ b) (h3 : c ≤ y) (h4 : y ≤ d) : q.1 ≤ x * y ∧ x * y ≤ q.2 := by
  unfold sx_fmul at h
  cases e1 : (sx_eq a b && sx_eq c d) with
  | true =>
    rw [e1] at h
    obtain rfl := Option.some.inj h
    obtain ⟨e2, e3⟩ := sx_nd e1
    have e2 := sx_eq_iff.mp e2
    have e3 := sx_eq_iff.mp e3
    rw [show x = a by omega, show y = c by omega]
    exact ⟨Int.le_refl _, Int.le_refl _⟩
  | false =>
    rw [e1] at h
    dsimp only [cond_false] at h
    cases e4 : (sx_eq c d && sx_le (.ofNat 0) c) with
    | true =>
      rw [e4] at h
      obtain rfl := Option.some.inj h
      obtain ⟨e2, e3⟩ := sx_nd e4
      have e2 := sx_eq_iff.mp e2
      have e3 : 0 ≤ c := sx_le_iff.mp e3
      rw [show y = c by omega]
      exact ⟨Int.mul_le_mul_of_nonneg_right h1 e3, Int.mul_le_mul_of_nonneg_right h2 e3⟩
    | false =>
      rw [e4] at h
      dsimp only [cond_false] at h
      cases e5 : (sx_eq a b && sx_le (.ofNat 0) a) with
      | true =>
        rw [e5] at h
        obtain rfl := Option.some.inj h
        obtain ⟨e2, e3⟩ := sx_nd e5
        have e2 := sx_eq_iff.mp e2
        have e3 : 0 ≤ a := sx_le_iff.mp e3
        rw [show x = a by omega]
        exact ⟨Int.mul_le_mul_of_nonneg_left h3 e3, Int.mul_le_mul_of_nonneg_left h4 e3⟩
      | false => rw [e5] at h; cases h
theorem sx_bit_s {w : sx_w} {Y : sx_Y} {st : List sx_V} {st' : List mj_V} {an : Bool} {k : sx_I → sx_Y → List sx_V → Bool} {g : Int32 → Int32 → Int32} {k' : List mj_V → Prop} (h : sx_bit Y st an g k = true) (hS : sx_RS w st st') (hY : sx_RY w Y) (han : an = true → ∀ (x : Int32) (c : Int), 0 ≤ c → c ≤ 2147483647 → 0 ≤ (g x (Int32.ofInt c)).toInt ∧ (g x (Int32.ofInt c)).toInt ≤ c)
    (kk : ∀ w' x z Y' t t', sx_e w w' → sx_RY w' Y' → sx_RI w' x z → sx_RS w' t t' → k x Y' t = true → k' (.inl z :: t')) : mj_op st' g k' := by
  obtain ⟨y, t, zy, t', rfl, hy, hS, h⟩ := sx_i1_s h hS
  obtain ⟨x, t, zx, t', rfl, hx, hS, h⟩ := sx_i1_s h hS
  obtain ⟨a, b, h, h1, h2⟩ := sx_iv_s h hY hx
  obtain ⟨c, d, h, h3, h4⟩ := sx_iv_s h hY hy
  intro z hz hze
  have full : (sx_ff Y fun x Y => k x Y t) = true → k' (.inl z :: t') := fun hf => by
    obtain ⟨w', x', Y', u1, u2, u3, u4⟩ := sx_ff_s hf hY hz
    exact kk w' x' z Y' t t' u1 u2 u3 (hS.up u1.1) u4
  cases e1 : sx_eq c d with
  | false => rw [e1] at h; exact full h
  | true =>
    rw [e1] at h
    have e1 := sx_eq_iff.mp e1
    have ec : zy = c := by omega
    dsimp only [cond_true] at h
    cases e2 : sx_eq a b with
    | true =>
      rw [e2] at h
      have e2 := sx_eq_iff.mp e2
      dsimp only [cond_true] at h
      rw [sx_fi_eq] at h
      refine kk w _ z Y t t' sx_e.rf hY ?_ hS h
      show (g (Int32.ofInt a) (Int32.ofInt c)).toInt = z
      rw [hze, show zx = a by omega, ec]
    | false =>
      rw [e2] at h
      dsimp only [cond_false] at h
      cases e3 : (an && (sx_le (.ofNat 0) c && sx_le c (.ofNat 2147483647))) with
      | false => rw [e3] at h; exact full h
      | true =>
        rw [e3] at h
        dsimp only [cond_true] at h
        obtain ⟨a1, a2⟩ := sx_nd e3
        obtain ⟨a2, a3⟩ := sx_nd a2
        obtain ⟨b1, b2⟩ := han a1 (Int32.ofInt zx) c (sx_le_iff.mp a2) (sx_le_iff.mp a3)
        rw [ec] at hze
        rw [← hze] at b1 b2
        obtain ⟨w', x', Y', u1, u2, u3, u4⟩ := sx_fr_s h hY b1 b2
        exact kk w' x' z Y' t t' u1 u2 u3 (hS.up u1.1) u4
theorem sx_and_in (x : Int32) (c : Int) (h0 : 0 ≤ c) (h1 : c ≤ 2147483647) : 0 ≤ (x &&& Int32.ofInt c).toInt ∧ (x &&& Int32.ofInt c).toInt ≤ c := by
  have hb : (Int32.ofInt c).toBitVec.toNat = c.toNat := by
    rw [Int32.toBitVec_ofInt, BitVec.toNat_ofInt]
    congr 1
    exact Int.emod_eq_of_lt h0 (by omega)
  have hle : x.toBitVec.toNat &&& c.toNat ≤ c.toNat := Nat.and_le_right
  have e : (x &&& Int32.ofInt c).toInt = ((x.toBitVec.toNat &&& c.toNat : Nat) : Int) := by
    show (x &&& Int32.ofInt c).toBitVec.toInt = _
    rw [Int32.toBitVec_and, BitVec.toInt_eq_toNat_cond, BitVec.toNat_and, hb, if_pos (by omega)]
  rw [e]
  omega
theorem sx_un_s {w : sx_w} {Y : sx_Y} {st : List sx_V} {st' : List mj_V} {k : sx_I → sx_Y → List sx_V → Bool} {g : Int32 → Int32} {k' : List mj_V → Prop} (h : sx_un Y st g k = true) (hS : sx_RS w st st') (hY : sx_RY w Y)
    (kk : ∀ w' x z Y' t t', sx_e w w' → sx_RY w' Y' → sx_RI w' x z → sx_RS w' t t' → k x Y' t = true → k' (.inl z :: t')) : mj_un st' g k' := by
  obtain ⟨x, t, zx, t', rfl, hx, hS, h⟩ := sx_i1_s h hS
  obtain ⟨a, b, h, h1, h2⟩ := sx_iv_s h hY hx
  intro z hz hze
  cases e2 : sx_eq a b with
  | true =>
    rw [e2] at h
    have e2 := sx_eq_iff.mp e2
    dsimp only [cond_true] at h
    rw [sx_fi_eq] at h
    refine kk w _ z Y t t' sx_e.rf hY ?_ hS h
    show (g (Int32.ofInt a)).toInt = z
    rw [hze, show zx = a by omega]
  | false =>
    rw [e2] at h
    obtain ⟨w', x', Y', u1, u2, u3, u4⟩ := sx_ff_s h hY hz
    exact kk w' x' z Y' t t' u1 u2 u3 (hS.up u1.1) u4
theorem sx_tf_s {w : sx_w} {Y : sx_Y} {x : sx_I} {z : Int} (h : sx_tf Y x = true) (hY : sx_RY w Y) (hx : sx_RI w x z) : z = 0 ∨ z = 1 := by
  obtain ⟨a, b, h, h1, h2⟩ := sx_iv_s h hY hx
  obtain ⟨h3, h4⟩ := sx_nd h
  have h3 : 0 ≤ a := sx_le_iff.mp h3
  have h4 : b ≤ 1 := sx_le_iff.mp h4
  omega
theorem sx_swt_s {w : sx_w} {Y : sx_Y} {a b z : Int} {k : Nat → sx_Y → Bool} {x : sx_I} {k' : Nat → Prop} (hY : sx_RY w Y) (hx : sx_RI w x z) (h1 : a ≤ z) (h2 : z ≤ b) (kk : ∀ t Y', sx_RY w Y' → k t Y' = true → k' t) : ∀ (ts : List Nat) (v : Int), sx_swt Y a b k x v ts = true → mj_sw z k' v ts
  | [], _, _ => trivial
  | t :: ts, v, h => by
    obtain ⟨ha, hb⟩ := sx_nd h
    refine ⟨fun e => ?_, sx_swt_s hY hx h1 h2 kk ts (v + 1) hb⟩
    subst e
    have hk := sx_ct ha (by rw [Bool.and_eq_true, sx_le_iff, sx_le_iff]; exact ⟨h1, h2⟩)
    cases x with
    | inl _ => exact kk t Y hY hk
    | inr i => exact kk t _ (hY.set ⟨by rw [hx.2]; exact Int.le_refl _, by rw [hx.2]; exact Int.le_refl _⟩) hk
end
section
/-! ===== one instruction of the symbolic run ===== -/
theorem sx_RS.c {w : sx_w} {x : sx_V} {v : mj_V} {t : List sx_V} {t' : List mj_V} (hS : sx_RS w t t') (hv : sx_RV w x v) : sx_RS w (x :: t) (v :: t') := ⟨v, t', rfl, hv, hS⟩
theorem sx_RI.v {w : sx_w} {x : sx_I} {z : Int} (h : sx_RI w x z) : sx_RV w (.inl x) (.inl z) := ⟨z, rfl, h⟩
theorem sx_RO.v {w : sx_w} {x r : Option Nat} (h : sx_RO w x r) : sx_RV w (.inr (.inr x)) (.inr (.inr r)) := ⟨r, rfl, h⟩
theorem sx_RV.l {w : sx_w} {x : Int64} : sx_RV w (.inr (.inl x)) (.inr (.inl x)) := rfl
def sx_Sem (q : sx_q) (y d : Nat) (rest : List mj_E) (L : sx_L) (st : List sx_V) (cb sb : Nat) (fs : List sx_F) (h : sx_H) (Y : sx_Y) : Prop := ∀ (w : sx_w) (L' : mj_L) (st' : List mj_V) (G : mj_G) (M : mj_M) (Q : mj_P) (Z : mj_S), sx_cz q fs y d Q Z → sx_RL w L L' → sx_RS w st st' → sx_RF q w fs Q → sx_RH w h G M → sx_RY w Y → Z rest L' st' G M cb sb
def sx_ks (q : sx_q) (K : sx_K) : Prop := ∀ y d rest L st cb sb fs h Y, K y d rest L st cb sb fs h Y = true → sx_Sem q y d rest L st cb sb fs h Y
theorem sx_call_s {q : sx_q} {K : sx_K} (hK : sx_ks q K) {y d : Nat} {rest : List mj_E} {L : sx_L} {st : List sx_V} {cb sb : Nat} {fs : List sx_F} {h : sx_H} {Y : sx_Y} {f : Nat} {av : List sx_V} {w : sx_w} {L' : mj_L} {st' av' : List mj_V} {G : mj_G} {M : mj_M} {Q : mj_P} {Z : mj_S} (hk : sx_call K y d rest L st cb sb fs h Y f av = true) (hz : sx_cz q fs y d Q Z) (hL : sx_RL w L L') (hS : sx_RS w st st') (hA : sx_RS w av av') (hF : sx_RF q w fs Q) (hH : sx_RH w h G M) (hY : sx_RY w Y) :
    mj_cat st' ≤ 8 ∧ (sx_ms f).1 ≤ cb ∧ (sx_ms f).2 ≤ sb ∧ mj_R mj_tab d f av' G M fun r G M => Z rest L' (mj_ret r st') G M (cb - (sx_ms f).1) (sb - (sx_ms f).2) := by
  cases d with
  | zero => cases hk
  | succ d =>
    obtain ⟨hc, hk⟩ := sx_cd hk
    obtain ⟨c1, hc⟩ := sx_nd hc
    obtain ⟨c2, hc⟩ := sx_nd hc
    obtain ⟨c3, hc⟩ := sx_nd hc
    obtain ⟨c4, c5⟩ := sx_nd hc
    refine ⟨by rw [← sx_cat_s hS]; exact sx_ble c1, sx_ble c2, sx_ble c3, by rw [← sx_wd_s hA]; exact sx_ble c4, ?_⟩
    intro Z' hZ'
    have hfull : sx_full f = (mj_tab f).2.2.2.2.1 := by unfold sx_full; rw [c5]; rfl
    refine hK _ _ _ _ _ _ _ _ _ _ hk w _ _ G M _ Z' ⟨by rw [hfull]; exact hZ', fun q => by cases q⟩ (sx_en_s _ hA) rfl ⟨L', st', Q, Z, hz, hL, hS, hF, fun r G M h => h⟩ hH hY
theorem sx_back_s {q : sx_q} {K : sx_K} (hK : sx_ks q K) {fs : List sx_F} {h : sx_H} {Y : sx_Y} {w : sx_w} {G : mj_G} {M : mj_M} {Q : mj_P} {r : Option sx_V} {r' : Option mj_V} (hk : sx_back K fs h Y r = true) (hr : match r with
    | none => r' = none
    | some v => ∃ v', r' = some v' ∧ sx_RV w v v') (hF : sx_RF q w fs Q) (hH : sx_RH w h G M) (hY : sx_RY w Y) : Q r' G M := by
  match fs, hk, hF with
  | [], hk, hF =>
    cases r with
    | none => cases hk
    | some v =>
      rcases v with x | x
      · have hk : sx_kn Y x (fun z => sx_eq z (.ofNat 1)) = true := hk
        obtain ⟨v', rfl, z, rfl, hz⟩ := hr
        have hz1 := sx_kn_s hk hY hz
        have := sx_eq_iff.mp hz1
        rw [show z = 1 from this]
        exact hF.1 G M
      · cases hk
  | (y, d, rest, L, st, cb, sb) :: fs, hk, hF =>
    obtain ⟨L', st', Q', Z, z1, z2, z3, z4, z5⟩ := hF
    cases r with
    | none =>
      obtain rfl : r' = none := hr
      exact z5 none G M (hK _ _ _ _ _ _ _ _ _ _ hk w L' st' G M Q' Z z1 z2 z3 z4 hH hY)
    | some v =>
      obtain ⟨v', rfl, hv⟩ := hr
      exact z5 (some v') G M (hK _ _ _ _ _ _ _ _ _ _ hk w L' (v' :: st') G M Q' Z z1 z2 ⟨v', st', rfl, hv, z3⟩ z4 hH hY)
theorem sx_lib_s {w : sx_w} {f : Nat} {Y : sx_Y} {st : List sx_V} {st' : List mj_V} {h : sx_H} {G : mj_G} {M : mj_M} {k : List sx_V → sx_H → Bool} {k' : List mj_V → mj_M → Prop} (hk : sx_lib f Y st h k = true) (hS : sx_RS w st st') (hH : sx_RH w h G M) (hY : sx_RY w Y) (kk : ∀ t t' h' M', k t h' = true → sx_RS w t t' → sx_RH w h' G M' → k' t' M') : mj_lib f st' G M k' := by
  unfold sx_lib at hk
  split at hk
  · obtain ⟨y, t, zy, t', rfl, hy, hS, hk⟩ := sx_i1_s hk hS
    obtain ⟨x, t, zx, t', rfl, hx, hS, hk⟩ := sx_i1_s hk hS
    obtain ⟨h8, hk⟩ := sx_cd hk
    have hk := sx_kn_s (sx_kn_s hk hY hx) hY hy
    refine ⟨by rw [← sx_cat_s hS]; exact sx_ble h8, fun z h1 h2 => kk _ _ h M hk (hS.c (sx_RI.v ?_)) hH⟩
    show cond (sx_le zy zx) zx zy = z
    cases e : sx_le zy zx with
    | true => have := sx_le_iff.mp e; rw [h2 (by omega)]; rfl
    | false => have := sx_le_no (x := zy) (y := zx) (by rw [e]; exact Bool.false_ne_true); rw [h1 this]; rfl
  · obtain ⟨y, t, zy, t', rfl, hy, hS, hk⟩ := sx_i1_s hk hS
    obtain ⟨x, t, zx, t', rfl, hx, hS, hk⟩ := sx_i1_s hk hS
    obtain ⟨h8, hk⟩ := sx_cd hk
    have hk := sx_kn_s (sx_kn_s hk hY hx) hY hy
    refine ⟨by rw [← sx_cat_s hS]; exact sx_ble h8, fun z h1 h2 => kk _ _ h M hk (hS.c (sx_RI.v ?_)) hH⟩
    show cond (sx_le zx zy) zx zy = z
    cases e : sx_le zx zy with
    | true => have := sx_le_iff.mp e; rw [h2 (by omega)]; rfl
    | false => have := sx_le_no (x := zx) (y := zy) (by rw [e]; exact Bool.false_ne_true); rw [h1 this]; rfl
  · obtain ⟨n, t, zn, t', rfl, hn, hS, hk⟩ := sx_i1_s hk hS
    obtain ⟨dp, t, zd, t', rfl, hd, hS, hk⟩ := sx_i1_s hk hS
    obtain ⟨b, t, t', rfl, hb, hS, hk⟩ := sx_a1_s hk hS
    obtain ⟨sp, t, zs, t', rfl, hs, hS, hk⟩ := sx_i1_s hk hS
    obtain ⟨a, t, t', rfl, ha, hS, hk⟩ := sx_a1_s hk hS
    have hk := sx_kn_s (sx_kn_s (sx_kn_s hk hY hn) hY hd) hY hs
    rw [sx_cl_eq, sx_cl_eq] at hk
    obtain ⟨hc, hk⟩ := sx_cd hk
    obtain ⟨c1, hc⟩ := sx_nd hc
    obtain ⟨c2, hc⟩ := sx_nd hc
    obtain ⟨c3, hc⟩ := sx_nd hc
    obtain ⟨c4, hc⟩ := sx_nd hc
    obtain ⟨c5, hc⟩ := sx_nd hc
    obtain ⟨c6, hc⟩ := sx_nd hc
    obtain ⟨c7, hc⟩ := sx_nd hc
    obtain ⟨c8, hc⟩ := sx_nd hc
    obtain ⟨c9, hc⟩ := sx_nd hc
    obtain ⟨c10, c11⟩ := sx_nd hc
    have c4 : 0 ≤ zs := sx_le_iff.mp c4
    have c5 : 0 ≤ zd := sx_le_iff.mp c5
    have c6 : 0 ≤ zn := sx_le_iff.mp c6
    have c7 := sx_ble c7
    have c8 := sx_ble c8
    have c9 := sx_ble c9
    have c10 := sx_ble c10
    obtain ⟨u, u1, hk⟩ := sx_cpa_s _ hk (by omega)
    rw [sx_pt_eq] at hk
    obtain ⟨a1, a2, a3⟩ := hH.2.2.1 a (by rw [hH.1]; exact ha)
    obtain ⟨b1, b2, b3⟩ := hH.2.2.1 b (by rw [hH.1]; exact hb)
    refine ⟨_, _, a1, sx_beq c1, _, _, b1, sx_beq c2, sx_blt c3, c4, c5, c6, by omega, by omega, by rw [← sx_cat_s hS]; exact sx_ble c11, kk _ _ _ _ hk hS (hH.put hb ⟨b1, b2, fun q hq => ⟨?_, (b3 q hq).2⟩⟩ (fun x hx => ⟨fun k => ?_, fun _ => rfl, fun _ => rfl⟩))⟩
    · show sx_RI w (sx_g u q) (if w.2.2.2 b = w.2.2.2 b ∧ zd.toNat ≤ q ∧ q < zd.toNat + zn.toNat then M.1 (w.2.2.2 a) (zs.toNat + (q - zd.toNat)) else M.1 (w.2.2.2 b) q)
      rw [u1 q hq]
      by_cases e : zd.toNat ≤ q ∧ q < zd.toNat + zn.toNat
      · rw [if_pos e, if_pos ⟨rfl, e⟩]; exact (a3 _ (by omega)).1
      · rw [if_neg e, if_neg (fun v => e v.2)]; exact (b3 q hq).1
    · show (if x = w.2.2.2 b ∧ zd.toNat ≤ k ∧ k < zd.toNat + zn.toNat then M.1 (w.2.2.2 a) (zs.toNat + (k - zd.toNat)) else M.1 x k) = M.1 x k
      rw [if_neg (fun v => hx v.1)]
  · obtain ⟨n, t, zn, t', rfl, hn, hS, hk⟩ := sx_i1_s hk hS
    obtain ⟨dp, t, zd, t', rfl, hd, hS, hk⟩ := sx_i1_s hk hS
    obtain ⟨b, t, t', rfl, hb, hS, hk⟩ := sx_a1_s hk hS
    obtain ⟨sp, t, zs, t', rfl, hs, hS, hk⟩ := sx_i1_s hk hS
    obtain ⟨a, t, t', rfl, ha, hS, hk⟩ := sx_a1_s hk hS
    have hk := sx_kn_s (sx_kn_s (sx_kn_s hk hY hn) hY hd) hY hs
    rw [sx_cl_eq, sx_cl_eq] at hk
    obtain ⟨hc, hk⟩ := sx_cd hk
    obtain ⟨c1, hc⟩ := sx_nd hc
    obtain ⟨c2, hc⟩ := sx_nd hc
    obtain ⟨c3, hc⟩ := sx_nd hc
    obtain ⟨c4, hc⟩ := sx_nd hc
    obtain ⟨c5, hc⟩ := sx_nd hc
    obtain ⟨c6, hc⟩ := sx_nd hc
    obtain ⟨c7, hc⟩ := sx_nd hc
    obtain ⟨c8, hc⟩ := sx_nd hc
    obtain ⟨c9, hc⟩ := sx_nd hc
    obtain ⟨c10, c11⟩ := sx_nd hc
    have c4 : 0 ≤ zs := sx_le_iff.mp c4
    have c5 : 0 ≤ zd := sx_le_iff.mp c5
    have c6 : 0 ≤ zn := sx_le_iff.mp c6
    have c7 := sx_ble c7
    have c8 := sx_ble c8
    have c9 := sx_ble c9
    have c10 := sx_ble c10
    obtain ⟨u, u1, hk⟩ := sx_cpa_s _ hk (by omega)
    rw [sx_pt_eq] at hk
    obtain ⟨a1, a2, a3⟩ := hH.2.2.1 a (by rw [hH.1]; exact ha)
    obtain ⟨b1, b2, b3⟩ := hH.2.2.1 b (by rw [hH.1]; exact hb)
    refine ⟨_, _, a1, sx_beq c1, _, _, b1, sx_beq c2, sx_blt c3, c4, c5, c6, by omega, by omega, by rw [← sx_cat_s hS]; exact sx_ble c11, kk _ _ _ _ hk hS (hH.put hb ⟨b1, b2, fun q hq => ⟨(b3 q hq).1, ?_, (b3 q hq).2.2⟩⟩ (fun x hx => ⟨fun _ => rfl, fun k => ?_, fun _ => rfl⟩))⟩
    · show (if w.2.2.2 b = w.2.2.2 b ∧ zd.toNat ≤ q ∧ q < zd.toNat + zn.toNat then M.2.1 (w.2.2.2 a) (zs.toNat + (q - zd.toNat)) else M.2.1 (w.2.2.2 b) q) = sx_g u q
      rw [u1 q hq]
      by_cases e : zd.toNat ≤ q ∧ q < zd.toNat + zn.toNat
      · rw [if_pos e, if_pos ⟨rfl, e⟩]; exact (a3 _ (by omega)).2.1
      · rw [if_neg e, if_neg (fun v => e v.2)]; exact (b3 q hq).2.1
    · show (if x = w.2.2.2 b ∧ zd.toNat ≤ k ∧ k < zd.toNat + zn.toNat then M.2.1 (w.2.2.2 a) (zs.toNat + (k - zd.toNat)) else M.2.1 x k) = M.2.1 x k
      rw [if_neg (fun v => hx v.1)]
  · cases hk
theorem sx_get_s {w : sx_w} {ci fk : Nat} {st : List sx_V} {st' : List mj_V} {h : sx_H} {G : mj_G} {M : mj_M} {k : List sx_V → Bool} {k' : List mj_V → Prop} (hk : sx_get ci fk st h k = true) (hS : sx_RS w st st') (hH : sx_RH w h G M) (kk : ∀ t t', k t = true → sx_RS w t t' → k' t') : mj_get ci fk st' G M k' := by
  obtain ⟨hf, hk⟩ := sx_cd hk
  have hf := sx_blt hf
  obtain ⟨i, t, t', rfl, hi, hS, hk⟩ := sx_a1_s hk hS
  rw [sx_cl_eq] at hk
  obtain ⟨ht, hk⟩ := sx_cd hk
  obtain ⟨c1, c2, c3⟩ := hH.2.2.1 i (by rw [hH.1]; exact hi)
  obtain ⟨d1, d2, d3⟩ := c3 fk hf
  refine ⟨_, _, c1, sx_beq ht, ?_⟩
  split at hk
  · rename_i e
    rw [e]
    exact kk _ _ hk (hS.c d1.v)
  · rename_i e
    rw [e]
    exact kk _ _ hk (hS.c (by rw [← d2]; exact sx_RV.l))
  · rename_i e1 e2
    have hg : mj_rf (M.2.2 (w.2.2.2 i) fk) fun v => k' (v :: t') := ⟨fun b hb => kk _ _ hk (hS.c (sx_RO.v (hb ▸ d3))), fun hb => kk _ _ hk (hS.c (sx_RO.v (hb ▸ d3)))⟩
    split
    · rename_i e; exact absurd e e1
    · rename_i e; exact absurd e e2
    · exact hg
theorem sx_wr_s {w : sx_w} {h : sx_H} {i s : Nat} {k : Bool} {G : mj_G} {M : mj_M} (hk : sx_wr h i s k = true) (hH : sx_RH w h G M) (hi : i < w.2.2.1) : (∃ t n, G (w.2.2.2 i) = (t, n) ∧ t % 1000 = s ∧ t < 900000) ∧ k = true := by
  unfold sx_wr at hk
  rw [sx_cl_eq] at hk
  obtain ⟨hc, hk⟩ := sx_cd hk
  obtain ⟨h1, h2⟩ := sx_nd hc
  obtain ⟨c1, c2, c3⟩ := hH.2.2.1 i (by rw [hH.1]; exact hi)
  exact ⟨⟨_, _, c1, sx_beq h1, sx_blt h2⟩, hk⟩
theorem sx_put_s {w : sx_w} {ci fk : Nat} {Y : sx_Y} {st : List sx_V} {st' : List mj_V} {h : sx_H} {G : mj_G} {M : mj_M} {k : List sx_V → sx_H → Bool} {k' : List mj_V → mj_M → Prop} (hk : sx_put ci fk Y st h k = true) (hS : sx_RS w st st') (hH : sx_RH w h G M) (hY : sx_RY w Y) (kk : ∀ t t' h' M', k t h' = true → sx_RS w t t' → sx_RH w h' G M' → k' t' M') : mj_put ci fk st' G M k' := by
  unfold sx_put at hk
  unfold mj_put
  split at hk
  · rename_i e
    rw [e]
    obtain ⟨x, t, z, t', rfl, hx, hS, hk⟩ := sx_i1_s hk hS
    obtain ⟨i, t, t', rfl, hi, hS, hk⟩ := sx_a1_s hk hS
    obtain ⟨⟨tt, n, g1, g2, g3⟩, hk⟩ := sx_wr_s hk hH hi
    obtain ⟨hb, hk⟩ := sx_nd hk
    obtain ⟨h', u1, u2⟩ := sx_p0_s hk hH hi hx
    refine ⟨tt, n, g1, g2, g3, fun q => ?_, kk _ _ _ _ u2 hS u1⟩
    rw [q] at hb
    exact sx_tf_s hb hY hx
  · rename_i e
    rw [e]
    obtain ⟨x, t, t', rfl, hS, hk⟩ := sx_l1_s hk hS
    obtain ⟨i, t, t', rfl, hi, hS, hk⟩ := sx_a1_s hk hS
    obtain ⟨⟨tt, n, g1, g2, g3⟩, hk⟩ := sx_wr_s hk hH hi
    obtain ⟨h', u1, u2⟩ := sx_p1_s hk hH hi
    exact ⟨tt, n, g1, g2, g3, kk _ _ _ _ u2 hS u1⟩
  · rename_i e1 e2
    obtain ⟨x, t, z, t', rfl, hx, hS, hk⟩ := sx_r1_s hk hS
    obtain ⟨i, t, t', rfl, hi, hS, hk⟩ := sx_a1_s hk hS
    obtain ⟨⟨tt, n, g1, g2, g3⟩, hk⟩ := sx_wr_s hk hH hi
    obtain ⟨h', u1, u2⟩ := sx_p2_s hk hH hi hx
    split
    · rename_i e; exact absurd e e1
    · rename_i e; exact absurd e e2
    · exact ⟨tt, n, g1, g2, g3, kk _ _ _ _ u2 hS u1⟩
end
section
/-! ===== one instruction of the symbolic run is one of the small machine (laid by a program) ===== -/
set_option maxHeartbeats 4000000 in
theorem sx_st_s {q : sx_q} {K : sx_K} (hK : sx_ks q K) : sx_ks q (sx_st K) := by
  intro y d rest L st cb sb fs h Y hk w L' st' G M Q Z hz hL hS hF hH hY
  cases rest with
  | nil => cases hk
  | cons x rest =>
    obtain ⟨ins, pc, aux, imm⟩ := x
    have go : ∀ {w1 : sx_w} {rest1 : List mj_E} {L1 : sx_L} {L1' : mj_L} {st1 : List sx_V} {st1' : List mj_V} {cb1 sb1 : Nat} {h1 : sx_H} {Y1 : sx_Y} {G1 : mj_G} {M1 : mj_M}, sx_up w w1 → K y d rest1 L1 st1 cb1 sb1 fs h1 Y1 = true → sx_RL w1 L1 L1' → sx_RS w1 st1 st1' → sx_RH w1 h1 G1 M1 → sx_RY w1 Y1 → Z rest1 L1' st1' G1 M1 cb1 sb1 := fun u k1 k2 k3 k4 k5 => hK _ _ _ _ _ _ _ _ _ _ k1 _ _ _ _ _ Q Z hz k2 k3 (hF.up u) k4 k5
    cases ins
    case iload_n k =>
      have hk : (sx_ldi L k.val fun v => K y d rest L (.inl v :: st) cb sb fs h Y) = true := hk
      refine hz.1 _ _ _ _ _ _ _ ?_
      obtain ⟨x, z, h1, h2, hk⟩ := sx_ldi_s hk hL
      show mj_ldi L' k.val (fun v => Z rest L' (v :: st') G M cb sb)
      unfold mj_ldi
      rw [h1]
      exact go sx_up.rf hk hL (hS.c h2.v) hH hY
    case iload k =>
      have hk : (sx_ldi L k fun v => K y d rest L (.inl v :: st) cb sb fs h Y) = true := hk
      refine hz.1 _ _ _ _ _ _ _ ?_
      obtain ⟨x, z, h1, h2, hk⟩ := sx_ldi_s hk hL
      show mj_ldi L' k (fun v => Z rest L' (v :: st') G M cb sb)
      unfold mj_ldi
      rw [h1]
      exact go sx_up.rf hk hL (hS.c h2.v) hH hY
    case lload_n k =>
      have hk : (sx_ldl L k.val fun v => K y d rest L (.inr (.inl v) :: st) cb sb fs h Y) = true := hk
      refine hz.1 _ _ _ _ _ _ _ ?_
      obtain ⟨x, h1, hk⟩ := sx_ldl_s hk hL
      show mj_ldl L' k.val (fun v => Z rest L' (v :: st') G M cb sb)
      unfold mj_ldl
      rw [h1]
      exact go sx_up.rf hk hL (hS.c sx_RV.l) hH hY
    case lload k =>
      have hk : (sx_ldl L k fun v => K y d rest L (.inr (.inl v) :: st) cb sb fs h Y) = true := hk
      refine hz.1 _ _ _ _ _ _ _ ?_
      obtain ⟨x, h1, hk⟩ := sx_ldl_s hk hL
      show mj_ldl L' k (fun v => Z rest L' (v :: st') G M cb sb)
      unfold mj_ldl
      rw [h1]
      exact go sx_up.rf hk hL (hS.c sx_RV.l) hH hY
    case aload_n k =>
      have hk : (sx_lda L k.val fun v => K y d rest L (.inr (.inr v) :: st) cb sb fs h Y) = true := hk
      refine hz.1 _ _ _ _ _ _ _ ?_
      obtain ⟨x, z, h1, h2, hk⟩ := sx_lda_s hk hL
      show mj_lda L' k.val (fun v => Z rest L' (v :: st') G M cb sb)
      unfold mj_lda
      rw [h1]
      exact go sx_up.rf hk hL (hS.c h2.v) hH hY
    case aload k =>
      have hk : (sx_lda L k fun v => K y d rest L (.inr (.inr v) :: st) cb sb fs h Y) = true := hk
      refine hz.1 _ _ _ _ _ _ _ ?_
      obtain ⟨x, z, h1, h2, hk⟩ := sx_lda_s hk hL
      show mj_lda L' k (fun v => Z rest L' (v :: st') G M cb sb)
      unfold mj_lda
      rw [h1]
      exact go sx_up.rf hk hL (hS.c h2.v) hH hY
    case istore_n k =>
      have hk : (sx_i1 st fun z st => K y d rest (sx_s1 L k.val (.inl z)) st cb sb fs h Y) = true := hk
      refine hz.1 _ _ _ _ _ _ _ ?_
      obtain ⟨x, t, z, t', rfl, hx, hS, hk⟩ := sx_i1_s hk hS
      exact go sx_up.rf hk (sx_s1_s hL hx.v) hS hH hY
    case istore k =>
      have hk : (sx_i1 st fun z st => K y d rest (sx_s1 L k (.inl z)) st cb sb fs h Y) = true := hk
      refine hz.1 _ _ _ _ _ _ _ ?_
      obtain ⟨x, t, z, t', rfl, hx, hS, hk⟩ := sx_i1_s hk hS
      exact go sx_up.rf hk (sx_s1_s hL hx.v) hS hH hY
    case astore_n k =>
      have hk : (sx_r1 st fun z st => K y d rest (sx_s1 L k.val (.inr (.inr z))) st cb sb fs h Y) = true := hk
      refine hz.1 _ _ _ _ _ _ _ ?_
      obtain ⟨x, t, z, t', rfl, hx, hS, hk⟩ := sx_r1_s hk hS
      exact go sx_up.rf hk (sx_s1_s hL hx.v) hS hH hY
    case astore k =>
      have hk : (sx_r1 st fun z st => K y d rest (sx_s1 L k (.inr (.inr z))) st cb sb fs h Y) = true := hk
      refine hz.1 _ _ _ _ _ _ _ ?_
      obtain ⟨x, t, z, t', rfl, hx, hS, hk⟩ := sx_r1_s hk hS
      exact go sx_up.rf hk (sx_s1_s hL hx.v) hS hH hY
    case iinc k c =>
      have hk : (sx_ldi L k fun v => sx_iv Y v fun lo hi => sx_ai Y (lo + c) (hi + c) (fun v Y => K y d rest (sx_s1 L k (.inl v)) st cb sb fs h Y) false) = true := hk
      refine hz.1 _ _ _ _ _ _ _ ?_
      obtain ⟨x, z, h1, h2, hk⟩ := sx_ldi_s hk hL
      obtain ⟨lo, hi, hk, h3, h4⟩ := sx_iv_s hk hY h2
      show mj_ldi L' k (fun v => mj_i1 [v] fun z _ => mj_in (z + c) ∧ Z rest (mj_s1 L' k (.inl (z + c))) st' G M cb sb)
      unfold mj_ldi
      rw [h1]
      rcases sx_ai_s (z := z + c) hk hY (by omega) (by omega) with ⟨u0, w', x', Y', u1, u2, u3, u4⟩ | hk
      · exact ⟨u0, go u1.1 u4 (sx_s1_s (hL.up u1.1) u3.v) (hS.up u1.1) (hH.up u1) u2⟩
      · cases hk
    case iconst z =>
      have hk : (K y d rest L (.inl (.inl z) :: st) cb sb fs h Y) = true := hk
      refine hz.1 _ _ _ _ _ _ _ ?_
      exact go sx_up.rf hk hL (hS.c (sx_RI.v rfl)) hH hY
    case bipush z =>
      have hk : (K y d rest L (.inl (.inl z) :: st) cb sb fs h Y) = true := hk
      refine hz.1 _ _ _ _ _ _ _ ?_
      exact go sx_up.rf hk hL (hS.c (sx_RI.v rfl)) hH hY
    case sipush z =>
      have hk : (K y d rest L (.inl (.inl z) :: st) cb sb fs h Y) = true := hk
      refine hz.1 _ _ _ _ _ _ _ ?_
      exact go sx_up.rf hk hL (hS.c (sx_RI.v rfl)) hH hY
    case ldc k =>
      have hk : (K y d rest L (.inl (.inl imm) :: st) cb sb fs h Y) = true := hk
      refine hz.1 _ _ _ _ _ _ _ ?_
      exact go sx_up.rf hk hL (hS.c (sx_RI.v rfl)) hH hY
    case ldc2_w k =>
      have hk : (K y d rest L (.inr (.inl (Int64.ofInt imm)) :: st) cb sb fs h Y) = true := hk
      refine hz.1 _ _ _ _ _ _ _ ?_
      exact go sx_up.rf hk hL (hS.c sx_RV.l) hH hY
    case lconst z =>
      have hk : (K y d rest L (.inr (.inl (Int64.ofNat z.val)) :: st) cb sb fs h Y) = true := hk
      refine hz.1 _ _ _ _ _ _ _ ?_
      exact go sx_up.rf hk hL (hS.c sx_RV.l) hH hY
    case aconst_null =>
      have hk : (K y d rest L (.inr (.inr none) :: st) cb sb fs h Y) = true := hk
      refine hz.1 _ _ _ _ _ _ _ ?_
      exact go sx_up.rf hk hL (hS.c (sx_RO.v (x := none) rfl)) hH hY
    case iadd =>
      have hk : (sx_op2 Y st sx_fadd fun v Y st => K y d rest L (.inl v :: st) cb sb fs h Y) = true := hk
      refine hz.1 _ _ _ _ _ _ _ ?_
      exact sx_op2_s (k' := fun st => Z rest L' st G M cb sb) hk hS hY sx_fadd_s (fun w' x z Y' t t' u1 u2 u3 u4 u5 => go u1.1 u5 (hL.up u1.1) (u4.c u3.v) (hH.up u1) u2)
    case isub =>
      have hk : (sx_op2 Y st sx_fsub fun v Y st => K y d rest L (.inl v :: st) cb sb fs h Y) = true := hk
      refine hz.1 _ _ _ _ _ _ _ ?_
      exact sx_op2_s (k' := fun st => Z rest L' st G M cb sb) hk hS hY sx_fsub_s (fun w' x z Y' t t' u1 u2 u3 u4 u5 => go u1.1 u5 (hL.up u1.1) (u4.c u3.v) (hH.up u1) u2)
    case imul =>
      have hk : (sx_op2 Y st sx_fmul fun v Y st => K y d rest L (.inl v :: st) cb sb fs h Y) = true := hk
      refine hz.1 _ _ _ _ _ _ _ ?_
      exact sx_op2_s (k' := fun st => Z rest L' st G M cb sb) hk hS hY sx_fmul_s (fun w' x z Y' t t' u1 u2 u3 u4 u5 => go u1.1 u5 (hL.up u1.1) (u4.c u3.v) (hH.up u1) u2)
    case iand =>
      have hk : (cond (Nat.beq y 900) (sx_opc y d rest L st cb sb fs h Y K) (sx_bit Y st true (fun x y => x &&& y) fun v Y st => K y d rest L (.inl v :: st) cb sb fs h Y)) = true := hk
      refine hz.1 _ _ _ _ _ _ _ ?_
      cases hy9 : Nat.beq y 900 with
      | true =>
        rw [hy9] at hk
        have hy9 := sx_beq hy9
        have hk : sx_opc y d rest L st cb sb fs h Y K = true := hk
        unfold sx_opc at hk
        obtain ⟨hfe, hk2⟩ := sx_nd hk
        have hfs : fs = [] := by cases fs with
          | nil => rfl
          | cons _ _ => cases hfe
        obtain ⟨v, t, zv, t', rfl, hv, hS, hk2⟩ := sx_i1_s hk2 hS
        obtain ⟨x, t, z, t', rfl, hx, hS3, hk2⟩ := sx_i1_s hk2 hS
        rw [hfs] at hF
        obtain ⟨hF1, s1, s2, s3, s4, s5⟩ := hF
        match x, hx, hk2 with
        | .inr 0, hx, hk2 =>
          have hk3 := sx_kn_s hk2 hY hv
          obtain ⟨g1, hk4⟩ := sx_cd hk3
          have g1 : zv = 63 := sx_eq_iff.mp g1
          intro z2 hz2 hz3
          rw [g1, ← hx.2, s4 0 (by decide), ← s5] at hz3
          exact go sx_up.rf hk4 hL (hS3.c (sx_RI.v (x := .inr 7) (z := z2) ⟨by omega, by rw [s4 7 (by decide), hz3]⟩)) hH hY
        | .inr (i + 1), hx, hk2 => cases hk2
        | .inl i, hx, hk2 => cases hk2
      | false =>
        rw [hy9] at hk
        dsimp only [cond_false] at hk
        exact sx_bit_s (k' := fun st => Z rest L' st G M cb sb) hk hS hY (fun _ => sx_and_in) (fun w' x z Y' t t' u1 u2 u3 u4 u5 => go u1.1 u5 (hL.up u1.1) (u4.c u3.v) (hH.up u1) u2)
    case ior =>
      have hk : (sx_bit Y st false (fun x y => x ||| y) fun v Y st => K y d rest L (.inl v :: st) cb sb fs h Y) = true := hk
      refine hz.1 _ _ _ _ _ _ _ ?_
      exact sx_bit_s (k' := fun st => Z rest L' st G M cb sb) hk hS hY (fun q => by cases q) (fun w' x z Y' t t' u1 u2 u3 u4 u5 => go u1.1 u5 (hL.up u1.1) (u4.c u3.v) (hH.up u1) u2)
    case ishl =>
      have hk : (sx_bit Y st false (fun x y => x <<< (y &&& 31)) fun v Y st => K y d rest L (.inl v :: st) cb sb fs h Y) = true := hk
      refine hz.1 _ _ _ _ _ _ _ ?_
      exact sx_bit_s (k' := fun st => Z rest L' st G M cb sb) hk hS hY (fun q => by cases q) (fun w' x z Y' t t' u1 u2 u3 u4 u5 => go u1.1 u5 (hL.up u1.1) (u4.c u3.v) (hH.up u1) u2)
    case ishr =>
      have hk : (sx_bit Y st false (fun x y => x >>> (y &&& 31)) fun v Y st => K y d rest L (.inl v :: st) cb sb fs h Y) = true := hk
      refine hz.1 _ _ _ _ _ _ _ ?_
      exact sx_bit_s (k' := fun st => Z rest L' st G M cb sb) hk hS hY (fun q => by cases q) (fun w' x z Y' t t' u1 u2 u3 u4 u5 => go u1.1 u5 (hL.up u1.1) (u4.c u3.v) (hH.up u1) u2)
    case iushr =>
      have hk : (sx_bit Y st false (fun x y => (x.toUInt32 >>> (y.toUInt32 &&& Int32.toUInt32 31)).toInt32) fun v Y st => K y d rest L (.inl v :: st) cb sb fs h Y) = true := hk
      refine hz.1 _ _ _ _ _ _ _ ?_
      exact sx_bit_s (k' := fun st => Z rest L' st G M cb sb) hk hS hY (fun q => by cases q) (fun w' x z Y' t t' u1 u2 u3 u4 u5 => go u1.1 u5 (hL.up u1.1) (u4.c u3.v) (hH.up u1) u2)
    case ineg =>
      have hk : (sx_un Y st (fun x => -x) fun v Y st => K y d rest L (.inl v :: st) cb sb fs h Y) = true := hk
      refine hz.1 _ _ _ _ _ _ _ ?_
      exact sx_un_s (k' := fun st => Z rest L' st G M cb sb) hk hS hY (fun w' x z Y' t t' u1 u2 u3 u4 u5 => go u1.1 u5 (hL.up u1.1) (u4.c u3.v) (hH.up u1) u2)
    case i2b =>
      have hk : (sx_un Y st (fun x => x.toInt8.toInt32) fun v Y st => K y d rest L (.inl v :: st) cb sb fs h Y) = true := hk
      refine hz.1 _ _ _ _ _ _ _ ?_
      exact sx_un_s (k' := fun st => Z rest L' st G M cb sb) hk hS hY (fun w' x z Y' t t' u1 u2 u3 u4 u5 => go u1.1 u5 (hL.up u1.1) (u4.c u3.v) (hH.up u1) u2)
    case dup =>
      have hk : (sx_c1 st fun v st => K y d rest L (v :: v :: st) cb sb fs h Y) = true := hk
      refine hz.1 _ _ _ _ _ _ _ ?_
      obtain ⟨x, t, v, t', rfl, hx, hv, hS, hk⟩ := sx_c1_s hk hS
      exact sx_c1_i (k := fun v st => Z rest L' (v :: v :: st) G M cb sb) hv (go sx_up.rf hk hL ((hS.c hx).c hx) hH hY)
    case dup2 =>
      have hk : (sx_c1 st fun v st => sx_c1 st fun w st => K y d rest L (v :: w :: v :: w :: st) cb sb fs h Y) = true := hk
      refine hz.1 _ _ _ _ _ _ _ ?_
      obtain ⟨x, t, v, t', rfl, hx, hv, hS, hk⟩ := sx_c1_s hk hS
      obtain ⟨x2, t, v2, t', rfl, hx2, hv2, hS, hk⟩ := sx_c1_s hk hS
      exact sx_c1_i (k := fun v st => mj_c1 st fun w st => Z rest L' (v :: w :: v :: w :: st) G M cb sb) hv (sx_c1_i (k := fun u st => Z rest L' (v :: u :: v :: u :: st) G M cb sb) hv2 (go sx_up.rf hk hL ((((hS.c hx2).c hx).c hx2).c hx) hH hY))
    case pop =>
      have hk : (sx_c1 st fun _ st => K y d rest L st cb sb fs h Y) = true := hk
      refine hz.1 _ _ _ _ _ _ _ ?_
      obtain ⟨x, t, v, t', rfl, hx, hv, hS, hk⟩ := sx_c1_s hk hS
      exact sx_c1_i (k := fun _ st => Z rest L' st G M cb sb) hv (go sx_up.rf hk hL hS hH hY)
    case ifCond c o =>
      have hk : (sx_i1 st fun z st => sx_br c Y z (.inl (.ofNat 0)) (fun Y => K y d ((sx_full y).drop (mj_hd aux)) L st cb sb fs h Y) (fun Y => K y d rest L st cb sb fs h Y)) = true := hk
      refine hz.1 _ _ _ _ _ _ _ ?_
      obtain ⟨x, t, z, t', rfl, hx, hS, hk⟩ := sx_i1_s hk hS
      exact sx_br_s hk hY hx (zy := 0) rfl (fun Y' u1 u2 => go sx_up.rf u2 hL hS hH u1) (fun Y' u1 u2 => go sx_up.rf u2 hL hS hH u1)
    case if_icmp c o =>
      have hk : (sx_i1 st fun v st => sx_i1 st fun z st => sx_br c Y z v (fun Y => K y d ((sx_full y).drop (mj_hd aux)) L st cb sb fs h Y) (fun Y => K y d rest L st cb sb fs h Y)) = true := hk
      refine hz.1 _ _ _ _ _ _ _ ?_
      obtain ⟨v, t, zv, t', rfl, hv, hS, hk⟩ := sx_i1_s hk hS
      obtain ⟨x, t, z, t', rfl, hx, hS, hk⟩ := sx_i1_s hk hS
      exact sx_br_s hk hY hx hv (fun Y' u1 u2 => go sx_up.rf u2 hL hS hH u1) (fun Y' u1 u2 => go sx_up.rf u2 hL hS hH u1)
    case ifnull o =>
      have hk : (sx_r1 st fun z st => match z with
            | none => K y d ((sx_full y).drop (mj_hd aux)) L st cb sb fs h Y
            | some _ => K y d rest L st cb sb fs h Y) = true := hk
      refine hz.1 _ _ _ _ _ _ _ ?_
      obtain ⟨x, t, z, t', rfl, hx, hS2, hk⟩ := sx_r1_s hk hS
      cases x with
      | none =>
        obtain rfl : z = none := hx
        exact ⟨fun _ => go sx_up.rf hk hL hS2 hH hY, fun q => absurd rfl q⟩
      | some i =>
        obtain ⟨-, rfl⟩ := hx
        exact ⟨(fun q => by cases q), fun _ => go sx_up.rf hk hL hS2 hH hY⟩
    case ifnonnull o =>
      have hk : (sx_r1 st fun z st => match z with
            | some _ => K y d ((sx_full y).drop (mj_hd aux)) L st cb sb fs h Y
            | none => K y d rest L st cb sb fs h Y) = true := hk
      refine hz.1 _ _ _ _ _ _ _ ?_
      obtain ⟨x, t, z, t', rfl, hx, hS2, hk⟩ := sx_r1_s hk hS
      cases x with
      | none =>
        obtain rfl : z = none := hx
        exact ⟨fun q => absurd rfl q, fun _ => go sx_up.rf hk hL hS2 hH hY⟩
      | some i =>
        obtain ⟨-, rfl⟩ := hx
        exact ⟨fun _ => go sx_up.rf hk hL hS2 hH hY, fun q => absurd (fun e => by cases e) q⟩
    case goto o =>
      have hk : (K y d ((sx_full y).drop (mj_hd aux)) L st cb sb fs h Y) = true := hk
      refine hz.1 _ _ _ _ _ _ _ ?_
      exact go sx_up.rf hk hL hS hH hY
    case getfield k =>
      have hk : (!aux.isEmpty && sx_get (mj_hd aux) (mj_h1 aux) st h fun st => K y d rest L st cb sb fs h Y) = true := hk
      refine hz.1 _ _ _ _ _ _ _ ?_
      obtain ⟨h0, hk⟩ := sx_nd hk
      have hne : aux ≠ [] := fun q => by rw [q] at h0; cases h0
      exact ⟨hne, sx_get_s (k' := fun st => Z rest L' st G M cb sb) hk hS hH (fun t t' u1 u2 => go sx_up.rf u1 hL u2 hH hY)⟩
    case putfield k =>
      have hk : (!aux.isEmpty && sx_put (mj_hd aux) (mj_h1 aux) Y st h fun st h => K y d rest L st cb sb fs h Y) = true := hk
      refine hz.1 _ _ _ _ _ _ _ ?_
      obtain ⟨h0, hk⟩ := sx_nd hk
      have hne : aux ≠ [] := fun q => by rw [q] at h0; cases h0
      exact ⟨hne, sx_put_s (k' := fun st M => Z rest L' st G M cb sb) hk hS hH hY (fun t t' h' M' u1 u2 u3 => go sx_up.rf u1 hL u2 u3 hY)⟩
    case iaload =>
      have hk : (cond (Nat.beq y 900) (sx_scl y d rest L st cb sb fs h Y K) (sx_ix Y st h fun _ t k c Y st => cond (Nat.beq (Nat.mod t 1000) 100) (K y d rest L (.inl (sx_g c.2.2.1 k) :: st) cb sb fs h Y) false)) = true := hk
      cases hy9 : Nat.beq y 900 with
      | true =>
        rw [hy9] at hk
        have hy9 := sx_beq hy9
        have hk : sx_scl y d rest L st cb sb fs h Y K = true := hk
        unfold sx_scl at hk
        obtain ⟨hfe, hk2⟩ := sx_nd hk
        have hfs : fs = [] := by cases fs with
          | nil => rfl
          | cons _ _ => cases hfe
        obtain ⟨x, t, z, t', rfl, hx, hS, hk2⟩ := sx_i1_s hk2 hS
        obtain ⟨i, t, t', rfl, hi, hS3, hk2⟩ := sx_a1_s hk2 hS
        have hk2 := sx_kn_s hk2 hY hx
        rw [hfs] at hF
        obtain ⟨hF1, s1, s2, s3, s4, s5⟩ := hF
        obtain ⟨lo, hi', hk2, l1, l2⟩ := sx_iv_s hk2 hY (x := .inr 6) (z := q.2 6) ⟨by omega, s4 6 (by decide)⟩
        obtain ⟨hc, hk3⟩ := sx_cd hk2
        obtain ⟨g1, hc⟩ := sx_nd hc
        obtain ⟨g2, hc⟩ := sx_nd hc
        obtain ⟨g3, g4⟩ := sx_nd hc
        have g1 := sx_beq g1
        subst g1
        have g2 : 0 ≤ z := sx_le_iff.mp g2
        have g3 : z < lo := by
          rw [Bool.not_eq_true'] at g3
          exact sx_le_no (x := lo) (y := z) (by rw [g3]; exact Bool.false_ne_true)
        have g4 := sx_blt g4
        rw [s2]
        exact (hz.2 hfs hy9).2.1 pc aux imm rest L' t' G M cb sb z g2 (by omega) (go sx_up.rf hk3 hL (hS3.c (sx_RI.v (x := .inr z.toNat) (z := q.2 z.toNat) ⟨by omega, s4 _ (by omega)⟩)) hH hY)
      | false =>
        rw [hy9] at hk
        dsimp only [cond_false] at hk
        refine hz.1 _ _ _ _ _ _ _ ?_
        obtain ⟨i, z, Y', t, t', rfl, hi, hY', hS, z0, z1, z2, hk⟩ := sx_ix_s hk hS hY
        obtain ⟨c1, c2, c3⟩ := hH.2.2.1 i (by rw [hH.1]; exact hi)
        obtain ⟨d1, d2, d3⟩ := c3 _ z2
        obtain ⟨ht, hk⟩ := sx_cd hk
        exact ⟨_, _, c1, sx_beq ht, z0, z1, go sx_up.rf hk hL (hS.c d1.v) hH hY'⟩
    case baload =>
      have hk : (sx_ix Y st h fun _ t k c Y st => cond (Nat.beq (Nat.mod t 1000) 101 || Nat.beq (Nat.mod t 1000) 102) (K y d rest L (.inl (sx_g c.2.2.1 k) :: st) cb sb fs h Y) false) = true := hk
      refine hz.1 _ _ _ _ _ _ _ ?_
      obtain ⟨i, z, Y', t, t', rfl, hi, hY', hS, z0, z1, z2, hk⟩ := sx_ix_s hk hS hY
      obtain ⟨c1, c2, c3⟩ := hH.2.2.1 i (by rw [hH.1]; exact hi)
      obtain ⟨d1, d2, d3⟩ := c3 _ z2
      obtain ⟨ht, hk⟩ := sx_cd hk
      rw [Bool.or_eq_true] at ht
      rcases ht with ht | ht
      · exact Or.inl ⟨_, _, c1, sx_beq ht, z0, z1, go sx_up.rf hk hL (hS.c d1.v) hH hY'⟩
      · exact Or.inr ⟨_, _, c1, sx_beq ht, z0, z1, go sx_up.rf hk hL (hS.c d1.v) hH hY'⟩
    case laload =>
      have hk : (sx_ix Y st h fun _ t k c Y st => cond (Nat.beq (Nat.mod t 1000) 103) (K y d rest L (.inr (.inl (sx_g c.2.2.2.1 k)) :: st) cb sb fs h Y) false) = true := hk
      refine hz.1 _ _ _ _ _ _ _ ?_
      obtain ⟨i, z, Y', t, t', rfl, hi, hY', hS, z0, z1, z2, hk⟩ := sx_ix_s hk hS hY
      obtain ⟨c1, c2, c3⟩ := hH.2.2.1 i (by rw [hH.1]; exact hi)
      obtain ⟨d1, d2, d3⟩ := c3 _ z2
      obtain ⟨ht, hk⟩ := sx_cd hk
      exact ⟨_, _, c1, sx_beq ht, z0, z1, go sx_up.rf hk hL (hS.c (by rw [← d2]; exact sx_RV.l)) hH hY'⟩
    case aaload =>
      have hk : (sx_ix Y st h fun _ t k c Y st => cond (Nat.beq (Nat.mod t 1000) (100 + mj_hd aux)) (K y d rest L (.inr (.inr (sx_g c.2.2.2.2 k)) :: st) cb sb fs h Y) false) = true := hk
      refine hz.1 _ _ _ _ _ _ _ ?_
      obtain ⟨i, z, Y', t, t', rfl, hi, hY', hS, z0, z1, z2, hk⟩ := sx_ix_s hk hS hY
      obtain ⟨c1, c2, c3⟩ := hH.2.2.1 i (by rw [hH.1]; exact hi)
      obtain ⟨d1, d2, d3⟩ := c3 _ z2
      obtain ⟨ht, hk⟩ := sx_cd hk
      exact ⟨_, _, c1, sx_beq ht, z0, z1, fun b hb => go sx_up.rf hk hL (hS.c (sx_RO.v (hb ▸ d3))) hH hY', fun hb => go sx_up.rf hk hL (hS.c (sx_RO.v (hb ▸ d3))) hH hY'⟩
    case iastore =>
      have hk : (sx_i1 st fun z st => sx_ix Y st h fun i t k _ Y st => cond (Nat.beq (Nat.mod t 1000) 100 && Nat.blt t 900000) (sx_p0 h i k z fun h => K y d rest L st cb sb fs h Y) false) = true := hk
      refine hz.1 _ _ _ _ _ _ _ ?_
      obtain ⟨x, t, zx, t', rfl, hx, hS, hk⟩ := sx_i1_s hk hS
      obtain ⟨i, z, Y', t, t', rfl, hi, hY', hS, z0, z1, z2, hk⟩ := sx_ix_s hk hS hY
      obtain ⟨c1, c2, c3⟩ := hH.2.2.1 i (by rw [hH.1]; exact hi)
      obtain ⟨d1, d2, d3⟩ := c3 _ z2
      obtain ⟨ht, hk⟩ := sx_cd hk
      obtain ⟨ht, h9⟩ := sx_nd ht
      obtain ⟨h', u1, u2⟩ := sx_p0_s hk hH hi hx
      exact ⟨_, _, c1, sx_beq ht, sx_blt h9, z0, z1, go sx_up.rf u2 hL hS u1 hY'⟩
    case bastore =>
      have hk : (sx_i1 st fun z st => sx_ix Y st h fun i t k _ Y st => cond (Nat.blt t 900000) (cond (Nat.beq (Nat.mod t 1000) 101) (sx_iv Y z fun a b => cond (sx_eq a b) (sx_fi (mj_nb a) fun z => sx_p0 h i k (.inl z) fun h => K y d rest L st cb sb fs h Y) (sx_ff Y fun z Y => sx_p0 h i k z fun h => K y d rest L st cb sb fs h Y)) (cond (Nat.beq (Nat.mod t 1000) 102 && sx_tf Y z) (sx_p0 h i k z fun h => K y d rest L st cb sb fs h Y) false)) false) = true := hk
      refine hz.1 _ _ _ _ _ _ _ ?_
      obtain ⟨x, t, zx, t', rfl, hx, hS, hk⟩ := sx_i1_s hk hS
      obtain ⟨i, z, Y', t, t', rfl, hi, hY', hS, z0, z1, z2, hk⟩ := sx_ix_s hk hS hY
      obtain ⟨c1, c2, c3⟩ := hH.2.2.1 i (by rw [hH.1]; exact hi)
      obtain ⟨d1, d2, d3⟩ := c3 _ z2
      obtain ⟨ht, hk⟩ := sx_cd hk
      cases e1 : Nat.beq (Nat.mod (sx_g h.2 i).1 1000) 101 with
      | true =>
        rw [e1] at hk
        dsimp only [cond_true] at hk
        obtain ⟨a, b, hk, h3, h4⟩ := sx_iv_s hk hY' hx
        cases e2 : sx_eq a b with
        | true =>
          rw [e2] at hk
          dsimp only [cond_true] at hk
          have e2 := sx_eq_iff.mp e2
          rw [sx_fi_eq] at hk
          obtain ⟨h', u1, u2⟩ := sx_p0_s (z := mj_nb zx) hk hH hi (by show mj_nb a = mj_nb zx; rw [show a = zx by omega])
          exact Or.inl ⟨_, _, c1, sx_beq e1, sx_blt ht, z0, z1, go sx_up.rf u2 hL hS u1 hY'⟩
        | false =>
          rw [e2] at hk
          obtain ⟨w', x', Y2, v1, v2, v3, v4⟩ := sx_ff_s (z := mj_nb zx) hk hY' (mj_rng _)
          obtain ⟨h', u1, u2⟩ := sx_p0_s v4 (hH.up v1) (Nat.lt_of_lt_of_le hi v1.1.2.2.1) v3
          rw [v1.1.2.2.2 i hi] at u1
          exact Or.inl ⟨_, _, c1, sx_beq e1, sx_blt ht, z0, z1, go v1.1 u2 (hL.up v1.1) (hS.up v1.1) u1 v2⟩
      | false =>
        rw [e1] at hk
        dsimp only [cond_false] at hk
        obtain ⟨hb, hk⟩ := sx_cd hk
        obtain ⟨hb, hb2⟩ := sx_nd hb
        obtain ⟨h', u1, u2⟩ := sx_p0_s hk hH hi hx
        exact Or.inr ⟨sx_tf_s hb2 hY' hx, _, _, c1, sx_beq hb, sx_blt ht, z0, z1, go sx_up.rf u2 hL hS u1 hY'⟩
    case lastore =>
      have hk : (sx_l1 st fun z st => sx_ix Y st h fun i t k _ Y st => cond (Nat.beq (Nat.mod t 1000) 103 && Nat.blt t 900000) (sx_p1 h i k z fun h => K y d rest L st cb sb fs h Y) false) = true := hk
      refine hz.1 _ _ _ _ _ _ _ ?_
      obtain ⟨x, t, t', rfl, hS, hk⟩ := sx_l1_s hk hS
      obtain ⟨i, z, Y', t, t', rfl, hi, hY', hS, z0, z1, z2, hk⟩ := sx_ix_s hk hS hY
      obtain ⟨c1, c2, c3⟩ := hH.2.2.1 i (by rw [hH.1]; exact hi)
      obtain ⟨d1, d2, d3⟩ := c3 _ z2
      obtain ⟨ht, hk⟩ := sx_cd hk
      obtain ⟨ht, h9⟩ := sx_nd ht
      obtain ⟨h', u1, u2⟩ := sx_p1_s hk hH hi
      exact ⟨_, _, c1, sx_beq ht, sx_blt h9, z0, z1, go sx_up.rf u2 hL hS u1 hY'⟩
    case aastore =>
      have hk : (sx_r1 st fun z st => sx_ix Y st h fun i t k _ Y st => cond (Nat.beq (Nat.mod t 1000) (100 + mj_hd aux) && Nat.blt t 900000) (match z with
            | none => sx_p2 h i k none fun h => K y d rest L st cb sb fs h Y
            | some b => sx_cl h b fun tb _ _ _ _ => cond (Nat.beq (mj_hd aux) 6 && Nat.beq (Nat.mod tb 1000) 7) (sx_p2 h i k (some b) fun h => K y d rest L st cb sb fs h Y) false) false) = true := hk
      refine hz.1 _ _ _ _ _ _ _ ?_
      obtain ⟨x, t, r, t', rfl, hx, hS, hk⟩ := sx_r1_s hk hS
      obtain ⟨i, z, Y', t, t', rfl, hi, hY', hS, z0, z1, z2, hk⟩ := sx_ix_s hk hS hY
      obtain ⟨c1, c2, c3⟩ := hH.2.2.1 i (by rw [hH.1]; exact hi)
      obtain ⟨d1, d2, d3⟩ := c3 _ z2
      obtain ⟨ht, hk⟩ := sx_cd hk
      obtain ⟨ht, h9⟩ := sx_nd ht
      have hS2 := hS
      cases x with
      | none =>
        obtain ⟨h', u1, u2⟩ := sx_p2_s hk hH hi hx
        obtain rfl : r = none := hx
        exact ⟨_, _, c1, sx_beq ht, sx_blt h9, z0, z1, (fun b hb => by cases hb), go sx_up.rf u2 hL hS2 u1 hY'⟩
      | some b =>
        have hk := (sx_cl_eq _ _ _).symm.trans hk
        obtain ⟨hb, hk⟩ := sx_cd hk
        obtain ⟨hb, hb2⟩ := sx_nd hb
        obtain ⟨h', u1, u2⟩ := sx_p2_s hk hH hi hx
        obtain ⟨hbl, rfl⟩ := hx
        obtain ⟨e1, e2, e3⟩ := hH.2.2.1 b (by rw [hH.1]; exact hbl)
        exact ⟨_, _, c1, sx_beq ht, sx_blt h9, z0, z1, (fun b' hb' => by cases hb'; exact ⟨sx_beq hb, _, _, e1, sx_beq hb2, trivial⟩), go sx_up.rf u2 hL hS2 u1 hY'⟩
    case tableswitch df lo hi offs =>
      have hk : (sx_i1 st fun z st => sx_iv Y z fun a b => (cond (sx_le lo a) true (K y d ((sx_full y).drop (mj_hd aux)) L st cb sb fs h (sx_rf1 .lt Y z a b lo lo)) && cond (sx_le b hi) true (K y d ((sx_full y).drop (mj_hd aux)) L st cb sb fs h (sx_rf1 .gt Y z a b hi hi))) && sx_swt Y a b (fun t Y => K y d ((sx_full y).drop t) L st cb sb fs h Y) z lo (aux.drop 1)) = true := hk
      refine hz.1 _ _ _ _ _ _ _ ?_
      obtain ⟨x, t, z, t', rfl, hx, hS, hk⟩ := sx_i1_s hk hS
      obtain ⟨a, b, hk, h1, h2⟩ := sx_iv_s hk hY hx
      obtain ⟨hk, hk3⟩ := sx_nd hk
      obtain ⟨hk1, hk2⟩ := sx_nd hk
      refine ⟨fun q => ?_, sx_swt_s hY hx h1 h2 (fun t Y' u1 u2 => go sx_up.rf u2 hL hS hH u1) _ _ hk3⟩
      rcases q with q | q
      · exact go sx_up.rf (sx_cf hk1 (fun e => by have := sx_le_iff.mp e; omega)) hL hS hH (sx_rf1_s (q := lo) hY hx q h1 h2 (Int.le_refl _) (Int.le_refl _))
      · exact go sx_up.rf (sx_cf hk2 (fun e => by have := sx_le_iff.mp e; omega)) hL hS hH (sx_rf1_s (q := hi) (c := .gt) hY hx q h1 h2 (Int.le_refl _) (Int.le_refl _))
    case arraylength =>
      have hk : (cond (Nat.beq y 900) (sx_sln y d rest L st cb sb fs h Y K) (sx_a1 st fun i st => sx_cl h i fun t n _ _ _ => cond (Nat.ble 100 (Nat.mod t 1000) && (Nat.blt (Nat.mod t 1000) 107 && Nat.ble n 4096)) (K y d rest L (.inl (.inl (.ofNat n)) :: st) cb sb fs h Y) false)) = true := hk
      cases hy9 : Nat.beq y 900 with
      | true =>
        rw [hy9] at hk
        have hy9 := sx_beq hy9
        have hk : sx_sln y d rest L st cb sb fs h Y K = true := hk
        unfold sx_sln at hk
        obtain ⟨hfe, hk2⟩ := sx_nd hk
        have hfs : fs = [] := by cases fs with
          | nil => rfl
          | cons _ _ => cases hfe
        obtain ⟨i, t, t', rfl, hi, hS3, hk2⟩ := sx_a1_s hk2 hS
        obtain ⟨g1, hk3⟩ := sx_cd hk2
        have g1 := sx_beq g1
        subst g1
        rw [hfs] at hF
        obtain ⟨hF1, s1, s2, s3, s4, s5⟩ := hF
        rw [s2]
        exact (hz.2 hfs hy9).2.2 pc aux imm rest L' t' G M cb sb (go sx_up.rf hk3 hL (hS3.c (sx_RI.v (x := .inr 6) (z := q.2 6) ⟨by omega, s4 6 (by decide)⟩)) hH hY)
      | false =>
        rw [hy9] at hk
        dsimp only [cond_false] at hk
        refine hz.1 _ _ _ _ _ _ _ ?_
        obtain ⟨i, t, t', rfl, hi, hS, hk⟩ := sx_a1_s hk hS
        rw [sx_cl_eq] at hk
        obtain ⟨hc, hk⟩ := sx_cd hk
        obtain ⟨g1, hc⟩ := sx_nd hc
        obtain ⟨g2, g3⟩ := sx_nd hc
        obtain ⟨c1, c2, c3⟩ := hH.2.2.1 i (by rw [hH.1]; exact hi)
        have g1 : 100 ≤ (sx_g h.2 i).1 % 1000 := sx_ble g1
        have g2 : (sx_g h.2 i).1 % 1000 < 107 := sx_blt g2
        have g3 := sx_ble g3
        exact ⟨_, _, (sx_g h.2 i).1 % 1000 - 100, c1, by omega, by omega, ⟨by omega, by omega⟩, go sx_up.rf hk hL (hS.c (sx_RI.v rfl)) hH hY⟩
    case newarray k =>
      have hk : (sx_i1 st fun z st => sx_kn Y z fun z => cond (sx_le (.ofNat 0) z && (Nat.ble z.toNat 4096 && (Nat.ble 1 cb && (Nat.ble z.toNat sb && Nat.blt (mj_hd aux) 4)))) (sx_nw h (1100 + mj_hd aux) z.toNat fun i h => K y d rest L (.inr (.inr (some i)) :: st) (cb - 1) (sb - z.toNat) fs h Y) false) = true := hk
      refine hz.1 _ _ _ _ _ _ _ ?_
      obtain ⟨x, t, z, t', rfl, hx, hS, hk⟩ := sx_i1_s hk hS
      have hk := sx_kn_s hk hY hx
      obtain ⟨hc, hk⟩ := sx_cd hk
      obtain ⟨g1, hc⟩ := sx_nd hc
      obtain ⟨g2, hc⟩ := sx_nd hc
      obtain ⟨g3, hc⟩ := sx_nd hc
      obtain ⟨g4, g5⟩ := sx_nd hc
      have g1 : 0 ≤ z := sx_le_iff.mp g1
      have g2 := sx_ble g2
      have g5 := sx_blt g5
      refine ⟨g1, by omega, sx_ble g3, sx_ble g4, 1100 + mj_hd aux, (by show (1100 + mj_hd aux) % 1000 = 100 + mj_hd aux; omega), fun a ha => ?_⟩
      obtain ⟨h', u1, u2⟩ := sx_nw_s hk hH (by omega) ha
      exact go sx_wn_up u2 (hL.up sx_wn_up) ((hS.up sx_wn_up).c sx_wn_top.v) u1 hY.wn
    case anewarray k =>
      have hk : (sx_i1 st fun z st => sx_kn Y z fun z => cond (sx_le (.ofNat 0) z && (Nat.ble z.toNat 4096 && (Nat.ble 1 cb && (Nat.ble z.toNat sb && Nat.blt (mj_hd aux) 7)))) (sx_nw h (1100 + mj_hd aux) z.toNat fun i h => K y d rest L (.inr (.inr (some i)) :: st) (cb - 1) (sb - z.toNat) fs h Y) false) = true := hk
      refine hz.1 _ _ _ _ _ _ _ ?_
      obtain ⟨x, t, z, t', rfl, hx, hS, hk⟩ := sx_i1_s hk hS
      have hk := sx_kn_s hk hY hx
      obtain ⟨hc, hk⟩ := sx_cd hk
      obtain ⟨g1, hc⟩ := sx_nd hc
      obtain ⟨g2, hc⟩ := sx_nd hc
      obtain ⟨g3, hc⟩ := sx_nd hc
      obtain ⟨g4, g5⟩ := sx_nd hc
      have g1 : 0 ≤ z := sx_le_iff.mp g1
      have g2 := sx_ble g2
      have g5 := sx_blt g5
      refine ⟨g1, by omega, sx_ble g3, sx_ble g4, 1100 + mj_hd aux, (by show (1100 + mj_hd aux) % 1000 = 100 + mj_hd aux; omega), fun a ha => ?_⟩
      obtain ⟨h', u1, u2⟩ := sx_nw_s hk hH (by omega) ha
      exact go sx_wn_up u2 (hL.up sx_wn_up) ((hS.up sx_wn_up).c sx_wn_top.v) u1 hY.wn
    case multianewarray k k2 =>
      have hk : (sx_i1 st fun z st => sx_i1 st fun v st => sx_kn Y z fun z => sx_kn Y v fun v => cond (sx_le (.ofNat 0) z && (sx_le (.ofNat 0) v && (Nat.ble z.toNat 1000 && (Nat.ble v.toNat 1000 && (Nat.ble (1 + v.toNat) cb && Nat.ble (v.toNat + v.toNat * z.toNat) sb))))) (sx_nw h 1104 v.toNat fun i h => sx_rws 1100 z.toNat v.toNat h fun h => sx_cl h i fun t n a b c => sx_rfs (i + 1) v.toNat c fun c => sx_pt h i (t, n, a, b, c) fun h => K y d rest L (.inr (.inr (some i)) :: st) (cb - (1 + v.toNat)) (sb - (v.toNat + v.toNat * z.toNat)) fs h Y) false) = true := hk
      refine hz.1 _ _ _ _ _ _ _ ?_
      obtain ⟨x, t, z, t', rfl, hx, hS, hk⟩ := sx_i1_s hk hS
      obtain ⟨v, t, zv, t', rfl, hv, hS, hk⟩ := sx_i1_s hk hS
      have hk := sx_kn_s (sx_kn_s hk hY hx) hY hv
      obtain ⟨hc, hk⟩ := sx_cd hk
      obtain ⟨g1, hc⟩ := sx_nd hc
      obtain ⟨g2, hc⟩ := sx_nd hc
      obtain ⟨g3, hc⟩ := sx_nd hc
      obtain ⟨g4, hc⟩ := sx_nd hc
      obtain ⟨g5, g6⟩ := sx_nd hc
      have g1 : 0 ≤ z := sx_le_iff.mp g1
      have g2 : 0 ≤ zv := sx_le_iff.mp g2
      have g3 := sx_ble g3
      have g4 := sx_ble g4
      refine ⟨g1, by omega, g2, by omega, sx_ble g5, sx_ble g6, 1104, 1100, by decide, by decide, fun a ha => ?_⟩
      obtain ⟨h', u1, u2⟩ := sx_mul_s (k := fun i h => K y d rest L (.inr (.inr (some i)) :: t) (cb - (1 + zv.toNat)) (sb - (zv.toNat + zv.toNat * z.toNat)) fs h Y) hk hH ha
      exact go sx_wn_up u2 (hL.up sx_wn_up) ((hS.up sx_wn_up).c (sx_RO.v (by rw [Nat.add_comm 1]; exact sx_wn_top))) u1 hY.wn
    case new k =>
      have hk : (cond (!aux.isEmpty && (Nat.ble 1 cb && (Nat.ble (mj_h1 aux) sb && Nat.blt (mj_hd aux) 90))) (sx_nw h (1001 + mj_hd aux) 0 fun i h => K y d rest L (.inr (.inr (some i)) :: st) (cb - 1) (sb - mj_h1 aux) fs h Y) false) = true := hk
      refine hz.1 _ _ _ _ _ _ _ ?_
      obtain ⟨hc, hk⟩ := sx_cd hk
      obtain ⟨h0, hc⟩ := sx_nd hc
      obtain ⟨g3, hc⟩ := sx_nd hc
      obtain ⟨g4, g5⟩ := sx_nd hc
      have g5 := sx_blt g5
      have hne : aux ≠ [] := fun q => by rw [q] at h0; cases h0
      refine ⟨hne, sx_ble g3, sx_ble g4, 1001 + mj_hd aux, (by show (1001 + mj_hd aux) % 1000 = mj_hd aux + 1; omega), fun a ha => ?_⟩
      obtain ⟨h', u1, u2⟩ := sx_nw_s hk hH (by omega) ha
      exact go sx_wn_up u2 (hL.up sx_wn_up) ((hS.up sx_wn_up).c sx_wn_top.v) u1 hY.wn
    case invokevirtual k =>
      have hk : (!aux.isEmpty && sx_pop (mj_h1 aux) [] st fun As st => sx_a1 st fun a st => sx_cl h a fun t _ _ _ _ => cond (Nat.beq (Nat.mod t 1000) (mj_h2 aux + 1)) (sx_call K y d rest L st cb sb fs h Y (mj_hd aux) (.inr (.inr (some a)) :: As)) false) = true := hk
      refine hz.1 _ _ _ _ _ _ _ ?_
      obtain ⟨h0, hk⟩ := sx_nd hk
      have hne : aux ≠ [] := fun q => by rw [q] at h0; cases h0
      refine ⟨hne, sx_pop_s _ hk rfl hS (fun A t A' t' hA hS hk => ?_)⟩
      obtain ⟨i, t, t2, rfl, hi, hS, hk⟩ := sx_a1_s hk hS
      rw [sx_cl_eq] at hk
      obtain ⟨ht, hk⟩ := sx_cd hk
      obtain ⟨c1, c2, c3⟩ := hH.2.2.1 i (by rw [hH.1]; exact hi)
      exact ⟨_, _, c1, sx_beq ht, sx_call_s hK hk hz hL hS (hA.c (sx_RO.v ⟨hi, rfl⟩)) hF hH hY⟩
    case invokestatic k =>
      match aux, hk with
      | [], hk =>
        have hk : (cond (Nat.beq y 900) (sx_tl K y d rest L st cb sb fs h Y) false) = true := hk
        obtain ⟨hy, hk⟩ := sx_cd hk
        have hy := sx_beq hy
        subst hy
        cases fs with
        | cons f fs => cases hk
        | nil =>
          have hk : sx_told K 900 d rest L st cb sb [] h Y = true := hk
          unfold sx_told at hk
          obtain ⟨x1, t, o1, t', rfl, -, hS, hk⟩ := sx_r1_s hk hS
          obtain ⟨x2, t, z2, t', rfl, -, hS, hk⟩ := sx_i1_s hk hS
          obtain ⟨x3, t, z3, t', rfl, -, hS, hk⟩ := sx_i1_s hk hS
          obtain ⟨i, t, t', rfl, hi, hS, hk⟩ := sx_a1_s hk hS
          rw [sx_cl_eq] at hk
          obtain ⟨a1, a2, a3⟩ := hH.2.2.1 i (by rw [hH.1]; exact hi)
          have a4 := (a3 1 (by decide)).2.2
          split at hk
          · cases hk
          · rename_i b hb
            rw [hb] at a4
            obtain ⟨hbl, a4⟩ := a4
            rw [sx_cl_eq] at hk
            obtain ⟨b1, b2, b3⟩ := hH.2.2.1 b (by rw [hH.1]; exact hbl)
            have b4 := (b3 0 (by decide)).2.2
            split at hk
            · cases hk
            · rename_i c hc
              rw [hc] at b4
              obtain ⟨hcl, b4⟩ := b4
              rw [sx_cl_eq] at hk
              obtain ⟨c1, c2, c3⟩ := hH.2.2.1 c (by rw [hH.1]; exact hcl)
              have hk := sx_kn_s hk hY (c3 4 (by decide)).1
              obtain ⟨hc, hk⟩ := sx_cd hk
              obtain ⟨g1, hc⟩ := sx_nd hc
              obtain ⟨g2, hc⟩ := sx_nd hc
              obtain ⟨g3, hc⟩ := sx_nd hc
              obtain ⟨g4, hc⟩ := sx_nd hc
              obtain ⟨g5, hc⟩ := sx_nd hc
              obtain ⟨g6, g7⟩ := sx_nd hc
              exact (hz.2 rfl rfl).1 k pc imm rest L' t' G M cb sb o1 z2 z3 _ _ _ _ _ _ _ _ _ a1 (sx_beq g1) a4 b1 (sx_beq g2) b4 c1 (sx_beq g3) (sx_eq_iff.mp g4) (by rw [← sx_cat_s hS]; exact sx_ble g5) (sx_ble g6) (sx_ble g7) (go sx_up.rf hk hL (hS.c (sx_RI.v rfl)) hH hY)
      | [f, v], hk =>
        refine hz.1 _ _ _ _ _ _ _ ?_
        exact sx_lib_s (k := fun st h => K y d rest L st cb sb fs h Y) (k' := fun st M => Z rest L' st G M cb sb) hk hS hH hY (fun t t' h' M' u1 u2 u3 => go sx_up.rf u1 hL u2 u3 hY)
      | [f], hk =>
        refine hz.1 _ _ _ _ _ _ _ ?_
        exact ⟨List.cons_ne_nil _ _, sx_pop_s (k := fun As st => sx_call K y d rest L st cb sb fs h Y (mj_hd [f]) As) _ hk rfl hS (fun A t A' t' hA hS hk => sx_call_s hK hk hz hL hS hA hF hH hY)⟩
      | f :: v :: v2 :: aux, hk =>
        refine hz.1 _ _ _ _ _ _ _ ?_
        exact ⟨List.cons_ne_nil _ _, sx_pop_s (k := fun As st => sx_call K y d rest L st cb sb fs h Y (mj_hd (f :: v :: v2 :: aux)) As) _ hk rfl hS (fun A t A' t' hA hS hk => sx_call_s hK hk hz hL hS hA hF hH hY)⟩
    case invokespecial k =>
      refine hz.1 _ _ _ _ _ _ _ ?_
      match aux, hk with
      | [], hk =>
        have hk : (sx_a1 st fun _ st => cond (Nat.ble (sx_cat st) 8) (K y d rest L st cb sb fs h Y) false) = true := hk
        obtain ⟨i, t, t', rfl, hi, hS, hk⟩ := sx_a1_s hk hS
        obtain ⟨h8, hk⟩ := sx_cd hk
        exact ⟨by rw [← sx_cat_s hS]; exact sx_ble h8, go sx_up.rf hk hL hS hH hY⟩
      | f :: aux, hk =>
        refine sx_pop_s (k := fun As st => sx_a1 st fun a st => sx_cl h a fun t _ _ _ _ => cond (Nat.beq (Nat.mod t 1000) (mj_h2 (f :: aux) + 1)) (sx_call K y d rest L st cb sb fs h Y f (.inr (.inr (some a)) :: As)) false) _ hk rfl hS (fun A t A' t' hA hS hk => ?_)
        obtain ⟨i, t, t2, rfl, hi, hS, hk⟩ := sx_a1_s hk hS
        rw [sx_cl_eq] at hk
        obtain ⟨ht, hk⟩ := sx_cd hk
        obtain ⟨c1, c2, c3⟩ := hH.2.2.1 i (by rw [hH.1]; exact hi)
        exact ⟨_, _, c1, sx_beq ht, sx_call_s hK hk hz hL hS (hA.c (sx_RO.v ⟨hi, rfl⟩)) hF hH hY⟩
    case ireturn =>
      have hk : (sx_i1 st fun z st => st.isEmpty && ((cond (sx_eq imm (.ofNat 1)) (sx_tf Y z) true) && sx_back K fs h Y (some (.inl z)))) = true := hk
      refine hz.1 _ _ _ _ _ _ _ ?_
      obtain ⟨x, t, z, t', rfl, hx, hS, hk⟩ := sx_i1_s hk hS
      obtain ⟨he, hk2⟩ := sx_nd hk
      obtain ⟨hb, hk3⟩ := sx_nd hk2
      obtain rfl : t = [] := by cases t with
        | nil => rfl
        | cons _ _ => cases he
      obtain rfl : t' = [] := hS
      refine ⟨rfl, fun q => ?_, sx_back_s hK hk3 ⟨_, rfl, hx.v⟩ hF hH hY⟩
      exact sx_tf_s (sx_ct hb (sx_eq_iff.mpr q)) hY hx
    case return_ =>
      have hk : (st.isEmpty && sx_back K fs h Y none) = true := hk
      refine hz.1 _ _ _ _ _ _ _ ?_
      obtain ⟨he, hk3⟩ := sx_nd hk
      obtain rfl : st = [] := by cases st with
        | nil => rfl
        | cons _ _ => cases he
      obtain rfl : st' = [] := hS
      exact ⟨rfl, sx_back_s hK hk3 rfl hF hH hY⟩
    all_goals cases hk
theorem sx_ex_s {q : sx_q} : ∀ n, sx_ks q (sx_ex n)
  | 0 => fun _ _ _ _ _ _ _ _ _ _ h => by cases h
  | n + 1 => sx_st_s (sx_ex_s n)
end
section
/-! ===== the law's symbolic run over a script of n ints, its call from lo to hi ===== -/
def sx_F8 (n lo hi : Nat) : sx_Y := [(.negSucc 2147483647, .ofNat 2147483647), (.negSucc 2147483647, .ofNat 2147483647), (.negSucc 2147483647, .ofNat 2147483647), (.negSucc 2147483647, .ofNat 2147483647), (.negSucc 2147483647, .ofNat 2147483647), (.negSucc 2147483647, .ofNat 2147483647), (.ofNat n, .ofNat n), (.ofNat lo, .ofNat hi)]
def sx_h0 : sx_H := (1, .leaf (sx_nc 901000 0))
noncomputable def sx_go (n lo hi : Nat) : Bool := sx_ex 30000 900 40 mj_law (some (.inr (.inr (some 0))) :: List.replicate 6 none) [] 400 20000 [] sx_h0 (sx_F8 n lo hi)
set_option maxRecDepth 100000 in
theorem sx_go0 : sx_go 0 0 63 = true := by decide +kernel
set_option maxRecDepth 100000 in
theorem sx_go1 : sx_go 1 0 63 = true := by decide +kernel
set_option maxRecDepth 100000 in
theorem sx_go2 : sx_go 2 0 63 = true := by decide +kernel
set_option maxRecDepth 100000 in
theorem sx_go3 : sx_go 3 0 63 = true := by decide +kernel
set_option maxRecDepth 100000 in
theorem sx_go4 : sx_go 4 0 63 = true := by decide +kernel
set_option maxRecDepth 100000 in
theorem sx_go5 : sx_go 5 0 63 = true := by decide +kernel
set_option maxRecDepth 100000 in
theorem sx_go6a : sx_go 6 0 1 = true := by decide +kernel
set_option maxRecDepth 100000 in
theorem sx_go6b : sx_go 6 2 2 = true := by decide +kernel
set_option maxRecDepth 100000 in
theorem sx_go6c : sx_go 6 3 38 = true := by decide +kernel
set_option maxRecDepth 100000 in
theorem sx_go6d : sx_go 6 39 39 = true := by decide +kernel
set_option maxRecDepth 100000 in
theorem sx_go6e : sx_go 6 40 63 = true := by decide +kernel
end
section
/-! ===== 'throw new NoSuchElementException("text")': its maker's link stands at 13 in its pool, not at 7, so the printed row vx_throwS doesn't take it; the same by the library's rows on chains of makers (chainSX, ctorMessageOffV, athrowLeaves) ===== -/
abbrev td_E : String := "java/util/NoSuchElementException"
abbrev td_N : List String := ["java/lang/RuntimeException", "java/lang/Exception"]
abbrev td_tx : String := "no such town, or nothing such is told of it"
abbrev td_rx : ByteArray := prog_23_method_4_code
abbrev td_own : List Cond := Bundle.ownAtomsX RX11 153 td_E 13 td_rx td_N
section TDC
variable {p : Program} {l : Launch} {e : Env} {R : Room} {s : State} {m₀ : MethodId} {args : Array Value} {below : List Frame} {meth : Method} {c : Code} {V : State} {cells slots : Nat}
set_option maxHeartbeats 2000000 in
theorem td_ctor (X : Stand p l e R s m₀ args below meth c V [] cells slots) (hexec : p.tables.exec = Jvm.exec) (htr : e.platform.stackTraces = false) (hown : s.vm.findClass RX11 = some m₀.cls) (h : ∀ w ∈ td_own, w.before args s = true)
    {a : Addr} {cX : ClassId} {kX : Class} (hfX : s.vm.findClass td_E = some cX) (hkX : s.vm.classes[cX]? = some kX) (hcell : V.heap[a]? = some (freshCell cX kX)) (hnew : s.heap.size ≤ a) {msg : Value} (hmsg : msg.isRef = true)
    {g : JFrame} (hg : g.method = m₀) (hsize : g.locals.size = c.maxLocals) (hlocked : g.locked = none) (hentered : g.entered = []) {rest : List Value} (hstack : g.stack = msg :: .ref a :: .ref a :: rest)
    (hd6 : decode c.code g.pc = .ok (.invokespecial 153, 3)) (hd9 : decode c.code (g.pc + 3) = .ok (.athrow, 1)) (hout : ∀ x ∈ c.exceptionTable.toList, covers x (g.pc + 3) = false)
    (hRf : 5 < R.frames) (hRl : 2 * g.monitorRoom + ((Value.ref a :: rest).map fun v => v.category).sum + 81 ≤ R.locals) (hlocks : meth.locks = false) :
    ∃ U : State, Steps p.tables e below (V.setTop g) U ∧ U.status = .running ∧ Ended U below (.threw a) ∧ s.WarmedH U.vm ∧ s.sameButNew ({ U with vm := s.vm } : State) [] cells slots ∧ ∃ ce, U.heap[a]? = some ce ∧ ce.cls = cX ∧ ce.vm = .none := by
  have hpl : e.platform.magicAccessors = ({} : Platform).magicAccessors := by rw [X.admits.platform]
  have hw : ∀ w, w ∈ td_own → w.holds args s none s [] = true := fun w hw => h w hw
  have fitX : Bundle.fit td_E = true := by decide +kernel
  obtain ⟨T, Z0, L, -, Y⟩ := ThrowableC.of_atoms (args := args) (by rw [X.admits.platform]) (by rw [X.admits.platform]) hpl (fun x hx => h x (by simp [td_own, Bundle.ownAtomsX, hx]))
  obtain ⟨Z, M, LZ, LM, hnZ⟩ := Init0T.ofS_atoms (args := args) hpl L Y (fun x hx => h x (by simp [td_own, Bundle.ownAtomsX, hx]))
  obtain ⟨P1, Ps, hlen, L1, hL, hP1m, hlink1, hlink⟩ := Bundle.chainSX (args := args) hpl hnZ (ix := 13) (rx := td_rx) (by decide +kernel) (by decide +kernel) (by decide +kernel) (by decide +kernel) td_N td_E fitX (by decide +kernel) (fun x hx => h x (by simp [td_own, Bundle.ownAtomsX, hx]))
  have hlen2 : Ps.length = 2 := hlen
  have hf1 : s.vm.findClass td_E = some P1.m.cls := findClass_of_methodNamed hP1m
  cases Option.some.inj (hfX.symm.trans hf1)
  obtain ⟨c1, kX', hc1, hk, hord, -, -, hn6⟩ := Cond.instantiable_spec (hw (.instantiable td_E 6) (by simp [td_own, Bundle.ownAtomsX]))
  cases Option.some.inj (hc1.symm.trans hf1)
  cases Option.some.inj (hkX.symm.trans hk)
  have sel : ∀ {y : MethodName} {f : MethodId}, Cond.selects td_E y y ∈ td_own → s.methodNamed? y = some f → s.methodFound? y.cls y.name y.desc = some f → selectMethod e.platform s.vm P1.m.cls f = .method f := fun {y f} hin hn hfo => by
    obtain ⟨c2, r2, m2, q1, q2, q3, q4, -⟩ := Cond.selects_spec (hw _ hin)
    cases Option.some.inj (q1.symm.trans hf1)
    cases Option.some.inj (q2.symm.trans hfo)
    cases Option.some.inj (q3.symm.trans hn)
    rw [Launch.admits_selectMethod X.admits]; exact q4
  have hsel0 := sel (y := Bundle.tFill0) (by simp [td_own, Bundle.ownAtomsX]) Y.fill0 (State.methodFound?_of_named Y.fill0 (by decide))
  have hselF := sel (y := Bundle.tFill) (by simp [td_own, Bundle.ownAtomsX]) Y.fill (State.methodFound?_of_named Y.fill (by decide))
  obtain ⟨cS0, hcS0, hiss⟩ := Y.statics
  obtain ⟨u0, hu0⟩ := Cond.staticRefV Y.unassigned L.unassignedStatic L.statics hcS0 hiss (hw (.isRef (.static Bundle.tN "UNASSIGNED_STACK" Bundle.steD)) (by simp [td_own, Bundle.ownAtomsX]))
  obtain ⟨sen, hsen⟩ := Cond.staticRefV Y.sentinel L.sentinelStatic L.statics hcS0 hiss (hw (.isRef (.static Bundle.tN "SUPPRESSED_SENTINEL" Bundle.listD)) (by simp [td_own, Bundle.ownAtomsX]))
  obtain ⟨k198, i198, fB, hk198, hg198, ha198, hsB, -, hnB, htB, hffB⟩ := Cond.ownField (t := .object "java/lang/Object") Y.found L.cls (by decide +kernel) (hw (.fieldLink Bundle.tN 198 Bundle.tN "backtrace" "Ljava/lang/Object;") (by simp [td_own, Bundle.ownAtomsX])) (hw (.lays Bundle.tN Bundle.tN "backtrace" "Ljava/lang/Object;") (by simp [td_own, Bundle.ownAtomsX])) e.platform hpl
  obtain ⟨cS, hcS', heS, -, hkeep⟩ := X.same.2.2.2.2.2 T.aS cS0 hcS0
  have hcS : V.heap[T.aS]? = some cS := hcS'
  have hknS : cS.vm ≠ .unknown := fun hu => by
    rw [heS] at hu
    rw [hu] at hiss
    cases hiss
  have hneS : T.aS ≠ a := Nat.ne_of_lt (Nat.lt_of_lt_of_le (Array.getElem?_eq_some_iff.mp hcS0).1 hnew)
  obtain ⟨iM, hffM⟩ := Y.msg
  obtain ⟨tyC, dC, hdC, hdnC⟩ := Cond.laysAt hf1 hk Y.cause (hw (.lays td_E Bundle.tN "cause" "Ljava/lang/Throwable;") (by simp [td_own, Bundle.ownAtomsX]))
  obtain ⟨tyS, dS, hdS, hdnS⟩ := Cond.laysAt hf1 hk Y.stack (hw (.lays td_E Bundle.tN "stackTrace" Bundle.steD) (by simp [td_own, Bundle.ownAtomsX]))
  obtain ⟨tyP, dP, hdP, hdnP⟩ := Cond.laysAt hf1 hk Y.supp (hw (.lays td_E Bundle.tN "suppressedExceptions" Bundle.listD) (by simp [td_own, Bundle.ownAtomsX]))
  obtain ⟨tyM, dM, hdM, hdnM⟩ := Cond.laysAt hf1 hk hffM (hw (.lays td_E Bundle.tN "detailMessage" "Ljava/lang/String;") (by simp [td_own, Bundle.ownAtomsX]))
  obtain ⟨tyB, dB, hdB, hdnB⟩ := Cond.laysAt hf1 hk hffB (hw (.lays td_E Bundle.tN "backtrace" "Ljava/lang/Object;") (by simp [td_own, Bundle.ownAtomsX]))
  have bC := Cond.laysApart hdB hdC hdnB hdnC (by rw [hnB, Y.causeName]; decide)
  have bS := Cond.laysApart hdB hdS hdnB hdnS (by rw [hnB, Y.stackName]; decide)
  have bP := Cond.laysApart hdB hdP hdnB hdnP (by rw [hnB, Y.suppName]; decide)
  have hskip : SkipFacts T e.platform s (fun u => u) u0 ((preparedCellV T.toThrowableT (freshCell P1.m.cls kX) a u0 sen).withEntry V.cur) :=
    ⟨{ ci198 := k198, i198 := i198, fBack := fB }, ⟨hk198, hg198, ha198, hsB⟩, by
      have := fresh_default (c := P1.m.cls) tyB
      rw [htB] at this
      simpa [preparedCellV, Cell.setSlot, Cell.withEntry, Array.getElem?_setIfInBounds, bC, bS, bP, bC.symm, bS.symm, bP.symm, defaultValue] using this, fun _ _ => rfl⟩
  obtain ⟨tm, mC, cdC, kC, vm₁, hnC, -, -, -, -, -, -, -, hW₁, st1⟩ := Steps.initColdS (tb := p.tables) (e := e) (below := below) (s := s) (U := V) X.here hexec X.warmed hpl hown (t := Bundle.initS td_E) rfl rfl (Bundle.fit_spec fitX).2
    (hw (.methodLink RX11 153 (Bundle.initS td_E)) (by simp [td_own, Bundle.ownAtomsX])) (h (.instanceMethod (Bundle.initS td_E)) (by simp [td_own, Bundle.ownAtomsX, Bundle.chainSAtomsX, Bundle.passSAtoms])) (bytes := td_rx) (maxL := 2) (h (.code (Bundle.initS td_E) td_rx 2 none) (by simp [td_own, Bundle.ownAtomsX, Bundle.chainSAtomsX, Bundle.passSAtoms]))
    (f := g) hg (a := a) (msg := msg) (rest := .ref a :: rest) hstack hd6
  cases Option.some.inj (hnC.symm.trans hP1m)
  have X₁ := X.noted hW₁
  obtain ⟨vm₂, X₂, st2⟩ := X₁.ctorMessageOffV hexec (g := { g with stack := .ref a :: rest }) hg hsize T L Z LZ M LM (P1 :: Ps)
    (fun P hP => by rcases List.mem_cons.mp hP with rfl | hP; exact L1; exact hL P hP) ⟨hlink1, hlink⟩ (u0 := u0) (sen := sen) (self := a) hmsg (cell := freshCell P1.m.cls kX) (cellS := cS)
    hcell (fun _ => by simp) (by simp) rfl rfl hsel0 hselF hcS hneS hknS (by rw [hkeep _ (List.not_mem_nil)]; exact hu0) (by rw [hkeep _ (List.not_mem_nil)]; exact hsen)
    (Takes.of_laid hk hord tyC (by rw [Y.causeType]; rfl)) (Takes.of_laid hk hord tyS (by rw [Y.stackType]; exact fits_refV_array _ u0)) (Takes.of_laid hk hord tyP (by rw [Y.suppType]; exact fits_refV_object _ sen))
    (Takes.of_laid hk hord tyM (by rw [Y.msgType]; exact fits_refV_object _ ⟨msg, hmsg⟩)) Y.objLocals hskip htr [] hd6
    (by simp only [List.length_cons, hlen2]; omega) (by simp only [List.length_cons, hlen2]; exact hRl)
  obtain ⟨hwalk, hrun, hended, hWU, hsame⟩ := X₂.athrowLeaves hexec (g := { g with stack := .ref a :: rest, pc := g.pc + 3 }) hg hlocked hentered hout (a := a) (rest := rest) rfl hd9 hlocks
  have hlt : a < ((V.setVm vm₁).setVm vm₂).heap.size := (Array.getElem?_eq_some_iff.mp hcell).1
  have hU := heapAt_setCell_self (s := (V.setVm vm₁).setVm vm₂) (plainBareV T.toThrowableT (freshCell P1.m.cls kX) a u0 sen msg) hlt
  refine ⟨_, st1 _ (fun acts => ?_), hrun, hended, hWU, hsame.weaken (fun y hy hlt' => ?_) (Nat.le_refl _) (Nat.le_refl _), _, hU, rfl, rfl⟩
  · rw [doInvoke_state]
    exact st2 _ hwalk
  · rcases List.mem_append.mp hy with h1 | h1
    · exact h1
    · exfalso
      have hb : y.base = a := by
        simp only [List.mem_cons, List.not_mem_nil, or_false] at h1
        rcases h1 with rfl | rfl | rfl | rfl | rfl <;> rfl
      rw [hb] at hlt'
      exact Nat.not_lt.mpr hnew hlt'
end TDC
section TDT
variable {p : Program} {l : Launch} {e : Env} {R : Room} {s : State} {m : MethodId} {args : Array Value} {below : List Frame} {meth : Method} {c : Code} {H : Heap} {locs : List Loc} {cells slots : Nat} {free : Addr → Prop} {ls : Array Slot} {rest : List Value} {Qc : Array Value → State → Outcome → State → Prop} {XC : String → State → State → Prop}
/-- the printed row vx_throwS, for this exception -/
theorem td_throw {cc : ByteArray} {pc : Nat} (hexec : p.tables.exec = Jvm.exec) (hb : c.code = cc) (hl : l.stackTraces = false) {mc ms sa : Nat} {A : Nat → Prop}
    (hown : s.vm.findClass RX11 = some m.cls) (hk : (Cond.classLink RX11 149 td_E).before args s = true) (hini : (Cond.initialized td_E).before args s = true) (hstr : vk_R RX11 151 td_tx sa s) (hat : ∀ w ∈ td_own.filter vx_no, w.before args s = true)
    (hgood : ∀ w ∈ Cond.classLink RX11 149 td_E :: Cond.initialized td_E :: td_own.filter vx_no, vx_ot w = true)
    (hU : vx_Zq Bundle.tN "UNASSIGNED_STACK" Bundle.steD A s s.heap) (hN : vx_Zq Bundle.tN "SUPPRESSED_SENTINEL" Bundle.listD A s s.heap) (hS : va_S A s.heap H locs) (hsize : ls.size = c.maxLocals)
    (d0 : decode cc pc = .ok (.new 149, 3)) (d3 : decode cc (pc + 3) = .ok (.dup, 1)) (d4 : decode cc (pc + 4) = .ok (.ldc 151, 2)) (d6 : decode cc (pc + 6) = .ok (.invokespecial 153, 3)) (d9 : decode cc (pc + 9) = .ok (.athrow, 1))
    (hout : ∀ x ∈ c.exceptionTable.toList, covers x (pc + 9) = false)
    (hRframes : 5 < R.frames) (hRlocals : (rest.map fun v => v.category).sum + 82 ≤ R.locals) (hRcells : cells + 1 ≤ R.cells) (hRslots : slots + 6 ≤ R.slots) (hlocks : meth.locks = false)
    (hx : ∀ t : State, s.vm.Alike t.vm → H.size ≤ t.heap.size → (∀ q : Nat, q < H.size → t.heap[q]? = H[q]?) → XC td_E s t)
    (hf : ∀ z ∈ locs, free z.base) (hc : cells + 1 ≤ mc) (hs : slots + 6 ≤ ms) :
    W p l e R s m args below meth c H locs cells slots (vx_MQ below Qc XC args s mc ms free) (F0 m pc ls rest) := by
  intro T hT X
  have htr : e.platform.stackTraces = false := (show e.platform.stackTraces = l.stackTraces by rw [X.admits.platform]).trans hl
  have Y := vx_rebase X (R' := { frames := R.frames, locals := R.locals, cells := 1, slots := 6 }) (Nat.le_refl _) (Nat.le_refl _) hRcells hRslots
  obtain ⟨s', hA⟩ : ∃ z, z = (T.setVm s.vm).setFrames (.invoking m args :: below) := ⟨_, rfl⟩
  rw [← hA] at Y
  have hvm : s'.vm = s.vm := by rw [hA]; rfl
  have hhp : s'.heap = H := by rw [hA]; exact hT
  have hW0 : s.WarmedH s'.vm := by rw [hvm]; exact State.WarmedH.refl s
  have hat' : ∀ w ∈ td_own.filter vx_no, w.before args s' = true := fun w hw => vx_ot_at hW0 hvm.symm (hgood w (List.mem_cons_of_mem _ (List.mem_cons_of_mem _ hw))) (hat w hw)
  have hk' : (Cond.classLink RX11 149 td_E).before args s' = true := vx_ot_at hW0 hvm.symm (hgood _ List.mem_cons_self) hk
  have hini' : (Cond.initialized td_E).before args s' = true := vx_ot_at hW0 hvm.symm (hgood _ (List.mem_cons_of_mem _ List.mem_cons_self)) hini
  have hU' : vx_Zq Bundle.tN "UNASSIGNED_STACK" Bundle.steD A s' s'.heap := by rw [hhp]; exact vx_Zq.moved hW0.alike (hU.kept hS.2.1)
  have hN' : vx_Zq Bundle.tN "SUPPRESSED_SENTINEL" Bundle.listD A s' s'.heap := by rw [hhp]; exact vx_Zq.moved hW0.alike (hN.kept hS.2.1)
  have h : ∀ w ∈ td_own, w.before args s' = true := vx_own hat' (vx_isRefq hU'.1) (vx_isRefq hN'.1) hU'.2.word hN'.2.word
  have hown' : s'.vm.findClass RX11 = some m.cls := by rw [hvm]; exact hown
  have hins : (Cond.instantiable td_E 6).before args s' = true := h _ (by simp [td_own, Bundle.ownAtomsX])
  obtain ⟨vm₁, cX, kX, hfX, hkX, -, -, X₁, st1⟩ := Y.newCold hexec (own := RX11) (C := td_E) (index := 149) (n := 6) hown' hk' hins hini'
    (g := F0 m pc ls rest) rfl (by rw [hb]; exact d0) (Nat.le_refl _) (Nat.le_refl _)
  generalize hT1 : (T.setVm vm₁).pushCell { cls := cX, slots := kX.instanceTypes.map defaultValue, vm := .none } = T1 at X₁ st1
  have hcat : (Value.ref T.heap.size).category = 1 := rfl
  have hcellA : T1.heap[T.heap.size]? = some (freshCell cX kX) := by rw [← hT1]; exact State.heap_pushCell_size _ _
  have d3' : decode c.code (pc + 3) = .ok (.dup, 1) := by rw [hb]; exact d3
  have d4' : decode c.code (pc + 4) = .ok (.ldc 151, 2) := by rw [hb]; exact d4
  have hstr' : vk_R RX11 151 td_tx sa s' := vk_R.warm hW0 hstr
  obtain ⟨U, hsteps, hrun, hend, hW, hsame, ce, hce, hccls, hcvm⟩ := td_ctor X₁ hexec htr hown' h hfX hkX hcellA (by rw [hhp, hT]; exact Nat.le_refl _) (msg := .ref sa) rfl
    (g := { method := m, pc := pc + 6, locals := ls, stack := .ref sa :: .ref T.heap.size :: .ref T.heap.size :: rest, locked := none }) rfl hsize rfl rfl (rest := rest) rfl
    (by rw [hb]; exact d6) (by rw [hb]; exact d9) hout hRframes (by show 2 * 0 + _ + 81 ≤ _; simp only [List.map_cons, List.sum_cons, hcat]; omega) hlocks
  obtain ⟨f1, f2⟩ := vx_frame hsame
  rw [hhp] at f1 f2
  have hWs : s.WarmedH U.vm := State.WarmedH.trans hW0 hW
  have hcl : s.vm.findClass td_E = some ce.cls := by rw [hccls, ← hvm]; exact hfX
  have hall : s.sameButNew ({ U with vm := s.vm } : State) locs mc ms := by
    subst hA
    obtain ⟨e1, e2⟩ := hsame
    rw [State.setFrames_setFrames] at e1
    have h2 : (T.setVm s.vm).sameButNew ({ U with vm := s.vm } : State) [] (0 + 1) (0 + 6) := ⟨e1, e2⟩
    have h3 := X.same.trans h2
    rw [List.append_nil] at h3
    exact h3.mono hc hs
  refine ⟨U, ?_, .threw T.heap.size, hrun, hend, Or.inr ⟨T.heap.size, rfl, td_E, ce, locs, hx U hWs.alike f1 (fun q hq => f2 q hq (fun z hz => nomatch hz)), hce, hcvm, hcl, hWs, hall, hf⟩⟩
  refine st1 _ ?_
  show Steps p.tables e below (T1.setTop { method := m, pc := pc + 3, locals := ls, stack := .ref T.heap.size :: rest, locked := none }) _
  jvm_step X₁.here [X₁.here.top, hexec, d3', Value.category]
  exact X₁.ldcString hexec (own := RX11) (text := td_tx) (index := 151) (a := sa) hown' hstr'.1 hstr'.2
    (g := { method := m, pc := pc + 4, locals := ls, stack := .ref T.heap.size :: .ref T.heap.size :: rest, locked := none }) rfl d4' _ hsteps
end TDT
end
section
/-! ===== told of a fresh object throws, and the law's told answers 1 ===== -/
def td_ng : List Cond := (td_own.filter vx_no).filter (fun w => !goodWord w)
def td_S (B sa : Nat) (U : State) : Prop := vk_R RX11 151 td_tx sa U ∧ vx_Zq Bundle.tN "UNASSIGNED_STACK" Bundle.steD (fun q => B ≤ q) U U.heap ∧ vx_Zq Bundle.tN "SUPPRESSED_SENTINEL" Bundle.listD (fun q => B ≤ q) U U.heap ∧ va_Nw (.castable td_E td_E) U ∧ ∀ w ∈ td_ng, va_Nw w U
theorem td_w0 : ∀ w ∈ (td_own.filter vx_no).filter goodWord, w ∈ lw_tbl := by decide +kernel
theorem td_w1 : ∀ w ∈ (td_own.filter vx_no).filter goodWord, w ∈ mj_tb := fun w hw => List.mem_filter.mpr ⟨td_w0 w hw, (List.mem_filter.mp hw).2⟩
def td_cd (w : Cond) : Bool := match w with
  | .castable _ _ => true
  | .declares _ => true
  | _ => false
theorem td_ngc : ∀ w ∈ td_ng, td_cd w = true := by decide +kernel
theorem td_ng_in : ∀ w ∈ td_ng, w ∈ lw_tbl ∨ w = Cond.castable td_E td_E := by decide +kernel
theorem td_cd_on {w : Cond} (h : td_cd w = true) : w.onTables = true := by
  cases w <;> first | rfl | cases h
theorem td_cd_warm {w : Cond} {s U : State} (h : td_cd w = true) (hW : s.WarmedH U.vm) (hZ : va_Nw w s) : va_Nw w U := by
  cases w <;> first | exact va_Nw.warmC hW hZ | exact va_Nw.warmD hW hZ | cases h
theorem td_w2 : ∀ w ∈ Cond.classLink RX11 149 td_E :: Cond.initialized td_E :: td_own.filter vx_no, vx_ot w = true := by decide +kernel
theorem td_w3 : Cond.classLink RX11 149 td_E ∈ mj_tb ∧ Cond.initialized td_E ∈ mj_tb ∧ Cond.classLink RL 13 td_E ∈ mj_tb := by decide +kernel
theorem td_w4 : Cond.methodLink RX11 145 yX11_isTown ∈ mj_tb ∧ Cond.instanceMethod yX11_isTown ∈ mj_tb ∧ Cond.selects RX11 yX11_isTown yX11_isTown ∈ mj_tb ∧ Cond.initialized RX11 ∈ mj_tb ∧ Cond.code yX11_isTown cX11_isTown 2 (some .boolean) ∈ mj_tb := by decide +kernel
theorem td_w5 : Cond.methodLink RL 7 yX11_told ∈ mj_tb ∧ Cond.instanceMethod yX11_told ∈ mj_tb ∧ Cond.selects RX11 yX11_told yX11_told ∈ mj_tb ∧ Cond.code yX11_told cX11_told 3 (some .int) ∈ mj_tb := by decide +kernel
theorem td_w6 : Cond.methodLink RL 38 yL_told ∈ mj_tb ∧ Cond.static yL_told ∈ mj_tb ∧ Cond.initialized RL ∈ mj_tb ∧ Cond.codeWith yL_told cL_told 5 (some .int) [(0, 10, 13, 13)] ∈ mj_tb := by decide +kernel
def td_Pre (G : mj_G) (M : mj_M) (a : Nat) : Prop := ∃ b c t1 t2 t3 n1 n2 n3, G a = (t1, n1) ∧ t1 % 1000 = 11 ∧ M.2.2 a 1 = some b ∧ G b = (t2, n2) ∧ t2 % 1000 = 7 ∧ M.2.2 b 0 = some c ∧ G c = (t3, n3) ∧ t3 % 1000 = 4 ∧ M.1 c 4 = 0
theorem r_isTown {d a : Nat} {p0 : Int} {G : mj_G} {M : mj_M} {Q : mj_P} (hp : td_Pre G M a) (h : Q (some (.inl 0)) G M) : mj_R mj_tab (d + 1) n_X11_isTown [.inr (.inr (some a)), .inl p0] G M Q := by
  obtain ⟨b, c, t1, t2, t3, n1, n2, n3, g1, e1, m1, g2, e2, m2, g3, e3, m3⟩ := hp
  refine ⟨Nat.le_refl 2, mj_W.run (mj_R_mo _ _) 20 ?_⟩
  refine And.intro (fun c1 => ?_) (fun c1 => ?_)
  · exact ⟨rfl, fun _ => Or.inl rfl, h⟩
  · refine And.intro (List.cons_ne_nil _ _) ⟨t1, n1, g1, e1, fun b' hb => ?_, fun hb => ?_⟩
    · cases m1.symm.trans hb
      refine And.intro (List.cons_ne_nil _ _) ⟨t2, n2, g2, e2, fun c' hc => ?_, fun hc => ?_⟩
      · cases m2.symm.trans hc
        refine And.intro (List.cons_ne_nil _ _) ⟨t3, n3, g3, e3, ?_⟩
        refine And.intro (fun c2 => ?_) (fun c2 => ?_)
        · exact ⟨rfl, fun _ => Or.inl rfl, h⟩
        · exfalso
          have c1 : ¬ p0 < 0 := c1
          have c2 : ¬ M.1 c 4 ≤ p0 := c2
          rw [m3] at c2
          omega
      · cases m2.symm.trans hc
    · cases m1.symm.trans hb
theorem mj_H.grow {D : va_G} {dA : Nat → ClassId} {B : Nat} {G : mj_G} {M : mj_M} {H H' : Heap} (h : mj_H D dA B G M H) (h1 : H.size ≤ H'.size) (h2 : ∀ q : Nat, q < H.size → H'[q]? = H[q]?) : mj_H D dA B G M H' := by
  refine ⟨h.1, fun x hx => h.2.1 x (by omega), fun x t n hx ht => ?_⟩
  have hlt : x < H.size := by
    rcases Nat.lt_or_ge x H.size with q | q
    · exact q
    · have := h.2.1 x q
      rw [hx] at this
      exact absurd (Prod.mk.inj this).1 ht
  obtain ⟨g0, g1, g2⟩ := h.2.2 x t n hx ht
  exact ⟨g0, fun ci r e1 e2 => (g1 ci r e1 e2).kept (h2 x hlt), fun j e => by rw [h2 x hlt]; exact g2 j e⟩
def td_Pc (D : va_G) (dA : Nat → ClassId) (B sa : Nat) (av : List mj_V) (G : mj_G) (M : mj_M) : Array Value → State → Prop := va_Pc (av.map mj_val) (fun U => (mj_H D dA B G M U.heap ∧ mj_K D dA U ∧ (∀ v ∈ av, mj_ok v) ∧ B ≤ U.heap.size) ∧ td_S B sa U)
theorem td_blind {D : va_G} {dA : Nat → ClassId} {B sa : Nat} {av : List mj_V} {G : mj_G} {M : mj_M} : FrameBlind (td_Pc D dA B sa av G M) := by
  intro a U g mk q
  obtain ⟨q0, ⟨q1, q2, q3, q4⟩, q5, q6, q7, q8, q9⟩ := q
  exact ⟨q0, ⟨q1, mj_K.moved (u := U) (U := U.calling g mk a) (Vm.Alike.refl U.vm) q2, q3, q4⟩, vk_R.same (u := U) rfl q5, vx_Zq.moved (u := U) (Vm.Alike.refl U.vm) q6, vx_Zq.moved (u := U) (Vm.Alike.refl U.vm) q7, va_Nw.same rfl (u := U) rfl q8, fun w hw => va_Nw.same (td_cd_on (td_ngc w hw)) (u := U) rfl (q9 w hw)⟩
theorem td_S.kept {B sa : Nat} {s U : State} {H : Heap} {locs : List Loc} (h : td_S B sa s) (hS : va_S (fun q => B ≤ q) s.heap H locs) (hU : U.heap = H) (hW : s.WarmedH U.vm) : td_S B sa U :=
  ⟨vk_R.warm hW h.1, by rw [hU]; exact vx_Zq.moved hW.alike (h.2.1.kept hS.2.1), by rw [hU]; exact vx_Zq.moved hW.alike (h.2.2.1.kept hS.2.1), va_Nw.warmC hW h.2.2.2.1, fun w hw => td_cd_warm (td_ngc w hw) hW (h.2.2.2.2 w hw)⟩
def td_X (D : va_G) (dA : Nat → ClassId) (B : Nat) (G : mj_G) (M : mj_M) : String → State → State → Prop := fun E st t => E = td_E ∧ mj_H D dA B G M t.heap ∧ mj_K D dA t ∧ va_F (fun q => B ≤ q) st t
theorem td_obj {D : va_G} {dA : Nat → ClassId} {B : Nat} {G : mj_G} {M : mj_M} {s : State} {H : Heap} {a ci t n : Nat} {r : vw_C} (hH : mj_H D dA B G M H) (hK : mj_K D dA s) (hG : G a = (t, n)) (ht : t % 1000 = ci + 1) (hr : vwCl[ci]? = some r) : ∃ cellB : Cell, H[a]? = some cellB ∧ cellB.vm.isStatics = false ∧ s.vm.findClass r.1 = some cellB.cls := by
  obtain ⟨-, g1, -⟩ := hH.2.2 a t n hG (mj_ne ht)
  obtain ⟨cell, q1, q2, q3, q4⟩ := g1 ci r ht hr
  obtain ⟨hSl, hfc, -⟩ := id (hK.1 ci r hr)
  exact ⟨cell, q1, by rw [q3]; rfl, by rw [q2]; exact hfc⟩
set_option maxHeartbeats 2000000 in
theorem td_x {l : Launch} (hl : l.stackTraces = false) {D : va_G} {dA : Nat → ClassId} {B sa a : Nat} {p0 p1 : Int} {G : mj_G} {M : mj_M} (hp : td_Pre G M a) : vx_Met l yX11_told (.code yX11_told cX11_told 3 (some .int) :: mj_tb) (mj_rm 9 (1, 6)) (td_Pc D dA B sa [.inr (.inr (some a)), .inl p0, .inl p1] G M) (fun _ _ _ _ => False) (td_X D dA B G M) 1 6 (fun q => B ≤ q) := by
  refine vx_ofW (cc := cX11_told) (maxL := 3) (ret := some .int) (by decide) rfl ?_
  intro p e s m args below meth c s₁ Bd hml hnx hv
  obtain ⟨rfl, ⟨hH, hK, hok, hB⟩, hstr, hU, hN, hcs, hng⟩ := hv
  have hts := atoms_spec (ws := Cond.code yX11_told cX11_told 3 (some .int) :: mj_tb) Bd.pre
  have htb : ∀ w ∈ mj_tb, w.before _ s = true := fun w hw => hts w (List.mem_cons_of_mem _ hw)
  have hown : s.vm.findClass RX11 = some m.cls := findClass_of_methodNamed Bd.named
  rw [lg_entry_eq]
  have hls := lv_entry ((([.inr (.inr (some a)), .inl p0, .inl p1] : List mj_V)).map mj_val) (n := 3) (Nat.le_refl 3)
  generalize ((lg_sl ((([.inr (.inr (some a)), .inl p0, .inl p1] : List mj_V)).map mj_val) ++ List.replicate (3 - (lg_sl ((([.inr (.inr (some a)), .inl p0, .inl p1] : List mj_V)).map mj_val)).length) Slot.unset).toArray) = ls at hls ⊢
  have h0 : ls[0]? = some (.val (.ref a)) := lv_at hls 0 rfl
  have h1 : ls[1]? = some (.val (.int (Int32.ofInt p0))) := lv_at hls 1 rfl
  refine lv_aload_n (k := 0) Bd.exec Bd.bytes (by decide +kernel) rfl h0 ?_
  refine lv_iload_n (k := 1) Bd.exec Bd.bytes (by decide +kernel) rfl h1 ?_
  have hgood : GoodIn mj_tb (wsV RX11 145 RX11 yX11_isTown (.code yX11_isTown cX11_isTown 2 (some .boolean) :: mj_tb)) := mj_good fun w hw => by
    simp only [wsV, List.cons_append, List.nil_append, List.mem_cons] at hw
    rcases hw with rfl | rfl | rfl | rfl | rfl | hw
    · exact td_w4.1
    · exact td_w4.2.1
    · exact td_w4.2.2.1
    · exact td_w4.2.2.2.1
    · exact td_w4.2.2.2.2
    · exact hw
  obtain ⟨b, c0, t1, t2, t3, n1, n2, n3, g1, e1, m1, g2, e2, m2, g3, e3, m3⟩ := id hp
  have hM : Met l yX11_isTown (.code yX11_isTown cX11_isTown 2 (some .boolean) :: mj_tb) (mj_rm 2 (0, 0)) (mj_Pc D dA B [.inr (.inr (some a)), .inl p0] G M) (mj_Q D dA B (fun r G' M' => r = some (.inl 0) ∧ G' = G ∧ M' = M)) 0 0 (fun q => B ≤ q) := mj_met mj_all 2 n_X11_isTown _ G M _ (r_isTown hp ⟨rfl, rfl, rfl⟩)
  have hr := va_runV (R := (mj_rm 9 (1, 6))) (As := [Value.int (Int32.ofInt p0)]) (rest := []) (b := a) (H := s.heap) (locs := []) (cells := 0) (slots := 0) (g := F0 m 2 ls [Value.int (Int32.ofInt p0), Value.ref a]) (below := below) (meth := meth) (e := e) ⟨Bd.exec, Bd.bytes, hml, hown, htb⟩ hM
    (cwV 1 htb hgood rfl rfl rfl ⟨rfl, by decide, by decide, by decide⟩ ⟨by decide, by decide⟩) ⟨mj_blind, td_obj (ci := 10) hH hK g1 e1 rfl, fun U hU hW => ⟨rfl, by rw [hU]; exact hH, mj_K.moved hW.alike hK, fun v hv => hok v (by rcases List.mem_cons.mp hv with rfl | hv <;> simp_all), by rw [hU]; exact hB⟩⟩ rfl rfl hls.1 rfl (Nat.zero_le 8) (show decode cX11_told 2 = .ok (.invokevirtual 145, 3) from by decide +kernel) ⟨by decide, by decide⟩
  intro T hT XS
  obtain ⟨v, st₀, t, T', L', h00, X', hL', x1, x2, ⟨r, G', M', hv, ⟨rfl, rfl, rfl⟩, hok', hH', hK', hz, hk⟩, stp⟩ := hr T hT XS
  obtain rfl : v = some (.int 0) := Outcome.returned.inj hv
  rw [h00] at hz hk
  have hS' : va_S (fun q => B ≤ q) s.heap T'.heap ([] ++ L') := ⟨by rw [x1]; exact hz, fun q h1 h2 => by rw [x1]; exact hk q h1 h2, fun q hq => by
      rcases List.mem_append.mp hq with h | h
      · cases h
      · exact hL' q h⟩
  have hH9 : mj_H D dA B G' M' T'.heap := by rw [x1]; exact hH'
  have K : W p l e (mj_rm 9 (1, 6)) s m (List.map mj_val [.inr (.inr (some a)), .inl p0, .inl p1]).toArray below meth c T'.heap ([] ++ L') (0 + 0) (0 + 0) (vx_MQ below (fun _ _ _ _ => False) (td_X D dA B G' M') (List.map mj_val [.inr (.inr (some a)), .inl p0, .inl p1]).toArray s 1 6 (fun q => B ≤ q)) (F0 m 5 ls [.int 0]) := by
    refine lv_if_eq (tgt := 18) Bd.exec Bd.bytes (off := 13) (by decide +kernel) (by decide) (fun _ => ?_) (fun q => absurd rfl q)
    refine td_throw (sa := sa) (A := fun q => B ≤ q) Bd.exec Bd.bytes hl hown (htb _ td_w3.1) (htb _ td_w3.2.1) hstr (vx_hat (B := td_ng) (fun w hw => htb w (td_w1 w hw)) (fun w hw => hw) (fun w hw => va_Nw.use (td_cd_on (td_ngc w hw)) (hng w hw))) td_w2 hU hN hS' (hls.1.trans hml.symm) (by decide +kernel) (by decide +kernel) (by decide +kernel) (by decide +kernel) (by decide +kernel)
      (fun x hx => (hnx x hx).elim) (by decide) (by decide) (by decide) (by decide) Bd.notSynchronized (fun t hal h1 h2 => ⟨rfl, hH9.grow h1 h2, mj_K.moved hal hK, Nat.le_trans hS'.1 h1, fun q q1 q2 => by rw [h2 q (Nat.lt_of_lt_of_le q1 hS'.1)]; exact hS'.2.1 q q1 q2⟩) hS'.2.2 (by decide) (by decide)
  obtain ⟨t2, a1, b1⟩ := K T' rfl X'
  exact ⟨t2, stp t2 a1, b1⟩
theorem td_cov : covers { startPc := 0, endPc := 10, handlerPc := 13, catchType := 13 } 5 = true := by decide
set_option maxHeartbeats 2000000 in
theorem td_l {l : Launch} (hl : l.stackTraces = false) {D : va_G} {dA : Nat → ClassId} {B sa a : Nat} {p0 p1 : Int} {o : Option Nat} {G : mj_G} {M : mj_M} (hp : td_Pre G M a) : Met l yL_told (.codeWith yL_told cL_told 5 (some .int) [(0, 10, 13, 13)] :: mj_tb) (mj_rm 12 (4, 64)) (td_Pc D dA B sa [.inr (.inr (some a)), .inl p0, .inl p1, .inr (.inr o)] G M) (mj_Q D dA B (fun r G' M' => r = some (.inl 1) ∧ G' = G ∧ M' = M)) 4 64 (fun q => B ≤ q) := by
  refine va_MetW (cc := cL_told) (maxL := 5) (ret := some .int) (hh := [(0, 10, 13, 13)]) (by decide) rfl ?_
  intro p e s m args below meth c s₁ Bd hml hv
  obtain ⟨rfl, ⟨hH, hK, hok, hB⟩, hS4⟩ := hv
  have hts := atoms_spec (ws := Cond.codeWith yL_told cL_told 5 (some .int) [(0, 10, 13, 13)] :: mj_tb) Bd.pre
  have htb : ∀ w ∈ mj_tb, w.before _ s = true := fun w hw => hts w (List.mem_cons_of_mem _ hw)
  have htab : c.exceptionTable.toList = tableOf [(0, 10, 13, 13)] := vx_table (x := yL_told) Bd (hts _ List.mem_cons_self)
  have hown : s.vm.findClass RL = some m.cls := findClass_of_methodNamed Bd.named
  rw [lg_entry_eq]
  have hlen : (lg_sl ((([.inr (.inr (some a)), .inl p0, .inl p1, .inr (.inr o)] : List mj_V)).map mj_val)).length ≤ 5 := by rw [mj_wd_eq]; show 4 ≤ 5; decide
  have hls := lv_entry ((([.inr (.inr (some a)), .inl p0, .inl p1, .inr (.inr o)] : List mj_V)).map mj_val) (n := 5) hlen
  generalize ((lg_sl ((([.inr (.inr (some a)), .inl p0, .inl p1, .inr (.inr o)] : List mj_V)).map mj_val) ++ List.replicate (5 - (lg_sl ((([.inr (.inr (some a)), .inl p0, .inl p1, .inr (.inr o)] : List mj_V)).map mj_val)).length) Slot.unset).toArray) = ls at hls ⊢
  have h0 : ls[0]? = some (.val (.ref a)) := lv_at hls 0 rfl
  have h1 : ls[1]? = some (.val (.int (Int32.ofInt p0))) := lv_at hls 1 rfl
  have h2 : ls[2]? = some (.val (.int (Int32.ofInt p1))) := lv_at hls 2 rfl
  have h3 : ls[3]? = some (.val (va_rf o)) := by
    cases o with
    | none => exact lv_at hls 3 rfl
    | some q => exact lv_at hls 3 rfl
  have first : W p l e (mj_rm 12 (4, 64)) s m (List.map mj_val [.inr (.inr (some a)), .inl p0, .inl p1, .inr (.inr o)]).toArray below meth c s.heap [] 0 0 (MQ below (mj_Q D dA B (fun r G' M' => r = some (.inl 1) ∧ G' = G ∧ M' = M)) (List.map mj_val [.inr (.inr (some a)), .inl p0, .inl p1, .inr (.inr o)]).toArray s 4 64 (fun q => B ≤ q)) (F0 m 1 ls [va_rf o]) := by
    refine lv_iconst (n := 0) Bd.exec Bd.bytes (by decide +kernel) rfl ?_
    refine lv_aload_n (k := 0) Bd.exec Bd.bytes (by decide +kernel) rfl h0 ?_
    refine lv_iload_n (k := 1) Bd.exec Bd.bytes (by decide +kernel) rfl h1 ?_
    refine lv_iload_n (k := 2) Bd.exec Bd.bytes (by decide +kernel) rfl h2 ?_
    have hgood : GoodIn mj_tb (wsV RL 7 RX11 yX11_told (.code yX11_told cX11_told 3 (some .int) :: mj_tb)) := mj_good fun w hw => by
      simp only [wsV, List.cons_append, List.nil_append, List.mem_cons] at hw
      rcases hw with rfl | rfl | rfl | rfl | rfl | hw
      · exact td_w5.1
      · exact td_w5.2.1
      · exact td_w5.2.2.1
      · exact td_w4.2.2.2.1
      · exact td_w5.2.2.2
      · exact hw
    obtain ⟨b, c0, t1, t2, t3, n1, n2, n3, g1, e1, m1, g2, e2, m2, g3, e3, m3⟩ := id hp
    have hcat : ∀ o : Option Nat, (va_rf o).category = 1 := fun o => by cases o <;> rfl
    have hr := vx_runV (R := (mj_rm 12 (4, 64))) (As := [Value.int (Int32.ofInt p0), Value.int (Int32.ofInt p1)]) (rest := [Value.int 0, va_rf o]) (b := a) (H := s.heap) (locs := []) (cells := 0) (slots := 0) (g := F0 m 5 ls [Value.int (Int32.ofInt p1), Value.int (Int32.ofInt p0), Value.ref a, Value.int 0, va_rf o]) (below := below) (meth := meth) (e := e) ⟨Bd.exec, Bd.bytes, hml, hown, htb⟩ (td_x (D := D) (dA := dA) (B := B) (sa := sa) (p0 := p0) (p1 := p1) hl hp)
      (cwV 2 htb hgood rfl rfl rfl ⟨rfl, by decide, by decide, by decide⟩ ⟨by decide, by decide⟩) ⟨td_blind, td_obj (ci := 10) hH hK g1 e1 rfl, fun U hU hW => ⟨rfl, ⟨by rw [hU]; exact hH, mj_K.moved hW.alike hK, fun v hv => hok v (by
        simp only [List.mem_cons, List.not_mem_nil, or_false] at hv ⊢
        rcases hv with h | h | h <;> simp [h]), by rw [hU]; exact hB⟩, hS4.kept va_S.rf hU hW⟩⟩ rfl rfl hls.1 rfl (by show 2 * 0 + (1 + ((va_rf o).category + 0)) ≤ 8; rw [hcat]; decide) (show decode cL_told 5 = .ok (.invokevirtual 7, 3) from by decide +kernel) ⟨by decide, by decide⟩
    intro T hT XS
    rcases hr T hT XS with ⟨v, st₀, t, T', L', h00, X', hL', x1, x2, hq, stp⟩ | ⟨q, st₀, t, T', L', E, ce, h00, X', hL', x1, x2, hq, hce, hcv, hcl, stp⟩
    · exact hq.elim
    · obtain ⟨rfl, hH', hK', hz, hk⟩ := hq
      rw [h00] at hz hk
      have hS' : va_S (fun q => B ≤ q) s.heap T'.heap ([] ++ L') := ⟨by rw [x1]; exact hz, fun q h1 h2 => by rw [x1]; exact hk q h1 h2, fun q hq => by
          rcases List.mem_append.mp hq with h | h
          · cases h
          · exact hL' q h⟩
      have hH9 : mj_H D dA B G M T'.heap := by rw [x1]; exact hH'
      have K : W p l e (mj_rm 12 (4, 64)) s m (List.map mj_val [.inr (.inr (some a)), .inl p0, .inl p1, .inr (.inr o)]).toArray below meth c T'.heap ([] ++ L') (0 + 1) (0 + 6) (MQ below (mj_Q D dA B (fun r G' M' => r = some (.inl 1) ∧ G' = G ∧ M' = M)) (List.map mj_val [.inr (.inr (some a)), .inl p0, .inl p1, .inr (.inr o)]).toArray s 4 64 (fun q => B ≤ q)) (F0 m 13 ls [.ref q]) := by
        refine lv_astore (i := 4) Bd.exec Bd.bytes (by decide +kernel) hls (by decide) rfl (fun ls' _ => ?_)
        refine lv_iconst (n := 1) Bd.exec Bd.bytes (by decide +kernel) rfl ?_
        refine W.widen (k := 4) (n := 64) (by decide) (by decide) ?_
        exact W.iret Bd.exec Bd.bytes Bd.returns (fun t9 ht9 hW9 => ⟨some (.inl 1), G, M, rfl, ⟨rfl, rfl, rfl⟩, (fun v hv => by cases hv; exact ⟨by decide, by decide⟩), by rw [ht9]; exact hH9, mj_K.moved hW9.alike hK, hS'.F ht9⟩) hS'.2.2 (by decide +kernel) Bd.notSynchronized
      have hcw := vx_catch (own := RL) (name := td_E) (E := td_E) (ce := ce) (q := q) (pc := 5) (rest := [Value.int 0, va_rf o]) (ls := ls) hown [] { startPc := 0, endPc := 10, handlerPc := 13, catchType := 13 } [] (by rw [htab]; rfl) (fun z hz => by cases hz) td_cov (by decide) (htb _ td_w3.2.2) (va_Nw.use rfl hS4.2.2.2.1) (by rw [x1]; exact hce) hcv hcl K
      obtain ⟨t2, a1, b1⟩ := hcw T' rfl X'
      exact ⟨t2, stp.trans a1, b1⟩
  cases o with
  | none => exact lv_aload_nN (k := 3) Bd.exec Bd.bytes (by decide +kernel) rfl h3 first
  | some q => exact lv_aload_n (k := 3) Bd.exec Bd.bytes (by decide +kernel) rfl h3 first
end
