section
/-! the exception rows of part 02 (as the task prints them) rest on these two: named in full, so that a round on a new machine reads the whole library -/
theorem mj_wide : True := by
  have _h1 := @Jvm.Stand.outThrough
  have _h2 := @Jvm.Stand.thenCaughtThrough
  trivial
end
section
-- ===== PART A: goes FIRST, ahead of the names: the tables' words, and 'selects' of the private methods out of them =====
/-- a private method of a class that the tables say can be made, by its rows of tables_1 -/
def lw_okq (q : MethodName × Nat) : Prop := (q.1.cls ≠ "java/lang/invoke/MethodHandle" ∧ q.1.cls ≠ "java/lang/invoke/VarHandle") ∧ Cond.instantiable q.1.cls q.2 ∈ tables_1 ∧ Cond.privateMethod q.1 ∈ tables_1 ∧ Cond.instanceMethod q.1 ∈ tables_1
theorem lw_p0 : lw_okq (⟨"RentRiver$Tape", "readRun", "()V"⟩, 12) := ⟨⟨by decide +kernel, by decide +kernel⟩, List.mem_of_getElem? (i := 30) (by decide +kernel), List.mem_of_getElem? (i := 551) (by decide +kernel), List.mem_of_getElem? (i := 552) (by decide +kernel)⟩
theorem lw_p1 : lw_okq (⟨"RentRiver$Plain", "readRow", "(LRentRiver$Tape;)Z"⟩, 15) := ⟨⟨by decide +kernel, by decide +kernel⟩, List.mem_of_getElem? (i := 91) (by decide +kernel), List.mem_of_getElem? (i := 560) (by decide +kernel), List.mem_of_getElem? (i := 561) (by decide +kernel)⟩
theorem lw_p2 : lw_okq (⟨"RentRiver$Plain", "readTown", "(LRentRiver$Tape;)Z"⟩, 15) := ⟨⟨by decide +kernel, by decide +kernel⟩, List.mem_of_getElem? (i := 91) (by decide +kernel), List.mem_of_getElem? (i := 570) (by decide +kernel), List.mem_of_getElem? (i := 571) (by decide +kernel)⟩
theorem lw_p3 : lw_okq (⟨"RentRiver$Plain", "find", "(J)I"⟩, 15) := ⟨⟨by decide +kernel, by decide +kernel⟩, List.mem_of_getElem? (i := 91) (by decide +kernel), List.mem_of_getElem? (i := 579) (by decide +kernel), List.mem_of_getElem? (i := 580) (by decide +kernel)⟩
theorem lw_p4 : lw_okq (⟨"RentRiver$Plain", "readWater", "(LRentRiver$Tape;)Z"⟩, 15) := ⟨⟨by decide +kernel, by decide +kernel⟩, List.mem_of_getElem? (i := 91) (by decide +kernel), List.mem_of_getElem? (i := 594) (by decide +kernel), List.mem_of_getElem? (i := 595) (by decide +kernel)⟩
theorem lw_p5 : lw_okq (⟨"RentRiver$Plain", "readBid", "(LRentRiver$Tape;)Z"⟩, 15) := ⟨⟨by decide +kernel, by decide +kernel⟩, List.mem_of_getElem? (i := 91) (by decide +kernel), List.mem_of_getElem? (i := 600) (by decide +kernel), List.mem_of_getElem? (i := 601) (by decide +kernel)⟩
theorem lw_p6 : lw_okq (⟨"RentRiver$Plain", "readAboutTown", "(LRentRiver$Tape;LRentRiver$Word;)Z"⟩, 15) := ⟨⟨by decide +kernel, by decide +kernel⟩, List.mem_of_getElem? (i := 91) (by decide +kernel), List.mem_of_getElem? (i := 628) (by decide +kernel), List.mem_of_getElem? (i := 629) (by decide +kernel)⟩
theorem lw_p7 : lw_okq (⟨"RentRiver$Plain", "readMove", "(LRentRiver$Tape;)Z"⟩, 15) := ⟨⟨by decide +kernel, by decide +kernel⟩, List.mem_of_getElem? (i := 91) (by decide +kernel), List.mem_of_getElem? (i := 636) (by decide +kernel), List.mem_of_getElem? (i := 637) (by decide +kernel)⟩
theorem lw_p8 : lw_okq (⟨"RentRiver$Plain", "readFish", "(LRentRiver$Tape;)Z"⟩, 15) := ⟨⟨by decide +kernel, by decide +kernel⟩, List.mem_of_getElem? (i := 91) (by decide +kernel), List.mem_of_getElem? (i := 642) (by decide +kernel), List.mem_of_getElem? (i := 643) (by decide +kernel)⟩
theorem lw_p9 : lw_okq (⟨"RentRiver$Plain", "readPatience", "(LRentRiver$Tape;)Z"⟩, 15) := ⟨⟨by decide +kernel, by decide +kernel⟩, List.mem_of_getElem? (i := 91) (by decide +kernel), List.mem_of_getElem? (i := 648) (by decide +kernel), List.mem_of_getElem? (i := 649) (by decide +kernel)⟩
theorem lw_p10 : lw_okq (⟨"RentRiver", "closeTape", "(I)I"⟩, 14) := ⟨⟨by decide +kernel, by decide +kernel⟩, List.mem_of_getElem? (i := 22) (by decide +kernel), List.mem_of_getElem? (i := 669) (by decide +kernel), List.mem_of_getElem? (i := 670) (by decide +kernel)⟩
theorem lw_p11 : lw_okq (⟨"RentRiver", "isTown", "(I)Z"⟩, 14) := ⟨⟨by decide +kernel, by decide +kernel⟩, List.mem_of_getElem? (i := 22) (by decide +kernel), List.mem_of_getElem? (i := 681) (by decide +kernel), List.mem_of_getElem? (i := 682) (by decide +kernel)⟩
theorem lw_p12 : lw_okq (⟨"RentRiver$Contracts", "readRow", "(LRentRiver$Tape;LRentRiver$Plain;)Z"⟩, 4) := ⟨⟨by decide +kernel, by decide +kernel⟩, List.mem_of_getElem? (i := 171) (by decide +kernel), List.mem_of_getElem? (i := 722) (by decide +kernel), List.mem_of_getElem? (i := 723) (by decide +kernel)⟩
theorem lw_p13 : lw_okq (⟨"RentRiver$Contracts", "readLet", "(LRentRiver$Tape;LRentRiver$Plain;I)Z"⟩, 4) := ⟨⟨by decide +kernel, by decide +kernel⟩, List.mem_of_getElem? (i := 171) (by decide +kernel), List.mem_of_getElem? (i := 736) (by decide +kernel), List.mem_of_getElem? (i := 737) (by decide +kernel)⟩
theorem lw_p14 : lw_okq (⟨"RentRiver$Year", "letByContract", "(LRentRiver$Contracts;)V"⟩, 15) := ⟨⟨by decide +kernel, by decide +kernel⟩, List.mem_of_getElem? (i := 230) (by decide +kernel), List.mem_of_getElem? (i := 775) (by decide +kernel), List.mem_of_getElem? (i := 776) (by decide +kernel)⟩
theorem lw_p15 : lw_okq (⟨"RentRiver$Year", "pay", "(II)V"⟩, 15) := ⟨⟨by decide +kernel, by decide +kernel⟩, List.mem_of_getElem? (i := 230) (by decide +kernel), List.mem_of_getElem? (i := 783) (by decide +kernel), List.mem_of_getElem? (i := 784) (by decide +kernel)⟩
def lw_privs_1 : List (MethodName × Nat) := [(⟨"RentRiver$Tape", "readRun", "()V"⟩, 12), (⟨"RentRiver$Plain", "readRow", "(LRentRiver$Tape;)Z"⟩, 15), (⟨"RentRiver$Plain", "readTown", "(LRentRiver$Tape;)Z"⟩, 15), (⟨"RentRiver$Plain", "find", "(J)I"⟩, 15), (⟨"RentRiver$Plain", "readWater", "(LRentRiver$Tape;)Z"⟩, 15), (⟨"RentRiver$Plain", "readBid", "(LRentRiver$Tape;)Z"⟩, 15), (⟨"RentRiver$Plain", "readAboutTown", "(LRentRiver$Tape;LRentRiver$Word;)Z"⟩, 15), (⟨"RentRiver$Plain", "readMove", "(LRentRiver$Tape;)Z"⟩, 15), (⟨"RentRiver$Plain", "readFish", "(LRentRiver$Tape;)Z"⟩, 15), (⟨"RentRiver$Plain", "readPatience", "(LRentRiver$Tape;)Z"⟩, 15), (⟨"RentRiver", "closeTape", "(I)I"⟩, 14), (⟨"RentRiver", "isTown", "(I)Z"⟩, 14), (⟨"RentRiver$Contracts", "readRow", "(LRentRiver$Tape;LRentRiver$Plain;)Z"⟩, 4), (⟨"RentRiver$Contracts", "readLet", "(LRentRiver$Tape;LRentRiver$Plain;I)Z"⟩, 4), (⟨"RentRiver$Year", "letByContract", "(LRentRiver$Contracts;)V"⟩, 15), (⟨"RentRiver$Year", "pay", "(II)V"⟩, 15)]
theorem lw_r1 : ∀ q ∈ lw_privs_1, lw_okq q := List.forall_mem_cons.mpr ⟨lw_p0, List.forall_mem_cons.mpr ⟨lw_p1, List.forall_mem_cons.mpr ⟨lw_p2, List.forall_mem_cons.mpr ⟨lw_p3, List.forall_mem_cons.mpr ⟨lw_p4, List.forall_mem_cons.mpr ⟨lw_p5, List.forall_mem_cons.mpr ⟨lw_p6, List.forall_mem_cons.mpr ⟨lw_p7, List.forall_mem_cons.mpr ⟨lw_p8, List.forall_mem_cons.mpr ⟨lw_p9, List.forall_mem_cons.mpr ⟨lw_p10, List.forall_mem_cons.mpr ⟨lw_p11, List.forall_mem_cons.mpr ⟨lw_p12, List.forall_mem_cons.mpr ⟨lw_p13, List.forall_mem_cons.mpr ⟨lw_p14, List.forall_mem_cons.mpr ⟨lw_p15, fun _ h => absurd h List.not_mem_nil⟩⟩⟩⟩⟩⟩⟩⟩⟩⟩⟩⟩⟩⟩⟩⟩
theorem lw_p16 : lw_okq (⟨"RentRiver$Year", "letByBids", "(LRentRiver$Plain;)V"⟩, 15) := ⟨⟨by decide +kernel, by decide +kernel⟩, List.mem_of_getElem? (i := 230) (by decide +kernel), List.mem_of_getElem? (i := 787) (by decide +kernel), List.mem_of_getElem? (i := 788) (by decide +kernel)⟩
theorem lw_p17 : lw_okq (⟨"RentRiver$Year", "moveRiver", "(LRentRiver$Plain;)V"⟩, 15) := ⟨⟨by decide +kernel, by decide +kernel⟩, List.mem_of_getElem? (i := 230) (by decide +kernel), List.mem_of_getElem? (i := 791) (by decide +kernel), List.mem_of_getElem? (i := 792) (by decide +kernel)⟩
theorem lw_p18 : lw_okq (⟨"RentRiver$Year", "bridgeTo", "(LRentRiver$Plain;I)I"⟩, 15) := ⟨⟨by decide +kernel, by decide +kernel⟩, List.mem_of_getElem? (i := 230) (by decide +kernel), List.mem_of_getElem? (i := 802) (by decide +kernel), List.mem_of_getElem? (i := 803) (by decide +kernel)⟩
theorem lw_p19 : lw_okq (⟨"RentRiver$Year", "pour", "(LRentRiver$Plain;I)V"⟩, 15) := ⟨⟨by decide +kernel, by decide +kernel⟩, List.mem_of_getElem? (i := 230) (by decide +kernel), List.mem_of_getElem? (i := 809) (by decide +kernel), List.mem_of_getElem? (i := 810) (by decide +kernel)⟩
theorem lw_p20 : lw_okq (⟨"RentRiver$Year", "pourTo", "(LRentRiver$Plain;II)V"⟩, 15) := ⟨⟨by decide +kernel, by decide +kernel⟩, List.mem_of_getElem? (i := 230) (by decide +kernel), List.mem_of_getElem? (i := 813) (by decide +kernel), List.mem_of_getElem? (i := 814) (by decide +kernel)⟩
theorem lw_p21 : lw_okq (⟨"RentRiver$Year", "drink", "(LRentRiver$Plain;I)V"⟩, 15) := ⟨⟨by decide +kernel, by decide +kernel⟩, List.mem_of_getElem? (i := 230) (by decide +kernel), List.mem_of_getElem? (i := 818) (by decide +kernel), List.mem_of_getElem? (i := 819) (by decide +kernel)⟩
theorem lw_p22 : lw_okq (⟨"RentRiver$Year", "waterField", "(LRentRiver$Plain;I)V"⟩, 15) := ⟨⟨by decide +kernel, by decide +kernel⟩, List.mem_of_getElem? (i := 230) (by decide +kernel), List.mem_of_getElem? (i := 822) (by decide +kernel), List.mem_of_getElem? (i := 823) (by decide +kernel)⟩
theorem lw_p23 : lw_okq (⟨"RentRiver$Year", "harvest", "(LRentRiver$Plain;)V"⟩, 15) := ⟨⟨by decide +kernel, by decide +kernel⟩, List.mem_of_getElem? (i := 230) (by decide +kernel), List.mem_of_getElem? (i := 826) (by decide +kernel), List.mem_of_getElem? (i := 827) (by decide +kernel)⟩
theorem lw_p24 : lw_okq (⟨"RentRiver$Year", "inPonds", "()I"⟩, 15) := ⟨⟨by decide +kernel, by decide +kernel⟩, List.mem_of_getElem? (i := 230) (by decide +kernel), List.mem_of_getElem? (i := 838) (by decide +kernel), List.mem_of_getElem? (i := 839) (by decide +kernel)⟩
theorem lw_p25 : lw_okq (⟨"RentRiver$Cheapest", "searchPlan", "(LRentRiver$Plain;)I"⟩, 19) := ⟨⟨by decide +kernel, by decide +kernel⟩, List.mem_of_getElem? (i := 331) (by decide +kernel), List.mem_of_getElem? (i := 862) (by decide +kernel), List.mem_of_getElem? (i := 863) (by decide +kernel)⟩
theorem lw_p26 : lw_okq (⟨"RentRiver$Cheapest", "prepare", "(LRentRiver$Plain;)V"⟩, 19) := ⟨⟨by decide +kernel, by decide +kernel⟩, List.mem_of_getElem? (i := 331) (by decide +kernel), List.mem_of_getElem? (i := 866) (by decide +kernel), List.mem_of_getElem? (i := 867) (by decide +kernel)⟩
theorem lw_p27 : lw_okq (⟨"RentRiver$Cheapest", "listTails", "()V"⟩, 19) := ⟨⟨by decide +kernel, by decide +kernel⟩, List.mem_of_getElem? (i := 331) (by decide +kernel), List.mem_of_getElem? (i := 877) (by decide +kernel), List.mem_of_getElem? (i := 878) (by decide +kernel)⟩
theorem lw_p28 : lw_okq (⟨"RentRiver$Cheapest", "putAhead", "(IIII)V"⟩, 19) := ⟨⟨by decide +kernel, by decide +kernel⟩, List.mem_of_getElem? (i := 331) (by decide +kernel), List.mem_of_getElem? (i := 881) (by decide +kernel), List.mem_of_getElem? (i := 882) (by decide +kernel)⟩
theorem lw_p29 : lw_okq (⟨"RentRiver$Cheapest", "costOf", "(II)I"⟩, 19) := ⟨⟨by decide +kernel, by decide +kernel⟩, List.mem_of_getElem? (i := 331) (by decide +kernel), List.mem_of_getElem? (i := 885) (by decide +kernel), List.mem_of_getElem? (i := 886) (by decide +kernel)⟩
theorem lw_p30 : lw_okq (⟨"RentRiver$Cheapest", "tryMonth", "(III)V"⟩, 19) := ⟨⟨by decide +kernel, by decide +kernel⟩, List.mem_of_getElem? (i := 331) (by decide +kernel), List.mem_of_getElem? (i := 891) (by decide +kernel), List.mem_of_getElem? (i := 892) (by decide +kernel)⟩
theorem lw_p31 : lw_okq (⟨"RentRiver$Cheapest", "leastToCome", "(I)I"⟩, 19) := ⟨⟨by decide +kernel, by decide +kernel⟩, List.mem_of_getElem? (i := 331) (by decide +kernel), List.mem_of_getElem? (i := 895) (by decide +kernel), List.mem_of_getElem? (i := 896) (by decide +kernel)⟩
def lw_privs_2 : List (MethodName × Nat) := [(⟨"RentRiver$Year", "letByBids", "(LRentRiver$Plain;)V"⟩, 15), (⟨"RentRiver$Year", "moveRiver", "(LRentRiver$Plain;)V"⟩, 15), (⟨"RentRiver$Year", "bridgeTo", "(LRentRiver$Plain;I)I"⟩, 15), (⟨"RentRiver$Year", "pour", "(LRentRiver$Plain;I)V"⟩, 15), (⟨"RentRiver$Year", "pourTo", "(LRentRiver$Plain;II)V"⟩, 15), (⟨"RentRiver$Year", "drink", "(LRentRiver$Plain;I)V"⟩, 15), (⟨"RentRiver$Year", "waterField", "(LRentRiver$Plain;I)V"⟩, 15), (⟨"RentRiver$Year", "harvest", "(LRentRiver$Plain;)V"⟩, 15), (⟨"RentRiver$Year", "inPonds", "()I"⟩, 15), (⟨"RentRiver$Cheapest", "searchPlan", "(LRentRiver$Plain;)I"⟩, 19), (⟨"RentRiver$Cheapest", "prepare", "(LRentRiver$Plain;)V"⟩, 19), (⟨"RentRiver$Cheapest", "listTails", "()V"⟩, 19), (⟨"RentRiver$Cheapest", "putAhead", "(IIII)V"⟩, 19), (⟨"RentRiver$Cheapest", "costOf", "(II)I"⟩, 19), (⟨"RentRiver$Cheapest", "tryMonth", "(III)V"⟩, 19), (⟨"RentRiver$Cheapest", "leastToCome", "(I)I"⟩, 19)]
theorem lw_r2 : ∀ q ∈ lw_privs_2, lw_okq q := List.forall_mem_cons.mpr ⟨lw_p16, List.forall_mem_cons.mpr ⟨lw_p17, List.forall_mem_cons.mpr ⟨lw_p18, List.forall_mem_cons.mpr ⟨lw_p19, List.forall_mem_cons.mpr ⟨lw_p20, List.forall_mem_cons.mpr ⟨lw_p21, List.forall_mem_cons.mpr ⟨lw_p22, List.forall_mem_cons.mpr ⟨lw_p23, List.forall_mem_cons.mpr ⟨lw_p24, List.forall_mem_cons.mpr ⟨lw_p25, List.forall_mem_cons.mpr ⟨lw_p26, List.forall_mem_cons.mpr ⟨lw_p27, List.forall_mem_cons.mpr ⟨lw_p28, List.forall_mem_cons.mpr ⟨lw_p29, List.forall_mem_cons.mpr ⟨lw_p30, List.forall_mem_cons.mpr ⟨lw_p31, fun _ h => absurd h List.not_mem_nil⟩⟩⟩⟩⟩⟩⟩⟩⟩⟩⟩⟩⟩⟩⟩⟩
theorem lw_p32 : lw_okq (⟨"RentRiver$Cheapest", "lacksAny", "()Z"⟩, 19) := ⟨⟨by decide +kernel, by decide +kernel⟩, List.mem_of_getElem? (i := 331) (by decide +kernel), List.mem_of_getElem? (i := 899) (by decide +kernel), List.mem_of_getElem? (i := 900) (by decide +kernel)⟩
theorem lw_p33 : lw_okq (⟨"RentRiver$Cheapest", "keepPath", "(II)V"⟩, 19) := ⟨⟨by decide +kernel, by decide +kernel⟩, List.mem_of_getElem? (i := 331) (by decide +kernel), List.mem_of_getElem? (i := 903) (by decide +kernel), List.mem_of_getElem? (i := 904) (by decide +kernel)⟩
theorem lw_p34 : lw_okq (⟨"RentRiver$Cheapest", "stayFrom", "(II)V"⟩, 19) := ⟨⟨by decide +kernel, by decide +kernel⟩, List.mem_of_getElem? (i := 331) (by decide +kernel), List.mem_of_getElem? (i := 907) (by decide +kernel), List.mem_of_getElem? (i := 908) (by decide +kernel)⟩
theorem lw_p35 : lw_okq (⟨"RentRiver$Cheapest", "firstForNothing", "(I)I"⟩, 19) := ⟨⟨by decide +kernel, by decide +kernel⟩, List.mem_of_getElem? (i := 331) (by decide +kernel), List.mem_of_getElem? (i := 911) (by decide +kernel), List.mem_of_getElem? (i := 912) (by decide +kernel)⟩
theorem lw_p36 : lw_okq (⟨"RentRiver$Cheapest", "canBe", "(I)Z"⟩, 19) := ⟨⟨by decide +kernel, by decide +kernel⟩, List.mem_of_getElem? (i := 331) (by decide +kernel), List.mem_of_getElem? (i := 915) (by decide +kernel), List.mem_of_getElem? (i := 916) (by decide +kernel)⟩
theorem lw_p37 : lw_okq (⟨"RentRiver$Cheapest", "tryTails", "(II)V"⟩, 19) := ⟨⟨by decide +kernel, by decide +kernel⟩, List.mem_of_getElem? (i := 331) (by decide +kernel), List.mem_of_getElem? (i := 919) (by decide +kernel), List.mem_of_getElem? (i := 920) (by decide +kernel)⟩
theorem lw_p38 : lw_okq (⟨"RentRiver$Cheapest", "meetsNeeds", "(I)Z"⟩, 19) := ⟨⟨by decide +kernel, by decide +kernel⟩, List.mem_of_getElem? (i := 331) (by decide +kernel), List.mem_of_getElem? (i := 923) (by decide +kernel), List.mem_of_getElem? (i := 924) (by decide +kernel)⟩
theorem lw_p39 : lw_okq (⟨"RentRiver$Cheapest", "keepTail", "(I)V"⟩, 19) := ⟨⟨by decide +kernel, by decide +kernel⟩, List.mem_of_getElem? (i := 331) (by decide +kernel), List.mem_of_getElem? (i := 927) (by decide +kernel), List.mem_of_getElem? (i := 928) (by decide +kernel)⟩
theorem lw_p40 : lw_okq (⟨"RentRiver$Rounds", "clear", "()V"⟩, 4) := ⟨⟨by decide +kernel, by decide +kernel⟩, List.mem_of_getElem? (i := 399) (by decide +kernel), List.mem_of_getElem? (i := 948) (by decide +kernel), List.mem_of_getElem? (i := 949) (by decide +kernel)⟩
theorem lw_p41 : lw_okq (⟨"RentRiver$Rounds", "takeBest", "(LRentRiver$Plain;II)Z"⟩, 4) := ⟨⟨by decide +kernel, by decide +kernel⟩, List.mem_of_getElem? (i := 399) (by decide +kernel), List.mem_of_getElem? (i := 952) (by decide +kernel), List.mem_of_getElem? (i := 953) (by decide +kernel)⟩
theorem lw_p42 : lw_okq (⟨"RentRiver$Rounds", "priceNow", "(II)I"⟩, 4) := ⟨⟨by decide +kernel, by decide +kernel⟩, List.mem_of_getElem? (i := 399) (by decide +kernel), List.mem_of_getElem? (i := 956) (by decide +kernel), List.mem_of_getElem? (i := 957) (by decide +kernel)⟩
theorem lw_p43 : lw_okq (⟨"RentRiver$Leaks", "comesBy", "(LRentRiver$Plain;LRentRiver$Contracts;II)Z"⟩, 8) := ⟨⟨by decide +kernel, by decide +kernel⟩, List.mem_of_getElem? (i := 421) (by decide +kernel), List.mem_of_getElem? (i := 982) (by decide +kernel), List.mem_of_getElem? (i := 983) (by decide +kernel)⟩
theorem lw_p44 : lw_okq (⟨"RentRiver$Leaks", "asTold", "(LRentRiver$Year;I)Z"⟩, 8) := ⟨⟨by decide +kernel, by decide +kernel⟩, List.mem_of_getElem? (i := 421) (by decide +kernel), List.mem_of_getElem? (i := 996) (by decide +kernel), List.mem_of_getElem? (i := 997) (by decide +kernel)⟩
theorem lw_p45 : lw_okq (⟨"RentRiver$Leaks", "keep", "(III)V"⟩, 8) := ⟨⟨by decide +kernel, by decide +kernel⟩, List.mem_of_getElem? (i := 421) (by decide +kernel), List.mem_of_getElem? (i := 1000) (by decide +kernel), List.mem_of_getElem? (i := 1001) (by decide +kernel)⟩
theorem lw_p46 : lw_okq (⟨"RentRiver", "mostGain", "(II)I"⟩, 14) := ⟨⟨by decide +kernel, by decide +kernel⟩, List.mem_of_getElem? (i := 22) (by decide +kernel), List.mem_of_getElem? (i := 1016) (by decide +kernel), List.mem_of_getElem? (i := 1017) (by decide +kernel)⟩
theorem lw_p47 : lw_okq (⟨"RentRiver", "tryYear", "(LRentRiver$Plain;)V"⟩, 14) := ⟨⟨by decide +kernel, by decide +kernel⟩, List.mem_of_getElem? (i := 22) (by decide +kernel), List.mem_of_getElem? (i := 1025) (by decide +kernel), List.mem_of_getElem? (i := 1026) (by decide +kernel)⟩
def lw_privs_3 : List (MethodName × Nat) := [(⟨"RentRiver$Cheapest", "lacksAny", "()Z"⟩, 19), (⟨"RentRiver$Cheapest", "keepPath", "(II)V"⟩, 19), (⟨"RentRiver$Cheapest", "stayFrom", "(II)V"⟩, 19), (⟨"RentRiver$Cheapest", "firstForNothing", "(I)I"⟩, 19), (⟨"RentRiver$Cheapest", "canBe", "(I)Z"⟩, 19), (⟨"RentRiver$Cheapest", "tryTails", "(II)V"⟩, 19), (⟨"RentRiver$Cheapest", "meetsNeeds", "(I)Z"⟩, 19), (⟨"RentRiver$Cheapest", "keepTail", "(I)V"⟩, 19), (⟨"RentRiver$Rounds", "clear", "()V"⟩, 4), (⟨"RentRiver$Rounds", "takeBest", "(LRentRiver$Plain;II)Z"⟩, 4), (⟨"RentRiver$Rounds", "priceNow", "(II)I"⟩, 4), (⟨"RentRiver$Leaks", "comesBy", "(LRentRiver$Plain;LRentRiver$Contracts;II)Z"⟩, 8), (⟨"RentRiver$Leaks", "asTold", "(LRentRiver$Year;I)Z"⟩, 8), (⟨"RentRiver$Leaks", "keep", "(III)V"⟩, 8), (⟨"RentRiver", "mostGain", "(II)I"⟩, 14), (⟨"RentRiver", "tryYear", "(LRentRiver$Plain;)V"⟩, 14)]
theorem lw_r3 : ∀ q ∈ lw_privs_3, lw_okq q := List.forall_mem_cons.mpr ⟨lw_p32, List.forall_mem_cons.mpr ⟨lw_p33, List.forall_mem_cons.mpr ⟨lw_p34, List.forall_mem_cons.mpr ⟨lw_p35, List.forall_mem_cons.mpr ⟨lw_p36, List.forall_mem_cons.mpr ⟨lw_p37, List.forall_mem_cons.mpr ⟨lw_p38, List.forall_mem_cons.mpr ⟨lw_p39, List.forall_mem_cons.mpr ⟨lw_p40, List.forall_mem_cons.mpr ⟨lw_p41, List.forall_mem_cons.mpr ⟨lw_p42, List.forall_mem_cons.mpr ⟨lw_p43, List.forall_mem_cons.mpr ⟨lw_p44, List.forall_mem_cons.mpr ⟨lw_p45, List.forall_mem_cons.mpr ⟨lw_p46, List.forall_mem_cons.mpr ⟨lw_p47, fun _ h => absurd h List.not_mem_nil⟩⟩⟩⟩⟩⟩⟩⟩⟩⟩⟩⟩⟩⟩⟩⟩
theorem lw_p48 : lw_okq (⟨"RentRiver", "putNumber", "(I)V"⟩, 14) := ⟨⟨by decide +kernel, by decide +kernel⟩, List.mem_of_getElem? (i := 22) (by decide +kernel), List.mem_of_getElem? (i := 1049) (by decide +kernel), List.mem_of_getElem? (i := 1050) (by decide +kernel)⟩
theorem lw_p49 : lw_okq (⟨"RentRiver", "putByte", "(I)V"⟩, 14) := ⟨⟨by decide +kernel, by decide +kernel⟩, List.mem_of_getElem? (i := 22) (by decide +kernel), List.mem_of_getElem? (i := 1053) (by decide +kernel), List.mem_of_getElem? (i := 1054) (by decide +kernel)⟩
theorem lw_p50 : lw_okq (⟨"RentRiver", "putTenant", "(I)V"⟩, 14) := ⟨⟨by decide +kernel, by decide +kernel⟩, List.mem_of_getElem? (i := 22) (by decide +kernel), List.mem_of_getElem? (i := 1057) (by decide +kernel), List.mem_of_getElem? (i := 1058) (by decide +kernel)⟩
theorem lw_p51 : lw_okq (⟨"RentRiver$Sentence", "readCond", "(LRentRiver$Tape;I)Z"⟩, 6) := ⟨⟨by decide +kernel, by decide +kernel⟩, List.mem_of_getElem? (i := 201) (by decide +kernel), List.mem_of_getElem? (i := 1107) (by decide +kernel), List.mem_of_getElem? (i := 1108) (by decide +kernel)⟩
theorem lw_p52 : lw_okq (⟨"RentRiver$Sentence", "readAll", "(LRentRiver$Tape;I)Z"⟩, 6) := ⟨⟨by decide +kernel, by decide +kernel⟩, List.mem_of_getElem? (i := 201) (by decide +kernel), List.mem_of_getElem? (i := 1111) (by decide +kernel), List.mem_of_getElem? (i := 1112) (by decide +kernel)⟩
theorem lw_p53 : lw_okq (⟨"RentRiver$Sentence", "readOne", "(LRentRiver$Tape;I)Z"⟩, 6) := ⟨⟨by decide +kernel, by decide +kernel⟩, List.mem_of_getElem? (i := 201) (by decide +kernel), List.mem_of_getElem? (i := 1115) (by decide +kernel), List.mem_of_getElem? (i := 1116) (by decide +kernel)⟩
theorem lw_p54 : lw_okq (⟨"RentRiver$Sentence", "readClosing", "(LRentRiver$Tape;)Z"⟩, 6) := ⟨⟨by decide +kernel, by decide +kernel⟩, List.mem_of_getElem? (i := 201) (by decide +kernel), List.mem_of_getElem? (i := 1148) (by decide +kernel), List.mem_of_getElem? (i := 1149) (by decide +kernel)⟩
theorem lw_p55 : lw_okq (⟨"RentRiver$Sentence", "add", "(LRentRiver$Word;II)Z"⟩, 6) := ⟨⟨by decide +kernel, by decide +kernel⟩, List.mem_of_getElem? (i := 201) (by decide +kernel), List.mem_of_getElem? (i := 1152) (by decide +kernel), List.mem_of_getElem? (i := 1153) (by decide +kernel)⟩
theorem lw_p56 : lw_okq (⟨"RentRiver$Sentence", "readMeasure", "(LRentRiver$Tape;LRentRiver$Word;)Z"⟩, 6) := ⟨⟨by decide +kernel, by decide +kernel⟩, List.mem_of_getElem? (i := 201) (by decide +kernel), List.mem_of_getElem? (i := 1156) (by decide +kernel), List.mem_of_getElem? (i := 1157) (by decide +kernel)⟩
theorem lw_p57 : lw_okq (⟨"RentRiver$Sentence", "holdsOne", "(LRentRiver$Plain;LRentRiver$Year;II)Z"⟩, 6) := ⟨⟨by decide +kernel, by decide +kernel⟩, List.mem_of_getElem? (i := 201) (by decide +kernel), List.mem_of_getElem? (i := 1174) (by decide +kernel), List.mem_of_getElem? (i := 1175) (by decide +kernel)⟩
theorem lw_p58 : lw_okq (⟨"java/lang/Throwable", "fillInStackTrace", "(I)Ljava/lang/Throwable;"⟩, 6) := ⟨⟨by decide +kernel, by decide +kernel⟩, List.mem_of_getElem? (i := 1250) (by decide +kernel), List.mem_of_getElem? (i := 1248) (by decide +kernel), List.mem_of_getElem? (i := 1249) (by decide +kernel)⟩
theorem lw_p59 : lw_okq (⟨"RentRiverModel", "four", "(I)V"⟩, 62) := ⟨⟨by decide +kernel, by decide +kernel⟩, List.mem_of_getElem? (i := 1285) (by decide +kernel), List.mem_of_getElem? (i := 1283) (by decide +kernel), List.mem_of_getElem? (i := 1284) (by decide +kernel)⟩
theorem lw_p60 : lw_okq (⟨"RentRiverModel", "taken", "(I)V"⟩, 62) := ⟨⟨by decide +kernel, by decide +kernel⟩, List.mem_of_getElem? (i := 1285) (by decide +kernel), List.mem_of_getElem? (i := 1512) (by decide +kernel), List.mem_of_getElem? (i := 1513) (by decide +kernel)⟩
theorem lw_p61 : lw_okq (⟨"RentRiverModel", "next", "()V"⟩, 62) := ⟨⟨by decide +kernel, by decide +kernel⟩, List.mem_of_getElem? (i := 1285) (by decide +kernel), List.mem_of_getElem? (i := 1516) (by decide +kernel), List.mem_of_getElem? (i := 1517) (by decide +kernel)⟩
theorem lw_p62 : lw_okq (⟨"RentRiverModel", "peek", "()I"⟩, 62) := ⟨⟨by decide +kernel, by decide +kernel⟩, List.mem_of_getElem? (i := 1285) (by decide +kernel), List.mem_of_getElem? (i := 1520) (by decide +kernel), List.mem_of_getElem? (i := 1521) (by decide +kernel)⟩
theorem lw_p63 : lw_okq (⟨"RentRiverModel", "row", "()Z"⟩, 62) := ⟨⟨by decide +kernel, by decide +kernel⟩, List.mem_of_getElem? (i := 1285) (by decide +kernel), List.mem_of_getElem? (i := 1530) (by decide +kernel), List.mem_of_getElem? (i := 1531) (by decide +kernel)⟩
def lw_privs_4 : List (MethodName × Nat) := [(⟨"RentRiver", "putNumber", "(I)V"⟩, 14), (⟨"RentRiver", "putByte", "(I)V"⟩, 14), (⟨"RentRiver", "putTenant", "(I)V"⟩, 14), (⟨"RentRiver$Sentence", "readCond", "(LRentRiver$Tape;I)Z"⟩, 6), (⟨"RentRiver$Sentence", "readAll", "(LRentRiver$Tape;I)Z"⟩, 6), (⟨"RentRiver$Sentence", "readOne", "(LRentRiver$Tape;I)Z"⟩, 6), (⟨"RentRiver$Sentence", "readClosing", "(LRentRiver$Tape;)Z"⟩, 6), (⟨"RentRiver$Sentence", "add", "(LRentRiver$Word;II)Z"⟩, 6), (⟨"RentRiver$Sentence", "readMeasure", "(LRentRiver$Tape;LRentRiver$Word;)Z"⟩, 6), (⟨"RentRiver$Sentence", "holdsOne", "(LRentRiver$Plain;LRentRiver$Year;II)Z"⟩, 6), (⟨"java/lang/Throwable", "fillInStackTrace", "(I)Ljava/lang/Throwable;"⟩, 6), (⟨"RentRiverModel", "four", "(I)V"⟩, 62), (⟨"RentRiverModel", "taken", "(I)V"⟩, 62), (⟨"RentRiverModel", "next", "()V"⟩, 62), (⟨"RentRiverModel", "peek", "()I"⟩, 62), (⟨"RentRiverModel", "row", "()Z"⟩, 62)]
theorem lw_r4 : ∀ q ∈ lw_privs_4, lw_okq q := List.forall_mem_cons.mpr ⟨lw_p48, List.forall_mem_cons.mpr ⟨lw_p49, List.forall_mem_cons.mpr ⟨lw_p50, List.forall_mem_cons.mpr ⟨lw_p51, List.forall_mem_cons.mpr ⟨lw_p52, List.forall_mem_cons.mpr ⟨lw_p53, List.forall_mem_cons.mpr ⟨lw_p54, List.forall_mem_cons.mpr ⟨lw_p55, List.forall_mem_cons.mpr ⟨lw_p56, List.forall_mem_cons.mpr ⟨lw_p57, List.forall_mem_cons.mpr ⟨lw_p58, List.forall_mem_cons.mpr ⟨lw_p59, List.forall_mem_cons.mpr ⟨lw_p60, List.forall_mem_cons.mpr ⟨lw_p61, List.forall_mem_cons.mpr ⟨lw_p62, List.forall_mem_cons.mpr ⟨lw_p63, fun _ h => absurd h List.not_mem_nil⟩⟩⟩⟩⟩⟩⟩⟩⟩⟩⟩⟩⟩⟩⟩⟩
theorem lw_p64 : lw_okq (⟨"RentRiverModel", "isWord", "(J)Z"⟩, 62) := ⟨⟨by decide +kernel, by decide +kernel⟩, List.mem_of_getElem? (i := 1285) (by decide +kernel), List.mem_of_getElem? (i := 1534) (by decide +kernel), List.mem_of_getElem? (i := 1535) (by decide +kernel)⟩
theorem lw_p65 : lw_okq (⟨"RentRiverModel", "readTown", "()Z"⟩, 62) := ⟨⟨by decide +kernel, by decide +kernel⟩, List.mem_of_getElem? (i := 1285) (by decide +kernel), List.mem_of_getElem? (i := 1538) (by decide +kernel), List.mem_of_getElem? (i := 1539) (by decide +kernel)⟩
theorem lw_p66 : lw_okq (⟨"RentRiverModel", "bad", "(I)Z"⟩, 62) := ⟨⟨by decide +kernel, by decide +kernel⟩, List.mem_of_getElem? (i := 1285) (by decide +kernel), List.mem_of_getElem? (i := 1542) (by decide +kernel), List.mem_of_getElem? (i := 1543) (by decide +kernel)⟩
theorem lw_p67 : lw_okq (⟨"RentRiverModel", "isName", "()Z"⟩, 62) := ⟨⟨by decide +kernel, by decide +kernel⟩, List.mem_of_getElem? (i := 1285) (by decide +kernel), List.mem_of_getElem? (i := 1546) (by decide +kernel), List.mem_of_getElem? (i := 1547) (by decide +kernel)⟩
theorem lw_p68 : lw_okq (⟨"RentRiverModel", "find", "(II)I"⟩, 62) := ⟨⟨by decide +kernel, by decide +kernel⟩, List.mem_of_getElem? (i := 1285) (by decide +kernel), List.mem_of_getElem? (i := 1550) (by decide +kernel), List.mem_of_getElem? (i := 1551) (by decide +kernel)⟩
theorem lw_p69 : lw_okq (⟨"RentRiverModel", "takes", "(II)Z"⟩, 62) := ⟨⟨by decide +kernel, by decide +kernel⟩, List.mem_of_getElem? (i := 1285) (by decide +kernel), List.mem_of_getElem? (i := 1554) (by decide +kernel), List.mem_of_getElem? (i := 1555) (by decide +kernel)⟩
theorem lw_p70 : lw_okq (⟨"RentRiverModel", "readBid", "()Z"⟩, 62) := ⟨⟨by decide +kernel, by decide +kernel⟩, List.mem_of_getElem? (i := 1285) (by decide +kernel), List.mem_of_getElem? (i := 1564) (by decide +kernel), List.mem_of_getElem? (i := 1565) (by decide +kernel)⟩
theorem lw_p71 : lw_okq (⟨"RentRiverModel", "readOf", "(III)Z"⟩, 62) := ⟨⟨by decide +kernel, by decide +kernel⟩, List.mem_of_getElem? (i := 1285) (by decide +kernel), List.mem_of_getElem? (i := 1568) (by decide +kernel), List.mem_of_getElem? (i := 1569) (by decide +kernel)⟩
theorem lw_p72 : lw_okq (⟨"RentRiverModel", "sign", "(I)Z"⟩, 62) := ⟨⟨by decide +kernel, by decide +kernel⟩, List.mem_of_getElem? (i := 1285) (by decide +kernel), List.mem_of_getElem? (i := 1572) (by decide +kernel), List.mem_of_getElem? (i := 1573) (by decide +kernel)⟩
theorem lw_p73 : lw_okq (⟨"RentRiverModel", "isSign", "(I)Z"⟩, 62) := ⟨⟨by decide +kernel, by decide +kernel⟩, List.mem_of_getElem? (i := 1285) (by decide +kernel), List.mem_of_getElem? (i := 1576) (by decide +kernel), List.mem_of_getElem? (i := 1577) (by decide +kernel)⟩
theorem lw_p74 : lw_okq (⟨"RentRiverModel", "isTown", "(I)Z"⟩, 62) := ⟨⟨by decide +kernel, by decide +kernel⟩, List.mem_of_getElem? (i := 1285) (by decide +kernel), List.mem_of_getElem? (i := 1588) (by decide +kernel), List.mem_of_getElem? (i := 1589) (by decide +kernel)⟩
theorem lw_p75 : lw_okq (⟨"RentRiverModel", "throwsIf", "(Z)Z"⟩, 62) := ⟨⟨by decide +kernel, by decide +kernel⟩, List.mem_of_getElem? (i := 1285) (by decide +kernel), List.mem_of_getElem? (i := 1592) (by decide +kernel), List.mem_of_getElem? (i := 1593) (by decide +kernel)⟩
theorem lw_p76 : lw_okq (⟨"RentRiverModel", "toldOf", "(II)I"⟩, 62) := ⟨⟨by decide +kernel, by decide +kernel⟩, List.mem_of_getElem? (i := 1285) (by decide +kernel), List.mem_of_getElem? (i := 1596) (by decide +kernel), List.mem_of_getElem? (i := 1597) (by decide +kernel)⟩
theorem lw_p77 : lw_okq (⟨"RentRiverModel", "bidOf", "(II)I"⟩, 62) := ⟨⟨by decide +kernel, by decide +kernel⟩, List.mem_of_getElem? (i := 1285) (by decide +kernel), List.mem_of_getElem? (i := 1607) (by decide +kernel), List.mem_of_getElem? (i := 1608) (by decide +kernel)⟩
theorem lw_p78 : lw_okq (⟨"RentRiverModel", "bidMany", "()I"⟩, 62) := ⟨⟨by decide +kernel, by decide +kernel⟩, List.mem_of_getElem? (i := 1285) (by decide +kernel), List.mem_of_getElem? (i := 1619) (by decide +kernel), List.mem_of_getElem? (i := 1620) (by decide +kernel)⟩
theorem lw_p79 : lw_okq (⟨"RentRiverModel", "dealRow", "()Z"⟩, 62) := ⟨⟨by decide +kernel, by decide +kernel⟩, List.mem_of_getElem? (i := 1285) (by decide +kernel), List.mem_of_getElem? (i := 1631) (by decide +kernel), List.mem_of_getElem? (i := 1632) (by decide +kernel)⟩
def lw_privs_5 : List (MethodName × Nat) := [(⟨"RentRiverModel", "isWord", "(J)Z"⟩, 62), (⟨"RentRiverModel", "readTown", "()Z"⟩, 62), (⟨"RentRiverModel", "bad", "(I)Z"⟩, 62), (⟨"RentRiverModel", "isName", "()Z"⟩, 62), (⟨"RentRiverModel", "find", "(II)I"⟩, 62), (⟨"RentRiverModel", "takes", "(II)Z"⟩, 62), (⟨"RentRiverModel", "readBid", "()Z"⟩, 62), (⟨"RentRiverModel", "readOf", "(III)Z"⟩, 62), (⟨"RentRiverModel", "sign", "(I)Z"⟩, 62), (⟨"RentRiverModel", "isSign", "(I)Z"⟩, 62), (⟨"RentRiverModel", "isTown", "(I)Z"⟩, 62), (⟨"RentRiverModel", "throwsIf", "(Z)Z"⟩, 62), (⟨"RentRiverModel", "toldOf", "(II)I"⟩, 62), (⟨"RentRiverModel", "bidOf", "(II)I"⟩, 62), (⟨"RentRiverModel", "bidMany", "()I"⟩, 62), (⟨"RentRiverModel", "dealRow", "()Z"⟩, 62)]
theorem lw_r5 : ∀ q ∈ lw_privs_5, lw_okq q := List.forall_mem_cons.mpr ⟨lw_p64, List.forall_mem_cons.mpr ⟨lw_p65, List.forall_mem_cons.mpr ⟨lw_p66, List.forall_mem_cons.mpr ⟨lw_p67, List.forall_mem_cons.mpr ⟨lw_p68, List.forall_mem_cons.mpr ⟨lw_p69, List.forall_mem_cons.mpr ⟨lw_p70, List.forall_mem_cons.mpr ⟨lw_p71, List.forall_mem_cons.mpr ⟨lw_p72, List.forall_mem_cons.mpr ⟨lw_p73, List.forall_mem_cons.mpr ⟨lw_p74, List.forall_mem_cons.mpr ⟨lw_p75, List.forall_mem_cons.mpr ⟨lw_p76, List.forall_mem_cons.mpr ⟨lw_p77, List.forall_mem_cons.mpr ⟨lw_p78, List.forall_mem_cons.mpr ⟨lw_p79, fun _ h => absurd h List.not_mem_nil⟩⟩⟩⟩⟩⟩⟩⟩⟩⟩⟩⟩⟩⟩⟩⟩
theorem lw_p80 : lw_okq (⟨"RentRiverModel", "begins", "()V"⟩, 62) := ⟨⟨by decide +kernel, by decide +kernel⟩, List.mem_of_getElem? (i := 1285) (by decide +kernel), List.mem_of_getElem? (i := 1643) (by decide +kernel), List.mem_of_getElem? (i := 1644) (by decide +kernel)⟩
theorem lw_p81 : lw_okq (⟨"RentRiverModel", "month", "(I)V"⟩, 62) := ⟨⟨by decide +kernel, by decide +kernel⟩, List.mem_of_getElem? (i := 1285) (by decide +kernel), List.mem_of_getElem? (i := 1651) (by decide +kernel), List.mem_of_getElem? (i := 1652) (by decide +kernel)⟩
theorem lw_p82 : lw_okq (⟨"RentRiverModel", "lets", "(I)V"⟩, 62) := ⟨⟨by decide +kernel, by decide +kernel⟩, List.mem_of_getElem? (i := 1285) (by decide +kernel), List.mem_of_getElem? (i := 1655) (by decide +kernel), List.mem_of_getElem? (i := 1656) (by decide +kernel)⟩
theorem lw_p83 : lw_okq (⟨"RentRiverModel", "canPay", "(II)Z"⟩, 62) := ⟨⟨by decide +kernel, by decide +kernel⟩, List.mem_of_getElem? (i := 1285) (by decide +kernel), List.mem_of_getElem? (i := 1659) (by decide +kernel), List.mem_of_getElem? (i := 1660) (by decide +kernel)⟩
theorem lw_p84 : lw_okq (⟨"RentRiverModel", "of", "(II)I"⟩, 62) := ⟨⟨by decide +kernel, by decide +kernel⟩, List.mem_of_getElem? (i := 1285) (by decide +kernel), List.mem_of_getElem? (i := 1663) (by decide +kernel), List.mem_of_getElem? (i := 1664) (by decide +kernel)⟩
theorem lw_p85 : lw_okq (⟨"RentRiverModel", "pays", "(II)V"⟩, 62) := ⟨⟨by decide +kernel, by decide +kernel⟩, List.mem_of_getElem? (i := 1285) (by decide +kernel), List.mem_of_getElem? (i := 1667) (by decide +kernel), List.mem_of_getElem? (i := 1668) (by decide +kernel)⟩
theorem lw_p86 : lw_okq (⟨"RentRiverModel", "more", "(III)V"⟩, 62) := ⟨⟨by decide +kernel, by decide +kernel⟩, List.mem_of_getElem? (i := 1285) (by decide +kernel), List.mem_of_getElem? (i := 1671) (by decide +kernel), List.mem_of_getElem? (i := 1672) (by decide +kernel)⟩
theorem lw_p87 : lw_okq (⟨"RentRiverModel", "placeOf", "(I)I"⟩, 62) := ⟨⟨by decide +kernel, by decide +kernel⟩, List.mem_of_getElem? (i := 1285) (by decide +kernel), List.mem_of_getElem? (i := 1675) (by decide +kernel), List.mem_of_getElem? (i := 1676) (by decide +kernel)⟩
theorem lw_p88 : lw_okq (⟨"RentRiverModel", "wasLet", "(II)Z"⟩, 62) := ⟨⟨by decide +kernel, by decide +kernel⟩, List.mem_of_getElem? (i := 1285) (by decide +kernel), List.mem_of_getElem? (i := 1682) (by decide +kernel), List.mem_of_getElem? (i := 1683) (by decide +kernel)⟩
theorem lw_p89 : lw_okq (⟨"RentRiverModel", "comes", "(II)V"⟩, 62) := ⟨⟨by decide +kernel, by decide +kernel⟩, List.mem_of_getElem? (i := 1285) (by decide +kernel), List.mem_of_getElem? (i := 1686) (by decide +kernel), List.mem_of_getElem? (i := 1687) (by decide +kernel)⟩
theorem lw_p90 : lw_okq (⟨"RentRiverModel", "uses", "(I)V"⟩, 62) := ⟨⟨by decide +kernel, by decide +kernel⟩, List.mem_of_getElem? (i := 1285) (by decide +kernel), List.mem_of_getElem? (i := 1690) (by decide +kernel), List.mem_of_getElem? (i := 1691) (by decide +kernel)⟩
theorem lw_p91 : lw_okq (⟨"RentRiverModel", "canBe", "(I)Z"⟩, 62) := ⟨⟨by decide +kernel, by decide +kernel⟩, List.mem_of_getElem? (i := 1285) (by decide +kernel), List.mem_of_getElem? (i := 1715) (by decide +kernel), List.mem_of_getElem? (i := 1716) (by decide +kernel)⟩
theorem lw_p92 : lw_okq (⟨"RentRiverModel", "gains", "(II)I"⟩, 62) := ⟨⟨by decide +kernel, by decide +kernel⟩, List.mem_of_getElem? (i := 1285) (by decide +kernel), List.mem_of_getElem? (i := 1719) (by decide +kernel), List.mem_of_getElem? (i := 1720) (by decide +kernel)⟩
theorem lw_p93 : lw_okq (⟨"RentRiverModel", "costOf", "(II)I"⟩, 62) := ⟨⟨by decide +kernel, by decide +kernel⟩, List.mem_of_getElem? (i := 1285) (by decide +kernel), List.mem_of_getElem? (i := 1723) (by decide +kernel), List.mem_of_getElem? (i := 1724) (by decide +kernel)⟩
theorem lw_p94 : lw_okq (⟨"RentRiverModel", "holderOf", "(I)I"⟩, 62) := ⟨⟨by decide +kernel, by decide +kernel⟩, List.mem_of_getElem? (i := 1285) (by decide +kernel), List.mem_of_getElem? (i := 1739) (by decide +kernel), List.mem_of_getElem? (i := 1740) (by decide +kernel)⟩
theorem lw_p95 : lw_okq (⟨"RentRiverModel", "octet", "(I)I"⟩, 62) := ⟨⟨by decide +kernel, by decide +kernel⟩, List.mem_of_getElem? (i := 1285) (by decide +kernel), List.mem_of_getElem? (i := 1755) (by decide +kernel), List.mem_of_getElem? (i := 1756) (by decide +kernel)⟩
def lw_privs_6 : List (MethodName × Nat) := [(⟨"RentRiverModel", "begins", "()V"⟩, 62), (⟨"RentRiverModel", "month", "(I)V"⟩, 62), (⟨"RentRiverModel", "lets", "(I)V"⟩, 62), (⟨"RentRiverModel", "canPay", "(II)Z"⟩, 62), (⟨"RentRiverModel", "of", "(II)I"⟩, 62), (⟨"RentRiverModel", "pays", "(II)V"⟩, 62), (⟨"RentRiverModel", "more", "(III)V"⟩, 62), (⟨"RentRiverModel", "placeOf", "(I)I"⟩, 62), (⟨"RentRiverModel", "wasLet", "(II)Z"⟩, 62), (⟨"RentRiverModel", "comes", "(II)V"⟩, 62), (⟨"RentRiverModel", "uses", "(I)V"⟩, 62), (⟨"RentRiverModel", "canBe", "(I)Z"⟩, 62), (⟨"RentRiverModel", "gains", "(II)I"⟩, 62), (⟨"RentRiverModel", "costOf", "(II)I"⟩, 62), (⟨"RentRiverModel", "holderOf", "(I)I"⟩, 62), (⟨"RentRiverModel", "octet", "(I)I"⟩, 62)]
theorem lw_r6 : ∀ q ∈ lw_privs_6, lw_okq q := List.forall_mem_cons.mpr ⟨lw_p80, List.forall_mem_cons.mpr ⟨lw_p81, List.forall_mem_cons.mpr ⟨lw_p82, List.forall_mem_cons.mpr ⟨lw_p83, List.forall_mem_cons.mpr ⟨lw_p84, List.forall_mem_cons.mpr ⟨lw_p85, List.forall_mem_cons.mpr ⟨lw_p86, List.forall_mem_cons.mpr ⟨lw_p87, List.forall_mem_cons.mpr ⟨lw_p88, List.forall_mem_cons.mpr ⟨lw_p89, List.forall_mem_cons.mpr ⟨lw_p90, List.forall_mem_cons.mpr ⟨lw_p91, List.forall_mem_cons.mpr ⟨lw_p92, List.forall_mem_cons.mpr ⟨lw_p93, List.forall_mem_cons.mpr ⟨lw_p94, List.forall_mem_cons.mpr ⟨lw_p95, fun _ h => absurd h List.not_mem_nil⟩⟩⟩⟩⟩⟩⟩⟩⟩⟩⟩⟩⟩⟩⟩⟩
theorem lw_p96 : lw_okq (⟨"RentRiverModel", "thinks", "()V"⟩, 62) := ⟨⟨by decide +kernel, by decide +kernel⟩, List.mem_of_getElem? (i := 1285) (by decide +kernel), List.mem_of_getElem? (i := 1759) (by decide +kernel), List.mem_of_getElem? (i := 1760) (by decide +kernel)⟩
theorem lw_p97 : lw_okq (⟨"RentRiverModel", "areLevels", "(I)Z"⟩, 62) := ⟨⟨by decide +kernel, by decide +kernel⟩, List.mem_of_getElem? (i := 1285) (by decide +kernel), List.mem_of_getElem? (i := 1763) (by decide +kernel), List.mem_of_getElem? (i := 1764) (by decide +kernel)⟩
theorem lw_p98 : lw_okq (⟨"RentRiverModel", "forgets", "()V"⟩, 62) := ⟨⟨by decide +kernel, by decide +kernel⟩, List.mem_of_getElem? (i := 1285) (by decide +kernel), List.mem_of_getElem? (i := 1767) (by decide +kernel), List.mem_of_getElem? (i := 1768) (by decide +kernel)⟩
theorem lw_p99 : lw_okq (⟨"RentRiverModel", "wholeYear", "(Z)V"⟩, 62) := ⟨⟨by decide +kernel, by decide +kernel⟩, List.mem_of_getElem? (i := 1285) (by decide +kernel), List.mem_of_getElem? (i := 1787) (by decide +kernel), List.mem_of_getElem? (i := 1788) (by decide +kernel)⟩
theorem lw_p100 : lw_okq (⟨"RentRiverModel", "draw", "(I)I"⟩, 62) := ⟨⟨by decide +kernel, by decide +kernel⟩, List.mem_of_getElem? (i := 1285) (by decide +kernel), List.mem_of_getElem? (i := 1791) (by decide +kernel), List.mem_of_getElem? (i := 1792) (by decide +kernel)⟩
theorem lw_p101 : lw_okq (⟨"RentRiverModel", "putNumber", "(I)V"⟩, 62) := ⟨⟨by decide +kernel, by decide +kernel⟩, List.mem_of_getElem? (i := 1285) (by decide +kernel), List.mem_of_getElem? (i := 1812) (by decide +kernel), List.mem_of_getElem? (i := 1813) (by decide +kernel)⟩
theorem lw_p102 : lw_okq (⟨"RentRiverModel", "put", "(I)V"⟩, 62) := ⟨⟨by decide +kernel, by decide +kernel⟩, List.mem_of_getElem? (i := 1285) (by decide +kernel), List.mem_of_getElem? (i := 1816) (by decide +kernel), List.mem_of_getElem? (i := 1817) (by decide +kernel)⟩
theorem lw_p103 : lw_okq (⟨"RentRiverModel", "putName", "(J)V"⟩, 62) := ⟨⟨by decide +kernel, by decide +kernel⟩, List.mem_of_getElem? (i := 1285) (by decide +kernel), List.mem_of_getElem? (i := 1820) (by decide +kernel), List.mem_of_getElem? (i := 1821) (by decide +kernel)⟩
theorem lw_p104 : lw_okq (⟨"RentRiverModel", "nots", "()V"⟩, 62) := ⟨⟨by decide +kernel, by decide +kernel⟩, List.mem_of_getElem? (i := 1285) (by decide +kernel), List.mem_of_getElem? (i := 1849) (by decide +kernel), List.mem_of_getElem? (i := 1850) (by decide +kernel)⟩
theorem lw_p105 : lw_okq (⟨"RentRiverModel", "code", "(III)V"⟩, 62) := ⟨⟨by decide +kernel, by decide +kernel⟩, List.mem_of_getElem? (i := 1285) (by decide +kernel), List.mem_of_getElem? (i := 1853) (by decide +kernel), List.mem_of_getElem? (i := 1854) (by decide +kernel)⟩
theorem lw_p106 : lw_okq (⟨"RentRiverModel", "joins", "(I)V"⟩, 62) := ⟨⟨by decide +kernel, by decide +kernel⟩, List.mem_of_getElem? (i := 1285) (by decide +kernel), List.mem_of_getElem? (i := 1857) (by decide +kernel), List.mem_of_getElem? (i := 1858) (by decide +kernel)⟩
theorem lw_p107 : lw_okq (⟨"RentRiverModel", "behind", "()Z"⟩, 62) := ⟨⟨by decide +kernel, by decide +kernel⟩, List.mem_of_getElem? (i := 1285) (by decide +kernel), List.mem_of_getElem? (i := 1861) (by decide +kernel), List.mem_of_getElem? (i := 1862) (by decide +kernel)⟩
theorem lw_p108 : lw_okq (⟨"RentRiverModel", "operand", "()Z"⟩, 62) := ⟨⟨by decide +kernel, by decide +kernel⟩, List.mem_of_getElem? (i := 1285) (by decide +kernel), List.mem_of_getElem? (i := 1865) (by decide +kernel), List.mem_of_getElem? (i := 1866) (by decide +kernel)⟩
theorem lw_p109 : lw_okq (⟨"RentRiverModel", "leafOf", "()I"⟩, 62) := ⟨⟨by decide +kernel, by decide +kernel⟩, List.mem_of_getElem? (i := 1285) (by decide +kernel), List.mem_of_getElem? (i := 1869) (by decide +kernel), List.mem_of_getElem? (i := 1870) (by decide +kernel)⟩
theorem lw_p110 : lw_okq (⟨"RentRiverModel", "isSaid", "(I)Z"⟩, 62) := ⟨⟨by decide +kernel, by decide +kernel⟩, List.mem_of_getElem? (i := 1285) (by decide +kernel), List.mem_of_getElem? (i := 1877) (by decide +kernel), List.mem_of_getElem? (i := 1878) (by decide +kernel)⟩
theorem lw_p111 : lw_okq (⟨"RentRiverModel", "isLeaf", "(IIII)Z"⟩, 62) := ⟨⟨by decide +kernel, by decide +kernel⟩, List.mem_of_getElem? (i := 1285) (by decide +kernel), List.mem_of_getElem? (i := 1881) (by decide +kernel), List.mem_of_getElem? (i := 1882) (by decide +kernel)⟩
def lw_privs_7 : List (MethodName × Nat) := [(⟨"RentRiverModel", "thinks", "()V"⟩, 62), (⟨"RentRiverModel", "areLevels", "(I)Z"⟩, 62), (⟨"RentRiverModel", "forgets", "()V"⟩, 62), (⟨"RentRiverModel", "wholeYear", "(Z)V"⟩, 62), (⟨"RentRiverModel", "draw", "(I)I"⟩, 62), (⟨"RentRiverModel", "putNumber", "(I)V"⟩, 62), (⟨"RentRiverModel", "put", "(I)V"⟩, 62), (⟨"RentRiverModel", "putName", "(J)V"⟩, 62), (⟨"RentRiverModel", "nots", "()V"⟩, 62), (⟨"RentRiverModel", "code", "(III)V"⟩, 62), (⟨"RentRiverModel", "joins", "(I)V"⟩, 62), (⟨"RentRiverModel", "behind", "()Z"⟩, 62), (⟨"RentRiverModel", "operand", "()Z"⟩, 62), (⟨"RentRiverModel", "leafOf", "()I"⟩, 62), (⟨"RentRiverModel", "isSaid", "(I)Z"⟩, 62), (⟨"RentRiverModel", "isLeaf", "(IIII)Z"⟩, 62)]
theorem lw_r7 : ∀ q ∈ lw_privs_7, lw_okq q := List.forall_mem_cons.mpr ⟨lw_p96, List.forall_mem_cons.mpr ⟨lw_p97, List.forall_mem_cons.mpr ⟨lw_p98, List.forall_mem_cons.mpr ⟨lw_p99, List.forall_mem_cons.mpr ⟨lw_p100, List.forall_mem_cons.mpr ⟨lw_p101, List.forall_mem_cons.mpr ⟨lw_p102, List.forall_mem_cons.mpr ⟨lw_p103, List.forall_mem_cons.mpr ⟨lw_p104, List.forall_mem_cons.mpr ⟨lw_p105, List.forall_mem_cons.mpr ⟨lw_p106, List.forall_mem_cons.mpr ⟨lw_p107, List.forall_mem_cons.mpr ⟨lw_p108, List.forall_mem_cons.mpr ⟨lw_p109, List.forall_mem_cons.mpr ⟨lw_p110, List.forall_mem_cons.mpr ⟨lw_p111, fun _ h => absurd h List.not_mem_nil⟩⟩⟩⟩⟩⟩⟩⟩⟩⟩⟩⟩⟩⟩⟩⟩
def lw_privs : List (MethodName × Nat) := lw_privs_1 ++ (lw_privs_2 ++ (lw_privs_3 ++ (lw_privs_4 ++ (lw_privs_5 ++ (lw_privs_6 ++ (lw_privs_7))))))
def lw_tbl : List Cond := k2_sels lw_privs ++ tables_1
theorem lw_privs_ok : ∀ q ∈ lw_privs, lw_okq q := by
  show ∀ q ∈ lw_privs_1 ++ (lw_privs_2 ++ (lw_privs_3 ++ (lw_privs_4 ++ (lw_privs_5 ++ (lw_privs_6 ++ (lw_privs_7)))))), lw_okq q
  exact List.forall_mem_append.mpr ⟨lw_r1, List.forall_mem_append.mpr ⟨lw_r2, List.forall_mem_append.mpr ⟨lw_r3, List.forall_mem_append.mpr ⟨lw_r4, List.forall_mem_append.mpr ⟨lw_r5, List.forall_mem_append.mpr ⟨lw_r6, lw_r7⟩⟩⟩⟩⟩⟩
-- ===== end of PART A; then your names; then what follows =====
end
section
/-! ===== BEGIN words of one list among another's, by their places ===== -/
theorem goodIn_r {big : List Cond} (ws : List Cond) (ps : List Nat) (hp : ws = ps.filterMap (fun i => big[i]?)) (h : ws.all goodWord = true) : GoodIn big ws := by
  intro w hw
  have h1 := List.all_eq_true.mp h w hw
  rw [hp] at hw
  obtain ⟨i, -, hi⟩ := List.mem_filterMap.mp hw
  have hm : w ∈ big := by first | exact List.mem_of_getElem? hi | exact List.getElem?_mem hi
  exact ⟨hm, good_of_word h1⟩
theorem goodIn_app {big a b : List Cond} (ha : GoodIn big a) (hb : GoodIn big b) : GoodIn big (a ++ b) := fun w h => (List.mem_append.mp h).elim (ha w) (hb w)
theorem goodIn_ca {big a b : List Cond} {c : Cond} (ha : GoodIn big (c :: a)) (hb : GoodIn big b) : GoodIn big (c :: (a ++ b)) := fun w h => (List.mem_cons.mp h).elim (fun e => ha w (List.mem_cons.mpr (Or.inl e))) (fun h => (List.mem_append.mp h).elim (fun h => ha w (List.mem_cons.mpr (Or.inr h))) (hb w))
theorem goodIn_sub {big ws : List Cond} (hm : ∀ w ∈ ws, w ∈ big) (h : ws.all goodWord = true) : GoodIn big ws := fun w hw => ⟨hm w hw, good_of_word (List.all_eq_true.mp h w hw)⟩
/-! ===== END ===== -/


/-! ===== BEGIN exceptions that leave a method, and their catching by the caller (launches without stack traces) ===== -/
section VXA
/-! The laws vx_back, vx_callV, vx_callS, vx_callSW, vx_throw0, vx_throwS follow proofs of the library, with one case more: JvmDerived/Free/Laws.lean (Back.of_free), Shelf42/LK1.lean (callV, callS), Shelf/KitTraced.lean (throwNew0V, throwNewS). -/
/-- where a method has thrown q: the class by its name, the cell, what was written, the world -/
def vx_T (XC : String → State → State → Prop) (st : State) (q : Addr) (t : State) (mc ms : Nat) (free : Addr → Prop) : Prop :=
  ∃ (E : String) (ce : Cell) (L : List Loc), XC E st t ∧ t.heap[q]? = some ce ∧ ce.vm = .none ∧ st.vm.findClass E = some ce.cls ∧ st.WarmedH t.vm ∧ st.sameButNew ({ t with vm := st.vm } : State) L mc ms ∧ ∀ z ∈ L, free z.base
def vx_Q (Qc : Array Value → State → Outcome → State → Prop) (XC : String → State → State → Prop) (mc ms : Nat) (free : Addr → Prop) : Array Value → State → Outcome → State → Prop := fun a st o t =>
  (Qc a st o t ∧ ∃ L, FrameEnd st o t L mc ms ∧ ∀ q ∈ L, free q.base) ∨ ∃ q, o = .threw q ∧ vx_T XC st q t mc ms free
/-- a callee that returns or throws -/
def vx_Met (l : Launch) (y : MethodName) (ws : List Cond) (rm : Room) (Pc : Array Value → State → Prop) (Qc : Array Value → State → Outcome → State → Prop) (XC : String → State → State → Prop) (mc ms : Nat) (free : Addr → Prop) : Prop :=
  MetFree l y (headSpec ws rm) Pc (fun _ _ _ _ _ => True) (vx_Q Qc XC mc ms free)
def vx_Post (XC : String → State → State → Prop) (mc ms : Nat) (free : Addr → Prop) : Pt → Array Value → Addr → Pt → Prop := fun A a q B =>
  ∃ (g : JFrame) (mk : MethodId) (t : State) (L : List Loc) (E : String) (ce : Cell), B.U.heap = t.heap ∧ B.U.vm = t.vm ∧ XC E (A.U.calling g mk a) t ∧ t.heap[q]? = some ce ∧ ce.vm = .none ∧ A.U.vm.findClass E = some ce.cls ∧ B.locs = A.locs ++ L ∧ (∀ z ∈ L, free z.base) ∧ B.cells = A.cells + mc ∧ B.slots = A.slots + ms
def vx_Back (l : Launch) (R : Room) (p : Program) (e : Env) (below : List Frame) (s : State) (sargs : Array Value) (y : MethodName) (len W9 : Nat)
    (Pre : Pt → Array Value → Prop) (Post : Pt → Array Value → Option Value → Pt → Prop) (PostX : Pt → Array Value → Addr → Pt → Prop) : Prop :=
  ∀ (m : MethodId) (meth : Method) (c : Code) (A : Pt) (g : JFrame) (ig : Instr) (mk : MethodId) (a : Array Value),
    Stand p l e R s m sargs below meth c A.U A.locs A.cells A.slots → g.method = m → g.locals.size = c.maxLocals → decode c.code g.pc = .ok (ig, len) →
    2 * g.monitorRoom + (g.stack.map fun v => v.category).sum ≤ W9 → A.U.methodNamed? y = some mk → Pre A a →
    (∃ (v : Option Value) (B : Pt), Stand p l e R s m sargs below meth c B.U B.locs B.cells B.slots ∧ Post A a v B ∧
      Steps p.tables e below (doInvoke e (A.U.setTop g) [] mk a).1 (B.U.setTop { g with pc := g.pc + len, stack := v.toList ++ g.stack })) ∨
    (∃ (q : Addr) (B : Pt), Stand p l e R s m sargs below meth c B.U B.locs B.cells B.slots ∧ PostX A a q B ∧
      Steps p.tables e below (doInvoke e (A.U.setTop g) [] mk a).1 ((B.U.setTop g).pushFrame (.throwing q)))
section Payer
variable {l : Launch} {R : Room} {p : Program} {e : Env} {below : List Frame} {s : State} {sargs : Array Value} {y : MethodName} {len W9 : Nat}
theorem vx_back {ws : List Cond} {rm : Room} {Pc : Array Value → State → Prop} {Qc : Array Value → State → Outcome → State → Prop} {XC : String → State → State → Prop} {mc ms : Nat} {free : Addr → Prop} {bytes : ByteArray} {maxL : Nat} {ret : Option FieldType}
    (hM : vx_Met l y ws rm Pc Qc XC mc ms free) (hblind : FrameBlind Pc) (hrc : rm.cells = mc) (hrs : rm.slots = ms)
    (hframes : rm.frames + 1 ≤ R.frames) (hlocals : W9 + (maxL + 11) + rm.locals ≤ R.locals)
    (hws : ∀ w ∈ ws, ∀ a' U, s.WarmedH U.vm → w.before a' U = true) (hcode : Cond.code y bytes maxL ret ∈ ws) (hinit : ∀ a' U, s.WarmedH U.vm → (Cond.initialized y.cls).before a' U = true) :
    vx_Back l R p e below s sargs y len W9 (PreOf R mc ms Pc) (PostOf Qc mc ms free) (vx_Post XC mc ms free) := by
  intro m meth c A g ig mk a X hg hsize hdg hW hn hp
  have h1 : (headSpec ws rm).pre.before a A.U = true := atoms_intro fun w hw => hws w hw _ _ X.warmed
  have h2 : (Cond.code y bytes maxL ret).before a A.U = true := hws _ hcode _ _ X.warmed
  have h3 : (Cond.initialized y.cls).before a A.U = true := hinit _ _ X.warmed
  have h4 : A.cells + (headSpec ws rm).room.cells ≤ R.cells := by rw [show (headSpec ws rm).room.cells = mc from hrc]; exact hp.1
  have h5 : A.slots + (headSpec ws rm).room.slots ≤ R.slots := by rw [show (headSpec ws rm).room.slots = ms from hrs]; exact hp.2.1
  have hPc : Pc a (A.U.calling g mk a) := hblind _ _ _ _ hp.2.2
  obtain ⟨U, Ls, c0, s0⟩ := A
  dsimp only [Pt.U, Pt.locs, Pt.cells, Pt.slots] at h1 h2 h3 h4 h5 X hn hPc ⊢
  obtain ⟨methY, cY, hmY, hcY, -, hlY, -, -, -, -⟩ := Cond.code_spec hn h2
  obtain ⟨kY, hkY, -⟩ := className_of_methodNamed hn
  have hinitY : kY.init = .initialized := Cond.initialized_spec (findClass_of_methodNamed hn) hkY h3
  have h : At U g.method c below := by rw [hg]; exact X.here
  have hlocals9 : W9 + (maxL + 11) + (headSpec ws rm).room.locals ≤ R.locals := hlocals
  have happ : (headSpec ws rm).appliesLoose y e.platform (U.calling g mk a) = true :=
    Spec.appliesLoose_calling (g := g) h hdg hn hkY hinitY
      (X.room_calling (g := g) (R' := (headSpec ws rm).room) hsize hmY hcY hframes (by rw [hlY]; omega) h4 h5) h1
  obtain ⟨mid, hmid⟩ := h.above
  have hfr : (U.setTop g).frames = (.java g :: mid) ++ below := by rw [State.frames_setTop' g h.top, hmid]; rfl
  obtain ⟨o, s₂, hsteps, -, hend, hq⟩ := Steps.callFree hM p X.admits X.cas X.clock (acts := []) hfr happ hPc trivial
  have hq' : vx_Q Qc XC mc ms free a (U.calling g mk a) o s₂ := hq
  rw [State.frames_setTop' g h.top] at hend
  obtain ⟨g₀, hg0⟩ := Option.isSome_iff_exists.mp h.top
  obtain ⟨r, hr⟩ := State.topJava?_eq_some.mp hg0
  have hr' : (({ U with heap := s₂.heap, slotsUsed := s₂.slotsUsed } : State).setVm s₂.vm).frames = .java g₀ :: r := hr
  rcases hq' with ⟨hqc, L, hfe, hL⟩ | ⟨q, rfl, E, ce, L, hx, hce, hcv, hcl, hW₂, hsm, hL⟩
  · obtain ⟨⟨v, rfl⟩, hW₂, e2, q2, q3, q4, q5, q6⟩ := id hfe
    have e3 : s₂ = ({ (U.calling g mk a).setFrames s₂.frames with heap := s₂.heap, slotsUsed := s₂.slotsUsed } : State).setVm s₂.vm := by
      have : s₂ = ({ s₂ with vm := (U.calling g mk a).vm } : State).setVm s₂.vm := rfl
      rw [e2] at this
      exact this
    obtain ⟨c₂, i₂, len₂, hc₂, hd₂, hf₂⟩ := hend
    have hW' : U.WarmedH s₂.vm := hW₂
    have hcc : c₂ = c := by
      have h1 : s₂.code? g.method = U.code? g.method := by
        rw [State.code?_eq, State.code?_eq, hW'.alike.method?]
      exact Option.some.inj (hc₂.symm.trans (h1.trans h.code))
    subst hcc
    have hlen : len₂ = len := by rw [hdg] at hd₂; cases hd₂; rfl
    subst hlen
    have hs₂ : s₂ = (({ U with heap := s₂.heap, slotsUsed := s₂.slotsUsed } : State).setVm s₂.vm).setTop { g with pc := g.pc + len₂, stack := v.toList ++ g.stack } := by
      refine e3.trans ?_
      rw [hf₂, State.calling_eq h.top, State.setFrames_setFrames, State.setTop_of_frames _ hr', hr]
      rfl
    have hsame : U.sameButNew ({ U with heap := s₂.heap, slotsUsed := s₂.slotsUsed } : State) L mc ms := by
      refine ⟨?_, q2, q3, q4, q5, q6⟩
      obtain ⟨t, ht, -⟩ := State.frames_cons hr
      show ({ U with heap := s₂.heap, slotsUsed := s₂.slotsUsed } : State) = { U.setFrames U.frames with heap := s₂.heap, slotsUsed := s₂.slotsUsed }
      rw [State.setFrames_self ht]
    subst hg
    refine Or.inl ⟨v, ⟨(({ U with heap := s₂.heap, slotsUsed := s₂.slotsUsed } : State).setVm s₂.vm), Ls ++ L, c0 + mc, s0 + ms⟩,
      ⟨X.admits, X.cas, X.clock, X.frames, X.room, X.hears, X.method, X.code, (X.here.setHeapUsed s₂.heap s₂.slotsUsed).setVm hW'.alike, X.tail, State.WarmedH.trans X.warmed hW', X.limits, X.bytes, X.same.trans (hsame.setVm s.vm)⟩,
      ⟨g, mk, s₂, L, rfl, rfl, hqc, rfl, hL, rfl, rfl⟩, ?_⟩
    show Steps p.tables e below _ ((({ U with heap := s₂.heap, slotsUsed := s₂.slotsUsed } : State).setVm s₂.vm).setTop { g with pc := g.pc + len₂, stack := v.toList ++ g.stack })
    rw [← hs₂]
    exact hsteps
  · obtain ⟨e2, q2, q3, q4, q5, q6⟩ := id hsm
    have e3 : s₂ = ({ (U.calling g mk a).setFrames s₂.frames with heap := s₂.heap, slotsUsed := s₂.slotsUsed } : State).setVm s₂.vm := by
      have : s₂ = ({ s₂ with vm := (U.calling g mk a).vm } : State).setVm s₂.vm := rfl
      rw [e2] at this
      exact this
    have hf₂ : s₂.frames = .throwing q :: .java g :: U.frames.tail := hend
    have hW' : U.WarmedH s₂.vm := hW₂
    have hs₂ : s₂ = ((({ U with heap := s₂.heap, slotsUsed := s₂.slotsUsed } : State).setVm s₂.vm).setTop g).pushFrame (.throwing q) := by
      refine e3.trans ?_
      rw [hf₂, State.calling_eq h.top, State.setFrames_setFrames, State.pushFrame, State.frames_setTop _ hr', State.setTop_of_frames _ hr', State.setFrames_setFrames, hr]
      rfl
    have hsame : U.sameButNew ({ U with heap := s₂.heap, slotsUsed := s₂.slotsUsed } : State) L mc ms := by
      refine ⟨?_, q2, q3, q4, q5, q6⟩
      obtain ⟨t, ht, -⟩ := State.frames_cons hr
      show ({ U with heap := s₂.heap, slotsUsed := s₂.slotsUsed } : State) = { U.setFrames U.frames with heap := s₂.heap, slotsUsed := s₂.slotsUsed }
      rw [State.setFrames_self ht]
    subst hg
    refine Or.inr ⟨q, ⟨(({ U with heap := s₂.heap, slotsUsed := s₂.slotsUsed } : State).setVm s₂.vm), Ls ++ L, c0 + mc, s0 + ms⟩,
      ⟨X.admits, X.cas, X.clock, X.frames, X.room, X.hears, X.method, X.code, (X.here.setHeapUsed s₂.heap s₂.slotsUsed).setVm hW'.alike, X.tail, State.WarmedH.trans X.warmed hW', X.limits, X.bytes, X.same.trans (hsame.setVm s.vm)⟩,
      ⟨g, mk, s₂, L, E, ce, rfl, rfl, hx, hce, hcv, hcl, rfl, hL, rfl, rfl⟩, ?_⟩
    show Steps p.tables e below _ (((({ U with heap := s₂.heap, slotsUsed := s₂.slotsUsed } : State).setVm s₂.vm).setTop g).pushFrame (.throwing q))
    rw [← hs₂]
    exact hsteps
end Payer
section Calls
variable {p : Program} {l : Launch} {e : Env} {R : Room} {s : State} {m : MethodId} {args : Array Value} {below : List Frame} {meth : Method} {c : Code} {T : State} {locs : List Loc} {cells slots : Nat}
theorem vx_callV (X : Stand p l e R s m args below meth c T locs cells slots) (hexec : p.tables.exec = Jvm.exec) {own C : String} {index : Nat} {y : MethodName} {bytes : ByteArray} {maxL : Nat} {ret : Option FieldType}
    (hown : s.vm.findClass own = some m.cls) (hlink : (Cond.methodLink own index y).before args s = true) (hinst : (Cond.instanceMethod y).before args s = true) (hsel : (Cond.selects C y y).before args s = true)
    (hcode : (Cond.code y bytes maxL ret).before args s = true) (hy : y.cls ≠ "java/lang/invoke/MethodHandle" ∧ y.cls ≠ "java/lang/invoke/VarHandle")
    {W9 : Nat} {Pre : Pt → Array Value → Prop} {Post : Pt → Array Value → Option Value → Pt → Prop} {PostX : Pt → Array Value → Addr → Pt → Prop} (hK : vx_Back l R p e below s args y 3 W9 Pre Post PostX)
    {b : Addr} {cellB : Cell} (hcell : T.heap[b]? = some cellB) (hobj : cellB.vm.isStatics = false) (hcls : s.vm.findClass C = some cellB.cls)
    {g : JFrame} (hg : g.method = m) (hsize : g.locals.size = c.maxLocals) {argsL rest : List Value} (hlen : ∀ sig, parseMethodDescriptor y.desc = some sig → argsL.length = sig.parameters.length)
    (hstack : g.stack = argsL.reverse ++ .ref b :: rest) (hW : 2 * g.monitorRoom + (rest.map fun v => v.category).sum ≤ W9) (hdg : decode c.code g.pc = .ok (.invokevirtual index, 3))
    (hpre : ∀ vm₁, s.WarmedH vm₁ → Pre ⟨T.setVm vm₁, locs, cells, slots⟩ (Value.ref b :: argsL).toArray) :
    (∃ (v : Option Value) (vm₁ : Vm) (B : Pt), s.WarmedH vm₁ ∧ Stand p l e R s m args below meth c B.U B.locs B.cells B.slots ∧ Post ⟨T.setVm vm₁, locs, cells, slots⟩ (Value.ref b :: argsL).toArray v B ∧
      ∀ target, Steps p.tables e below (B.U.setTop { g with pc := g.pc + 3, stack := v.toList ++ rest }) target → Steps p.tables e below (T.setTop g) target) ∨
    (∃ (q : Addr) (vm₁ : Vm) (B : Pt), s.WarmedH vm₁ ∧ Stand p l e R s m args below meth c B.U B.locs B.cells B.slots ∧ PostX ⟨T.setVm vm₁, locs, cells, slots⟩ (Value.ref b :: argsL).toArray q B ∧
      Steps p.tables e below (T.setTop g) ((B.U.setTop { g with stack := rest }).pushFrame (.throwing q))) := by
  obtain ⟨mk, methM, hnamed, hmethM, hstM, habM⟩ := Cond.instanceMethod_spec hinst
  obtain ⟨methM', cM, hmethM', -, -, -, -, -, -, hsigM⟩ := Cond.code_spec hnamed hcode
  cases hmethM.symm.trans hmethM'
  obtain ⟨c2, r2, m2, q1, q2, q3, q4, kP, hkP, hkPi⟩ := Cond.selects_spec hsel
  cases hcls.symm.trans q1
  cases (State.methodFound?_of_named hnamed hy).symm.trans q2
  cases hnamed.symm.trans q3
  have hselP : selectMethod e.platform s.vm cellB.cls mk = .method mk := by rw [Launch.admits_selectMethod X.admits]; exact q4
  obtain ⟨vm₁, X₁, hstep₁⟩ := X.invokevirtual hexec hown hlink hnamed hmethM hstM hkP hkPi hy (a := b) (cell := cellB) hcell
    (fun z h => by rw [h] at hobj; cases hobj) hselP hmethM habM hkP hkPi (g := g) hg (argsL := argsL) (rest := rest) (hlen _ hsigM) hstack hdg
  rcases hK m meth c ⟨T.setVm vm₁, locs, cells, slots⟩ { g with stack := rest } (.invokevirtual index) mk (Value.ref b :: argsL).toArray X₁ hg hsize hdg hW (X₁.named hnamed) (hpre vm₁ X₁.warmed) with ⟨v, B, X', hpost, hsteps⟩ | ⟨q, B, X', hpost, hsteps⟩
  · exact Or.inl ⟨v, vm₁, B, X₁.warmed, X', hpost, fun target h => hstep₁ _ fun acts => by rw [doInvoke_state]; exact hsteps.trans h⟩
  · exact Or.inr ⟨q, vm₁, B, X₁.warmed, X', hpost, hstep₁ _ fun acts => by rw [doInvoke_state]; exact hsteps⟩
theorem vx_callS (X : Stand p l e R s m args below meth c T locs cells slots) (hexec : p.tables.exec = Jvm.exec) {own : String} {index : Nat} {y : MethodName} {bytes : ByteArray} {maxL : Nat} {ret : Option FieldType}
    (hown : s.vm.findClass own = some m.cls) (hlink : (Cond.methodLink own index y).before args s = true) (hstat : (Cond.static y).before args s = true) (hinit : (Cond.initialized y.cls).before args s = true)
    (hcode : (Cond.code y bytes maxL ret).before args s = true) (hy : y.cls ≠ "java/lang/invoke/MethodHandle" ∧ y.cls ≠ "java/lang/invoke/VarHandle")
    {W9 : Nat} {Pre : Pt → Array Value → Prop} {Post : Pt → Array Value → Option Value → Pt → Prop} {PostX : Pt → Array Value → Addr → Pt → Prop} (hK : vx_Back l R p e below s args y 3 W9 Pre Post PostX)
    {g : JFrame} (hg : g.method = m) (hsize : g.locals.size = c.maxLocals) {argsL rest : List Value} (hlen : ∀ sig, parseMethodDescriptor y.desc = some sig → argsL.length = sig.parameters.length)
    (hstack : g.stack = argsL.reverse ++ rest) (hW : 2 * g.monitorRoom + (rest.map fun v => v.category).sum ≤ W9) (hdg : decode c.code g.pc = .ok (.invokestatic index, 3))
    (hpre : ∀ vm₁, s.WarmedH vm₁ → Pre ⟨T.setVm vm₁, locs, cells, slots⟩ argsL.toArray) :
    (∃ (v : Option Value) (vm₁ : Vm) (B : Pt), s.WarmedH vm₁ ∧ Stand p l e R s m args below meth c B.U B.locs B.cells B.slots ∧ Post ⟨T.setVm vm₁, locs, cells, slots⟩ argsL.toArray v B ∧
      ∀ target, Steps p.tables e below (B.U.setTop { g with pc := g.pc + 3, stack := v.toList ++ rest }) target → Steps p.tables e below (T.setTop g) target) ∨
    (∃ (q : Addr) (vm₁ : Vm) (B : Pt), s.WarmedH vm₁ ∧ Stand p l e R s m args below meth c B.U B.locs B.cells B.slots ∧ PostX ⟨T.setVm vm₁, locs, cells, slots⟩ argsL.toArray q B ∧
      Steps p.tables e below (T.setTop g) ((B.U.setTop { g with stack := rest }).pushFrame (.throwing q))) := by
  obtain ⟨mk, hnamed⟩ := Cond.code_named hcode
  obtain ⟨methM, cM, hmethM, -, -, -, -, -, -, hsigM⟩ := Cond.code_spec hnamed hcode
  have hstatic : methM.isStatic = true := Cond.static_spec hnamed hmethM hstat
  obtain ⟨kP, hkP, -⟩ := className_of_methodNamed hnamed
  have hinitP : kP.init = .initialized := Cond.initialized_spec (findClass_of_methodNamed hnamed) hkP hinit
  obtain ⟨vm₁, X₁, hstep₁⟩ := X.invokestatic hexec hown hlink hnamed hmethM hstatic hkP hinitP hy (g := g) hg (argsL := argsL) (rest := rest) (hlen _ hsigM) hstack hdg
  rcases hK m meth c ⟨T.setVm vm₁, locs, cells, slots⟩ { g with stack := rest } (.invokestatic index) mk argsL.toArray X₁ hg hsize hdg hW (X₁.named hnamed) (hpre vm₁ X₁.warmed) with ⟨v, B, X', hpost, hsteps⟩ | ⟨q, B, X', hpost, hsteps⟩
  · exact Or.inl ⟨v, vm₁, B, X₁.warmed, X', hpost, fun target h => hstep₁ _ fun acts => by rw [doInvoke_state]; exact hsteps.trans h⟩
  · exact Or.inr ⟨q, vm₁, B, X₁.warmed, X', hpost, hstep₁ _ fun acts => by rw [doInvoke_state]; exact hsteps⟩
end Calls
theorem vx_cls {s : State} {T : State} {vm₁ : Vm} {E : String} {k : ClassId} (hW : s.WarmedH vm₁) (h : (T.setVm vm₁).vm.findClass E = some k) : s.vm.findClass E = some k := by
  have h1 : vm₁.findClass E = some k := h
  rw [hW.alike.findClass] at h1
  exact h1
/-- the method's frame g, with q thrown over it -/
def vx_W (p : Program) (l : Launch) (e : Env) (R : Room) (s : State) (m : MethodId) (args : Array Value) (below : List Frame) (meth : Method) (c : Code) (H : Heap) (locs : List Loc) (cells slots : Nat) (Q : State → Prop) (g : JFrame) (q : Addr) : Prop :=
  ∀ T : State, T.heap = H → Stand p l e R s m args below meth c T locs cells slots → ∃ t, Steps p.tables e below ((T.setTop g).pushFrame (.throwing q)) t ∧ Q t
def vx_Run (p : Program) (l : Launch) (e : Env) (R : Room) (s : State) (m : MethodId) (args : Array Value) (below : List Frame) (meth : Method) (c : Code) (H : Heap) (locs : List Loc) (cells slots mc ms : Nat) (g : JFrame) (rest : List Value) (Qa : State → Outcome → State → Prop) (XC : String → State → State → Prop) (free : Addr → Prop) : Prop :=
  ∀ T : State, T.heap = H → Stand p l e R s m args below meth c T locs cells slots →
    (∃ (v : Option Value) (st₀ t T' : State) (L : List Loc), st₀.heap = H ∧ Stand p l e R s m args below meth c T' (locs ++ L) (cells + mc) (slots + ms) ∧ (∀ q ∈ L, free q.base) ∧ T'.heap = t.heap ∧ T'.vm = t.vm ∧ Qa st₀ (.returned v) t ∧
      Goes p e below T g T' { g with pc := g.pc + 3, stack := v.toList ++ rest }) ∨
    (∃ (q : Addr) (st₀ t T' : State) (L : List Loc) (E : String) (ce : Cell), st₀.heap = H ∧ Stand p l e R s m args below meth c T' (locs ++ L) (cells + mc) (slots + ms) ∧ (∀ z ∈ L, free z.base) ∧ T'.heap = t.heap ∧ T'.vm = t.vm ∧ XC E st₀ t ∧ t.heap[q]? = some ce ∧ ce.vm = .none ∧ s.vm.findClass E = some ce.cls ∧
      Steps p.tables e below (T.setTop g) ((T'.setTop { g with stack := rest }).pushFrame (.throwing q)))
def vx_X {S : Type} (px : S → Prop) (B : String → S → State → Prop) (A : Nat → Prop) : String → State → State → Prop := fun E st t => ∃ u : S, px u ∧ B E u t ∧ va_F A st t
section Runs
variable {p : Program} {l : Launch} {e : Env} {R : Room} {s : State} {m : MethodId} {args : Array Value} {below : List Frame} {meth : Method} {c : Code} {H : Heap} {locs : List Loc} {cells slots : Nat}
variable {y : MethodName} {bytes cc : ByteArray} {maxL nL mc ms n index : Nat} {ret : Option FieldType} {ws : List Cond} {rm : Room} {Pc : Array Value → State → Prop} {Qc : Array Value → State → Outcome → State → Prop} {XC : String → State → State → Prop} {free : Addr → Prop} {Ts : List Cond} {own C : String} {b : Addr} {As rest : List Value} {g : JFrame}
theorem vx_callBack (cb : CallB R s args own index y bytes maxL ret ws rm mc ms n) (hM : vx_Met l y ws rm Pc Qc XC mc ms free) (hbl : FrameBlind Pc) : vx_Back l R p e below s args y 3 8 (PreOf R mc ms Pc) (PostOf Qc mc ms free) (vx_Post XC mc ms free) := by
  obtain ⟨hrc, hrs, hfr, hlo, hws, hcw, -, hini, -⟩ := cb
  exact vx_back (bytes := bytes) (maxL := maxL) (ret := ret) hM hbl hrc hrs hfr hlo hws hcw (fun a' U hW => word_at hW (Or.inl (by first | rfl | simp [Cond.onTables, Cond.keeps, Cond.steady])) hini)
theorem vx_runV (S : CallFix p m c cc nL s args Ts own) (hM : vx_Met l y ws rm Pc Qc XC mc ms free) (cw : CallW R s args own C index y bytes maxL ret ws rm mc ms n) (hp : PreV s H C b Pc As)
    (hg : g.method = m) (hn : As.length = n) (hsize : g.locals.size = nL) (hstack : g.stack = As.reverse ++ .ref b :: rest) (hW : 2 * g.monitorRoom + (rest.map fun v => v.category).sum ≤ 8) (hdg : decode cc g.pc = .ok (.invokevirtual index, 3)) (hf : cells + mc ≤ R.cells ∧ slots + ms ≤ R.slots) :
    vx_Run p l e R s m args below meth c H locs cells slots mc ms g rest (Qc (Value.ref b :: As).toArray) XC free := by
  have hK : vx_Back l R p e below s args y 3 8 (PreOf R mc ms Pc) (PostOf Qc mc ms free) (vx_Post XC mc ms free) := vx_callBack cw.1 hM hp.1
  obtain ⟨⟨-, -, -, -, -, -, hcode, -, hy, hlen, hl⟩, hin, hse⟩ := cw
  obtain ⟨hx, hb, hml, ho, -⟩ := S
  obtain ⟨-, ⟨cellB, hcB, hoB, hclB⟩, hPc⟩ := hp
  intro T hT X
  rcases vx_callV X hx (C := C) (bytes := bytes) (maxL := maxL) (ret := ret) ho hl hin hse hcode hy hK (by rw [hT]; exact hcB) hoB hclB hg (hsize.trans hml.symm) (argsL := As) (rest := rest) (fun sig h => hn.trans (hlen sig h)) hstack hW (by rw [hb]; exact hdg)
    (fun vm₁ hW₁ => ⟨hf.1, hf.2, hPc (T.setVm vm₁) hT hW₁⟩) with ⟨v, vm₁, ⟨U', l2, c2, s2⟩, hW₁, X', ⟨g', mk, t, L, e1, e2, hq, h1, hL, h2, h3⟩, st⟩ | ⟨q, vm₁, ⟨U', l2, c2, s2⟩, hW₁, X', ⟨g', mk, t, L, E, ce, e1, e2, hq, hce, hcv, hcl, h1, hL, h2, h3⟩, st⟩
  · dsimp only [Pt.U, Pt.locs, Pt.cells, Pt.slots] at X' e1 e2 h1 h2 h3 st
    subst h1; subst h2; subst h3
    exact Or.inl ⟨v, (T.setVm vm₁).calling g' mk (Value.ref b :: As).toArray, t, U', L, hT, X', hL, e1, e2, hq, st⟩
  · dsimp only [Pt.U, Pt.locs, Pt.cells, Pt.slots] at X' e1 e2 h1 h2 h3 st hcl
    subst h1; subst h2; subst h3
    exact Or.inr ⟨q, (T.setVm vm₁).calling g' mk (Value.ref b :: As).toArray, t, U', L, E, ce, hT, X', hL, e1, e2, hq, hce, hcv, vx_cls hW₁ hcl, st⟩
theorem vx_runS (S : CallFix p m c cc nL s args Ts own) (hM : vx_Met l y ws rm Pc Qc XC mc ms free) (cw : CallB R s args own index y bytes maxL ret ws rm mc ms n ∧ (Cond.static y).before args s = true) (hp : PreS s H Pc As)
    (hg : g.method = m) (hn : As.length = n) (hsize : g.locals.size = nL) (hstack : g.stack = As.reverse ++ rest) (hW : 2 * g.monitorRoom + (rest.map fun v => v.category).sum ≤ 8) (hdg : decode cc g.pc = .ok (.invokestatic index, 3)) (hf : cells + mc ≤ R.cells ∧ slots + ms ≤ R.slots) :
    vx_Run p l e R s m args below meth c H locs cells slots mc ms g rest (Qc As.toArray) XC free := by
  have hK : vx_Back l R p e below s args y 3 8 (PreOf R mc ms Pc) (PostOf Qc mc ms free) (vx_Post XC mc ms free) := vx_callBack cw.1 hM hp.1
  obtain ⟨⟨-, -, -, -, -, -, hcode, hini, hy, hlen, hl⟩, hstt⟩ := cw
  obtain ⟨hx, hb, hml, ho, -⟩ := S
  intro T hT X
  rcases vx_callS X hx (bytes := bytes) (maxL := maxL) (ret := ret) ho hl hstt hini hcode hy hK hg (hsize.trans hml.symm) (argsL := As) (rest := rest) (fun sig h => hn.trans (hlen sig h)) hstack hW (by rw [hb]; exact hdg)
    (fun vm₁ hW₁ => ⟨hf.1, hf.2, hp.2 (T.setVm vm₁) hT hW₁⟩) with ⟨v, vm₁, ⟨U', l2, c2, s2⟩, hW₁, X', ⟨g', mk, t, L, e1, e2, hq, h1, hL, h2, h3⟩, st⟩ | ⟨q, vm₁, ⟨U', l2, c2, s2⟩, hW₁, X', ⟨g', mk, t, L, E, ce, e1, e2, hq, hce, hcv, hcl, h1, hL, h2, h3⟩, st⟩
  · dsimp only [Pt.U, Pt.locs, Pt.cells, Pt.slots] at X' e1 e2 h1 h2 h3 st
    subst h1; subst h2; subst h3
    exact Or.inl ⟨v, (T.setVm vm₁).calling g' mk As.toArray, t, U', L, hT, X', hL, e1, e2, hq, st⟩
  · dsimp only [Pt.U, Pt.locs, Pt.cells, Pt.slots] at X' e1 e2 h1 h2 h3 st hcl
    subst h1; subst h2; subst h3
    exact Or.inr ⟨q, (T.setVm vm₁).calling g' mk As.toArray, t, U', L, E, ce, hT, X', hL, e1, e2, hq, hce, hcv, vx_cls hW₁ hcl, st⟩
end Runs
section Rows
variable {p : Program} {l : Launch} {e : Env} {R : Room} {s : State} {m : MethodId} {args : Array Value} {below : List Frame} {meth : Method} {c : Code} {H : Heap} {locs : List Loc} {cells slots : Nat} {Q : State → Prop}
variable {mc ms : Nat} {free : Addr → Prop} {A0 A1 : Nat → Prop} {H0 : Heap} {a : Array Value} {pc : Nat} {ls : Array Slot} {st0 rest : List Value}
theorem vx_keep {st₀ t T' : State} {L : List Loc} (h0 : st₀.heap = H) (e1 : T'.heap = t.heap) (hS : va_S A0 H0 H locs) (hA : ∀ q, q < H.size → A1 q → A0 q) (hf : ∀ q, free q → A0 q) (hL : ∀ q ∈ L, free q.base) (hF : va_F A1 st₀ t) :
    H.size ≤ T'.heap.size ∧ (∀ q : Nat, q < H.size → ¬ A1 q → T'.heap[q]? = H[q]?) ∧ va_S A0 H0 T'.heap (locs ++ L) := by
  obtain ⟨hz, hk⟩ := hF
  rw [h0] at hz hk
  exact ⟨by rw [e1]; exact hz, fun q h1 h2 => by rw [e1]; exact hk q h1 h2,
    ⟨Nat.le_trans hS.1 (by rw [e1]; exact hz), fun q h1 h2 => by rw [e1, hk q (Nat.lt_of_lt_of_le h1 hS.1) (fun z => h2 (hA q (Nat.lt_of_lt_of_le h1 hS.1) z))]; exact hS.2.1 q h1 h2, fun q hq => by
      rcases List.mem_append.mp hq with h | h
      · exact hS.2.2 q h
      · exact hf _ (hL q h)⟩⟩
theorem vx_calli {S SX : Type} {post : Int32 → S → Prop} {px : SX → Prop} {B : S → State → Prop} {BX : String → SX → State → Prop} {AX : Nat → Prop} (hr : vx_Run p l e R s m args below meth c H locs cells slots mc ms (F0 m pc ls st0) rest (va_Qi post B A1 a) (vx_X px BX AX) free) (hS : va_S A0 H0 H locs) (hA : ∀ q, q < H.size → A1 q → A0 q) (hf : ∀ q, free q → A0 q) (hAX : ∀ q, q < H.size → AX q → A0 q)
    (kx : ∀ (E : String) (ce : Cell) (q9 : Addr) (u : SX) (t : State) (H1 : Heap) (locs1 : List Loc), t.heap = H1 → s.vm.Alike t.vm → px u → BX E u t → H.size ≤ H1.size → (∀ q : Nat, q < H.size → ¬ AX q → H1[q]? = H[q]?) → va_S A0 H0 H1 locs1 → H1[q9]? = some ce → ce.vm = .none → s.vm.findClass E = some ce.cls → vx_W p l e R s m args below meth c H1 locs1 (cells + mc) (slots + ms) Q (F0 m pc ls rest) q9)
    (kk : ∀ (r : Int32) (u : S) (t : State) (H1 : Heap) (locs1 : List Loc), t.heap = H1 → s.vm.Alike t.vm → post r u → B u t → H.size ≤ H1.size → (∀ q : Nat, q < H.size → ¬ A1 q → H1[q]? = H[q]?) → va_S A0 H0 H1 locs1 → W p l e R s m args below meth c H1 locs1 (cells + mc) (slots + ms) Q (F0 m (pc + 3) ls (.int r :: rest))) : W p l e R s m args below meth c H locs cells slots Q (F0 m pc ls st0) := by
  intro T hT X
  rcases hr T hT X with ⟨v, st₀, t, T', L, h0, X', hL, e1, e2, ⟨⟨r, u, hv, hp, hb⟩, hF⟩, st⟩ | ⟨q, st₀, t, T', L, E, ce, h0, X', hL, e1, e2, ⟨u, hp, hb, hF⟩, hce, hcv, hcl, st⟩
  · cases hv
    obtain ⟨k1, k2, k3⟩ := vx_keep h0 e1 hS hA hf hL hF
    obtain ⟨t2, a1, b1⟩ := kk r u t T'.heap (locs ++ L) e1.symm (by rw [← e2]; exact X'.warmed.alike) hp hb k1 k2 k3 T' rfl X'
    exact ⟨t2, st t2 a1, b1⟩
  · obtain ⟨k1, k2, k3⟩ := vx_keep h0 e1 hS hAX hf hL hF
    obtain ⟨t2, a1, b1⟩ := kx E ce q u t T'.heap (locs ++ L) e1.symm (by rw [← e2]; exact X'.warmed.alike) hp hb k1 k2 k3 (by rw [e1]; exact hce) hcv hcl T' rfl X'
    exact ⟨t2, st.trans a1, b1⟩
theorem vx_calll {S SX : Type} {post : Int64 → S → Prop} {px : SX → Prop} {B : S → State → Prop} {BX : String → SX → State → Prop} {AX : Nat → Prop} (hr : vx_Run p l e R s m args below meth c H locs cells slots mc ms (F0 m pc ls st0) rest (va_Ql post B A1 a) (vx_X px BX AX) free) (hS : va_S A0 H0 H locs) (hA : ∀ q, q < H.size → A1 q → A0 q) (hf : ∀ q, free q → A0 q) (hAX : ∀ q, q < H.size → AX q → A0 q)
    (kx : ∀ (E : String) (ce : Cell) (q9 : Addr) (u : SX) (t : State) (H1 : Heap) (locs1 : List Loc), t.heap = H1 → s.vm.Alike t.vm → px u → BX E u t → H.size ≤ H1.size → (∀ q : Nat, q < H.size → ¬ AX q → H1[q]? = H[q]?) → va_S A0 H0 H1 locs1 → H1[q9]? = some ce → ce.vm = .none → s.vm.findClass E = some ce.cls → vx_W p l e R s m args below meth c H1 locs1 (cells + mc) (slots + ms) Q (F0 m pc ls rest) q9)
    (kk : ∀ (r : Int64) (u : S) (t : State) (H1 : Heap) (locs1 : List Loc), t.heap = H1 → s.vm.Alike t.vm → post r u → B u t → H.size ≤ H1.size → (∀ q : Nat, q < H.size → ¬ A1 q → H1[q]? = H[q]?) → va_S A0 H0 H1 locs1 → W p l e R s m args below meth c H1 locs1 (cells + mc) (slots + ms) Q (F0 m (pc + 3) ls (.long r :: rest))) : W p l e R s m args below meth c H locs cells slots Q (F0 m pc ls st0) := by
  intro T hT X
  rcases hr T hT X with ⟨v, st₀, t, T', L, h0, X', hL, e1, e2, ⟨⟨r, u, hv, hp, hb⟩, hF⟩, st⟩ | ⟨q, st₀, t, T', L, E, ce, h0, X', hL, e1, e2, ⟨u, hp, hb, hF⟩, hce, hcv, hcl, st⟩
  · cases hv
    obtain ⟨k1, k2, k3⟩ := vx_keep h0 e1 hS hA hf hL hF
    obtain ⟨t2, a1, b1⟩ := kk r u t T'.heap (locs ++ L) e1.symm (by rw [← e2]; exact X'.warmed.alike) hp hb k1 k2 k3 T' rfl X'
    exact ⟨t2, st t2 a1, b1⟩
  · obtain ⟨k1, k2, k3⟩ := vx_keep h0 e1 hS hAX hf hL hF
    obtain ⟨t2, a1, b1⟩ := kx E ce q u t T'.heap (locs ++ L) e1.symm (by rw [← e2]; exact X'.warmed.alike) hp hb k1 k2 k3 (by rw [e1]; exact hce) hcv hcl T' rfl X'
    exact ⟨t2, st.trans a1, b1⟩
theorem vx_callf {S SX : Type} {post : UInt32 → S → Prop} {px : SX → Prop} {B : S → State → Prop} {BX : String → SX → State → Prop} {AX : Nat → Prop} (hr : vx_Run p l e R s m args below meth c H locs cells slots mc ms (F0 m pc ls st0) rest (va_Qf post B A1 a) (vx_X px BX AX) free) (hS : va_S A0 H0 H locs) (hA : ∀ q, q < H.size → A1 q → A0 q) (hf : ∀ q, free q → A0 q) (hAX : ∀ q, q < H.size → AX q → A0 q)
    (kx : ∀ (E : String) (ce : Cell) (q9 : Addr) (u : SX) (t : State) (H1 : Heap) (locs1 : List Loc), t.heap = H1 → s.vm.Alike t.vm → px u → BX E u t → H.size ≤ H1.size → (∀ q : Nat, q < H.size → ¬ AX q → H1[q]? = H[q]?) → va_S A0 H0 H1 locs1 → H1[q9]? = some ce → ce.vm = .none → s.vm.findClass E = some ce.cls → vx_W p l e R s m args below meth c H1 locs1 (cells + mc) (slots + ms) Q (F0 m pc ls rest) q9)
    (kk : ∀ (r : UInt32) (u : S) (t : State) (H1 : Heap) (locs1 : List Loc), t.heap = H1 → s.vm.Alike t.vm → post r u → B u t → H.size ≤ H1.size → (∀ q : Nat, q < H.size → ¬ A1 q → H1[q]? = H[q]?) → va_S A0 H0 H1 locs1 → W p l e R s m args below meth c H1 locs1 (cells + mc) (slots + ms) Q (F0 m (pc + 3) ls (.float r :: rest))) : W p l e R s m args below meth c H locs cells slots Q (F0 m pc ls st0) := by
  intro T hT X
  rcases hr T hT X with ⟨v, st₀, t, T', L, h0, X', hL, e1, e2, ⟨⟨r, u, hv, hp, hb⟩, hF⟩, st⟩ | ⟨q, st₀, t, T', L, E, ce, h0, X', hL, e1, e2, ⟨u, hp, hb, hF⟩, hce, hcv, hcl, st⟩
  · cases hv
    obtain ⟨k1, k2, k3⟩ := vx_keep h0 e1 hS hA hf hL hF
    obtain ⟨t2, a1, b1⟩ := kk r u t T'.heap (locs ++ L) e1.symm (by rw [← e2]; exact X'.warmed.alike) hp hb k1 k2 k3 T' rfl X'
    exact ⟨t2, st t2 a1, b1⟩
  · obtain ⟨k1, k2, k3⟩ := vx_keep h0 e1 hS hAX hf hL hF
    obtain ⟨t2, a1, b1⟩ := kx E ce q u t T'.heap (locs ++ L) e1.symm (by rw [← e2]; exact X'.warmed.alike) hp hb k1 k2 k3 (by rw [e1]; exact hce) hcv hcl T' rfl X'
    exact ⟨t2, st.trans a1, b1⟩
theorem vx_calld {S SX : Type} {post : UInt64 → S → Prop} {px : SX → Prop} {B : S → State → Prop} {BX : String → SX → State → Prop} {AX : Nat → Prop} (hr : vx_Run p l e R s m args below meth c H locs cells slots mc ms (F0 m pc ls st0) rest (va_Qd post B A1 a) (vx_X px BX AX) free) (hS : va_S A0 H0 H locs) (hA : ∀ q, q < H.size → A1 q → A0 q) (hf : ∀ q, free q → A0 q) (hAX : ∀ q, q < H.size → AX q → A0 q)
    (kx : ∀ (E : String) (ce : Cell) (q9 : Addr) (u : SX) (t : State) (H1 : Heap) (locs1 : List Loc), t.heap = H1 → s.vm.Alike t.vm → px u → BX E u t → H.size ≤ H1.size → (∀ q : Nat, q < H.size → ¬ AX q → H1[q]? = H[q]?) → va_S A0 H0 H1 locs1 → H1[q9]? = some ce → ce.vm = .none → s.vm.findClass E = some ce.cls → vx_W p l e R s m args below meth c H1 locs1 (cells + mc) (slots + ms) Q (F0 m pc ls rest) q9)
    (kk : ∀ (r : UInt64) (u : S) (t : State) (H1 : Heap) (locs1 : List Loc), t.heap = H1 → s.vm.Alike t.vm → post r u → B u t → H.size ≤ H1.size → (∀ q : Nat, q < H.size → ¬ A1 q → H1[q]? = H[q]?) → va_S A0 H0 H1 locs1 → W p l e R s m args below meth c H1 locs1 (cells + mc) (slots + ms) Q (F0 m (pc + 3) ls (.double r :: rest))) : W p l e R s m args below meth c H locs cells slots Q (F0 m pc ls st0) := by
  intro T hT X
  rcases hr T hT X with ⟨v, st₀, t, T', L, h0, X', hL, e1, e2, ⟨⟨r, u, hv, hp, hb⟩, hF⟩, st⟩ | ⟨q, st₀, t, T', L, E, ce, h0, X', hL, e1, e2, ⟨u, hp, hb, hF⟩, hce, hcv, hcl, st⟩
  · cases hv
    obtain ⟨k1, k2, k3⟩ := vx_keep h0 e1 hS hA hf hL hF
    obtain ⟨t2, a1, b1⟩ := kk r u t T'.heap (locs ++ L) e1.symm (by rw [← e2]; exact X'.warmed.alike) hp hb k1 k2 k3 T' rfl X'
    exact ⟨t2, st t2 a1, b1⟩
  · obtain ⟨k1, k2, k3⟩ := vx_keep h0 e1 hS hAX hf hL hF
    obtain ⟨t2, a1, b1⟩ := kx E ce q u t T'.heap (locs ++ L) e1.symm (by rw [← e2]; exact X'.warmed.alike) hp hb k1 k2 k3 (by rw [e1]; exact hce) hcv hcl T' rfl X'
    exact ⟨t2, st.trans a1, b1⟩
theorem vx_callv {S SX : Type} {post : S → Prop} {px : SX → Prop} {B : S → State → Prop} {BX : String → SX → State → Prop} {AX : Nat → Prop} (hr : vx_Run p l e R s m args below meth c H locs cells slots mc ms (F0 m pc ls st0) rest (va_Qv post B A1 a) (vx_X px BX AX) free) (hS : va_S A0 H0 H locs) (hA : ∀ q, q < H.size → A1 q → A0 q) (hf : ∀ q, free q → A0 q) (hAX : ∀ q, q < H.size → AX q → A0 q)
    (kx : ∀ (E : String) (ce : Cell) (q9 : Addr) (u : SX) (t : State) (H1 : Heap) (locs1 : List Loc), t.heap = H1 → s.vm.Alike t.vm → px u → BX E u t → H.size ≤ H1.size → (∀ q : Nat, q < H.size → ¬ AX q → H1[q]? = H[q]?) → va_S A0 H0 H1 locs1 → H1[q9]? = some ce → ce.vm = .none → s.vm.findClass E = some ce.cls → vx_W p l e R s m args below meth c H1 locs1 (cells + mc) (slots + ms) Q (F0 m pc ls rest) q9)
    (kk : ∀ (u : S) (t : State) (H1 : Heap) (locs1 : List Loc), t.heap = H1 → s.vm.Alike t.vm → post u → B u t → H.size ≤ H1.size → (∀ q : Nat, q < H.size → ¬ A1 q → H1[q]? = H[q]?) → va_S A0 H0 H1 locs1 → W p l e R s m args below meth c H1 locs1 (cells + mc) (slots + ms) Q (F0 m (pc + 3) ls (rest))) : W p l e R s m args below meth c H locs cells slots Q (F0 m pc ls st0) := by
  intro T hT X
  rcases hr T hT X with ⟨v, st₀, t, T', L, h0, X', hL, e1, e2, ⟨⟨u, hv, hp, hb⟩, hF⟩, st⟩ | ⟨q, st₀, t, T', L, E, ce, h0, X', hL, e1, e2, ⟨u, hp, hb, hF⟩, hce, hcv, hcl, st⟩
  · cases hv
    obtain ⟨k1, k2, k3⟩ := vx_keep h0 e1 hS hA hf hL hF
    obtain ⟨t2, a1, b1⟩ := kk u t T'.heap (locs ++ L) e1.symm (by rw [← e2]; exact X'.warmed.alike) hp hb k1 k2 k3 T' rfl X'
    exact ⟨t2, st t2 a1, b1⟩
  · obtain ⟨k1, k2, k3⟩ := vx_keep h0 e1 hS hAX hf hL hF
    obtain ⟨t2, a1, b1⟩ := kx E ce q u t T'.heap (locs ++ L) e1.symm (by rw [← e2]; exact X'.warmed.alike) hp hb k1 k2 k3 (by rw [e1]; exact hce) hcv hcl T' rfl X'
    exact ⟨t2, st.trans a1, b1⟩
/-- caught by the row x of this method's table; the rows ahead don't take it -/
theorem vx_catch {own name : String} {E : String} {ce : Cell} {q : Addr} (hown : s.vm.findClass own = some m.cls) (pre : List ExceptionTableEntry) (x : ExceptionTableEntry) (suf : List ExceptionTableEntry) (hsplit : c.exceptionTable.toList = pre ++ x :: suf)
    (hpass : ∀ z ∈ pre, covers z pc = false ∨ (z.catchType ≠ 0 ∧ ∃ nm : String, (Cond.classLink own z.catchType nm).before args s = true ∧ va_Nc E nm s)) (hx : covers x pc = true) (h0 : x.catchType ≠ 0)
    (hlink : (Cond.classLink own x.catchType name).before args s = true) (hcast : (Cond.castable E name).before args s = true) (hcell : H[q]? = some ce) (hv : ce.vm = .none) (hcl : s.vm.findClass E = some ce.cls)
    (kk : W p l e R s m args below meth c H locs cells slots Q (F0 m x.handlerPc ls [.ref q])) : vx_W p l e R s m args below meth c H locs cells slots Q (F0 m pc ls rest) q := by
  intro T hT X
  have hpl : e.platform.magicAccessors = ({} : Platform).magicAccessors := by rw [X.admits.platform]
  obtain ⟨c3, c4, hc3, hc4, hasg⟩ := Cond.castable_spec hcast
  cases Option.some.inj (hc3.symm.trans hcl)
  obtain ⟨c5, hc5, hcl5⟩ := Cond.classLink_spec hown hlink e.platform hpl
  cases Option.some.inj (hc4.symm.trans hc5)
  obtain ⟨vm', X', st⟩ := X.thenCaughtThrough q (g := F0 m pc ls rest) rfl (Steps.refl _) (by rw [hT]; exact hcell) (by rw [hv]; rfl) (by obtain ⟨k9, h9, -⟩ := Vm.findClass_spec hcl; exact ⟨k9, h9⟩) pre x suf hsplit
    (fun z hz => by
      rcases hpass z hz with h | ⟨hz0, nm, hl1, hn1⟩
      · exact Or.inl h
      · obtain ⟨c6, hc6, hcl6⟩ := Cond.classLink_spec hown hl1 e.platform hpl
        obtain ⟨a8, b8, h1, h2, h3⟩ := hn1
        cases Option.some.inj (h1.symm.trans hcl)
        cases Option.some.inj (h2.symm.trans hc6)
        exact Or.inr ⟨hz0, _, hcl6, h3⟩) hx (Or.inr ⟨h0, c4, hcl5, hasg⟩)
  obtain ⟨t, a1, b1⟩ := kk (T.setVm vm') hT X'
  exact ⟨t, st.trans a1, b1⟩
end Rows
section Ends
variable {p : Program} {l : Launch} {e : Env} {R : Room} {s : State} {m : MethodId} {args : Array Value} {below : List Frame} {meth : Method} {c : Code} {H : Heap} {locs : List Loc} {cells slots : Nat} {Q : State → Prop}
variable {mc ms : Nat} {free : Addr → Prop} {A0 A1 : Nat → Prop} {H0 : Heap} {a : Array Value} {ls : Array Slot} {st0 rest : List Value}
variable {Qc : Array Value → State → Outcome → State → Prop} {XC : String → State → State → Prop}
/-- what a body that may throw owes at its end -/
def vx_MQ (below : List Frame) (Qc : Array Value → State → Outcome → State → Prop) (XC : String → State → State → Prop) (a : Array Value) (s : State) (mc ms : Nat) (free : Addr → Prop) : State → Prop := fun t =>
  ∃ o, t.status = .running ∧ Ended t below o ∧ vx_Q Qc XC mc ms free a s o t
theorem vx_ret {g : JFrame} {mc ms : Nat} (k : W p l e R s m args below meth c H locs cells slots (MQ below Qc args s mc ms free) g) : W p l e R s m args below meth c H locs cells slots (vx_MQ below Qc XC args s mc ms free) g := by
  intro T hT X
  obtain ⟨t, a1, o, b1, b2, b3, b4⟩ := k T hT X
  exact ⟨t, a1, o, b1, b2, Or.inl ⟨b3, b4⟩⟩
/-- not caught here: it goes on to the caller -/
theorem vx_widen {g : JFrame} {q : Addr} {k n : Nat} (h1 : cells ≤ k) (h2 : slots ≤ n) (kk : vx_W p l e R s m args below meth c H locs k n Q g q) : vx_W p l e R s m args below meth c H locs cells slots Q g q := fun T hT X => kk T hT (stand_widen X h1 h2)
theorem vx_out {pc : Nat} {E : String} {ce : Cell} {q : Addr} {mc ms : Nat} (hout : ∀ x ∈ c.exceptionTable.toList, covers x pc = false) (hlocks : meth.locks = false) (hcell : H[q]? = some ce) (hv : ce.vm = .none) (hcl : s.vm.findClass E = some ce.cls)
    (hx : ∀ t : State, t.heap = H → s.vm.Alike t.vm → XC E s t) (hf : ∀ z ∈ locs, free z.base) (hc : cells ≤ mc) (hs : slots ≤ ms) :
    vx_W p l e R s m args below meth c H locs cells slots (vx_MQ below Qc XC args s mc ms free) (F0 m pc ls rest) q := by
  intro T hT X
  obtain ⟨st1, hrun, hend, hW, hsm⟩ := X.leaveThrown q (g := F0 m pc ls rest) rfl rfl rfl hout hlocks
  have hcell9 : (T.setFrames (.throwing q :: below)).heap[q]? = some ce := by
    show T.heap[q]? = some ce
    rw [hT]; exact hcell
  exact ⟨_, st1, .threw q, hrun, hend, Or.inr ⟨q, rfl, E, ce, locs, hx _ hT hW.alike, hcell9, hv, hcl, hW, hsm.mono hc hs, hf⟩⟩
theorem vx_frame {U : State} {k n : Nat} (h : s.sameButNew ({ U with vm := s.vm } : State) locs k n) : s.heap.size ≤ U.heap.size ∧ ∀ q : Nat, q < s.heap.size → (∀ z ∈ locs, z.base ≠ q) → U.heap[q]? = s.heap[q]? := by
  obtain ⟨-, h2, -, -, -, h6⟩ := h
  refine ⟨h2, fun q hq hz => ?_⟩
  obtain ⟨c9, e1, e2, e3, e4⟩ := h6 q _ (Array.getElem?_eq_getElem hq)
  have hs : c9.slots = (s.heap[q]).slots := Array.ext_getElem? fun i => e4 i fun hm => hz _ hm rfl
  have h9 : c9 = s.heap[q] := by
    rw [hs] at e2
    exact e2
  have e5 : U.heap[q]? = some c9 := e1
  rw [e5, h9, Array.getElem?_eq_getElem hq]
/-- the words of a throw but the four that speak of the heap -/
def vx_no (w : Cond) : Bool := decide (w ≠ .isRef (.static Bundle.tN "UNASSIGNED_STACK" Bundle.steD)) && decide (w ≠ .isRef (.static Bundle.tN "SUPPRESSED_SENTINEL" Bundle.listD)) && decide (w ≠ .laysStatic Bundle.tN "UNASSIGNED_STACK" Bundle.steD) && decide (w ≠ .laysStatic Bundle.tN "SUPPRESSED_SENTINEL" Bundle.listD)
def vx_at0 (own : String) (ic : Nat) (X : String) (names : List String) : List Cond := (Bundle.ownAtoms0 own ic X names).filter vx_no
def vx_atS (own : String) (ic : Nat) (X : String) (names : List String) : List Cond := (Bundle.ownAtoms own ic X names).filter vx_no
/-- a word that the tables alone decide, or a good one -/
def vx_ot (w : Cond) : Bool := w.onTables || goodWord w
theorem vx_ot_at {args a' : Array Value} {s U : State} {w : Cond} (hW : s.WarmedH U.vm) (hvm : s.vm = U.vm) (hg : vx_ot w = true) (h : w.before args s = true) : w.before a' U = true := by
  simp only [vx_ot, Bool.or_eq_true] at hg
  rcases hg with hg | hg
  · exact va_tabs hg hvm h
  · exact word_at hW (good_of_word hg) h
/-- a list's words: the good ones out of the method's own list, the others by premises of their own -/
theorem vx_hat {args : Array Value} {s : State} {L B : List Cond} (h1 : ∀ w ∈ L.filter goodWord, w.before args s = true) (h2 : ∀ w ∈ L.filter (fun w => !goodWord w), w ∈ B) (h3 : ∀ w ∈ B, w.before args s = true) : ∀ w ∈ L, w.before args s = true := by
  intro w hw
  by_cases g : goodWord w = true
  · exact h1 w (List.mem_filter.mpr ⟨hw, g⟩)
  · refine h3 w (h2 w (List.mem_filter.mpr ⟨hw, ?_⟩))
    show (!goodWord w) = true
    cases hgw : goodWord w
    · rfl
    · exact absurd hgw g
theorem vx_c {args : Array Value} {s : State} {w : Cond} {B : List Cond} (h : w.before args s = true) (t : ∀ w ∈ B, w.before args s = true) : ∀ w' ∈ w :: B, w'.before args s = true := fun w' h' => (List.mem_cons.mp h').elim (fun e => by rw [e]; exact h) (t w')
theorem vx_n {args : Array Value} {s : State} : ∀ w ∈ ([] : List Cond), w.before args s = true := fun _ h => nomatch h
theorem vx_own {args : Array Value} {s : State} {L : List Cond} (h1 : ∀ w ∈ L.filter vx_no, w.before args s = true)
    (hU : (Cond.isRef (.static Bundle.tN "UNASSIGNED_STACK" Bundle.steD)).before args s = true) (hN : (Cond.isRef (.static Bundle.tN "SUPPRESSED_SENTINEL" Bundle.listD)).before args s = true)
    (lU : (Cond.laysStatic Bundle.tN "UNASSIGNED_STACK" Bundle.steD).before args s = true) (lN : (Cond.laysStatic Bundle.tN "SUPPRESSED_SENTINEL" Bundle.listD).before args s = true) : ∀ w ∈ L, w.before args s = true := by
  intro w hw
  by_cases e1 : w = .isRef (.static Bundle.tN "UNASSIGNED_STACK" Bundle.steD)
  · rw [e1]; exact hU
  · by_cases e2 : w = .isRef (.static Bundle.tN "SUPPRESSED_SENTINEL" Bundle.listD)
    · rw [e2]; exact hN
    · by_cases e3 : w = .laysStatic Bundle.tN "UNASSIGNED_STACK" Bundle.steD
      · rw [e3]; exact lU
      · by_cases e4 : w = .laysStatic Bundle.tN "SUPPRESSED_SENTINEL" Bundle.listD
        · rw [e4]; exact lN
        · exact h1 w (List.mem_filter.mpr ⟨hw, by unfold vx_no; rw [decide_eq_true e1, decide_eq_true e2, decide_eq_true e3, decide_eq_true e4]; rfl⟩)
/-- where a static field lies, its class's statics cell in H -/
def vx_L (C n d : String) (A : Nat → Prop) (U : State) (H : Heap) : Prop := ∃ (c : ClassId) (k : Class) (i : Nat) (f : Field) (a : Nat) (cell : Cell), U.vm.findClass C = some c ∧ U.fieldFound? C n d = some (c, k, i, f) ∧ f.isStatic = true ∧ k.statics = some a ∧ H[a]? = some cell ∧ cell.vm.isStatics = true ∧ cell.cls = c ∧ f.slot < cell.slots.size ∧ k.staticTypes[f.slot]? = some f.type ∧ ¬ A a
theorem vx_L.moved {C n d : String} {A : Nat → Prop} {u U : State} {H : Heap} (hvm : u.vm.Alike U.vm) (h : vx_L C n d A u H) : vx_L C n d A U H := by
  obtain ⟨c, k, i, f, a, cell, h1, h2, h3, h4, h5, h6, h7, h8, h9, h10⟩ := h
  obtain ⟨k', hi', he⟩ := State.fieldFound?_setVm hvm h2
  exact ⟨c, k', i, f, a, cell, by rw [hvm.findClass]; exact h1, hi', h3, by rw [he]; exact h4, h5, h6, h7, h8, by rw [he]; exact h9, h10⟩
theorem vx_L.kept {C n d : String} {A : Nat → Prop} {U : State} {H H1 : Heap} (h : vx_L C n d A U H) (hq : ∀ a : Nat, a < H.size → ¬ A a → H1[a]? = H[a]?) : vx_L C n d A U H1 := by
  obtain ⟨c, k, i, f, a, cell, h1, h2, h3, h4, h5, h6, h7, h8, h9, h10⟩ := h
  exact ⟨c, k, i, f, a, cell, h1, h2, h3, h4, by rw [hq a (Array.getElem?_eq_some_iff.mp h5).1 h10]; exact h5, h6, h7, h8, h9, h10⟩
theorem vx_L.narrow {C n d : String} {A B : Nat → Prop} {U : State} {H : Heap} (h : vx_L C n d A U H) (hAB : ∀ q, B q → A q) : vx_L C n d B U H := by
  obtain ⟨c, k, i, f, a, cell, h1, h2, h3, h4, h5, h6, h7, h8, h9, h10⟩ := h
  exact ⟨c, k, i, f, a, cell, h1, h2, h3, h4, h5, h6, h7, h8, h9, fun z => h10 (hAB _ z)⟩
theorem vx_L.word {C n d : String} {A : Nat → Prop} {s : State} {args : Array Value} (h : vx_L C n d A s s.heap) : (Cond.laysStatic C n d).before args s = true := by
  obtain ⟨c, k, i, f, a, cell, h1, h2, h3, h4, h5, h6, h7, h8, h9, -⟩ := h
  show (Cond.laysStatic C n d).holds args s none s [] = true
  exact Cond.laysStatic_of h1 h2 h3 h4 h5 h6 h7 h8 h9
/-- .. and what it holds: null or some reference -/
def vx_Zq (C n d : String) (A : Nat → Prop) (U : State) (H : Heap) : Prop := va_Zq C n d A U H ∧ vx_L C n d A U H
theorem vx_Zq.moved {C n d : String} {A : Nat → Prop} {u U : State} {H : Heap} (hvm : u.vm.Alike U.vm) (h : vx_Zq C n d A u H) : vx_Zq C n d A U H := ⟨va_Zq.moved hvm h.1, vx_L.moved hvm h.2⟩
theorem vx_Zq.kept {C n d : String} {A : Nat → Prop} {U : State} {H H1 : Heap} (h : vx_Zq C n d A U H) (hq : ∀ a : Nat, a < H.size → ¬ A a → H1[a]? = H[a]?) : vx_Zq C n d A U H1 := ⟨va_Zq.kept h.1 hq, vx_L.kept h.2 hq⟩
theorem vx_Zq.narrow {C n d : String} {A B : Nat → Prop} {U : State} {H : Heap} (h : vx_Zq C n d A U H) (hAB : ∀ q, B q → A q) : vx_Zq C n d B U H := ⟨va_Zq.narrow h.1 hAB, vx_L.narrow h.2 hAB⟩
theorem vx_Zqof {args : Array Value} {s : State} {C n d : String} {A : Nat → Prop} (hl : (Cond.laysStatic C n d).before args s = true) (hini : (Cond.initialized C).before args s = true) (h : (Cond.isRef (.static C n d)).before args s = true) (hA : ∀ a : Nat, a < s.heap.size → ¬ A a) : vx_Zq C n d A s s.heap := by
  refine ⟨va_Zqof hl hini h hA, ?_⟩
  obtain ⟨c, k, i, f, a, cell, h1, h2, h3, h4, h5, h6, h7, h8, h9⟩ := Cond.laysStatic_spec hl
  exact ⟨c, k, i, f, a, cell, h1, h2, h3, h4, h5, h6, h7, h8, h9, hA a (Array.getElem?_eq_some_iff.mp h5).1⟩
theorem vx_isRef {C n d : String} {v : Value} {A : Nat → Prop} {s : State} {args : Array Value} (h : va_Z C n d v A s s.heap) (hv : v.isRef = true) : (Cond.isRef (.static C n d)).before args s = true := by
  obtain ⟨cf, kf, fi, f, a, cell, h1, h2, h3, h4, h5, h6, h7, -⟩ := h
  have he : (Term.static C n d).eval args s none [] s = some v := by
    simp [Term.eval, State.fieldNamed?, h1, h2, h4, h5, h6, h7]
  simp only [Cond.before, Cond.holds, Cond.value, he]
  cases v <;> simp_all [Value.isRef]
theorem vx_isRefq {C n d : String} {A : Nat → Prop} {s : State} {args : Array Value} (h : va_Zq C n d A s s.heap) : (Cond.isRef (.static C n d)).before args s = true := by
  rcases h with h | ⟨t, h⟩
  · exact vx_isRef h rfl
  · exact vx_isRef h rfl
/-- the same frame, seen from here: as if the method were called anew in this heap -/
theorem vx_rebase {T : State} (X : Stand p l e R s m args below meth c T locs cells slots) {R' : Room} (hf : R'.frames ≤ R.frames) (hl : R'.locals ≤ R.locals) (hc : cells + R'.cells ≤ R.cells) (hs : slots + R'.slots ≤ R.slots) :
    Stand p l e R' ((T.setVm s.vm).setFrames (.invoking m args :: below)) m args below meth c T [] 0 0 := by
  have htop : (T.setVm s.vm).topJava?.isSome := X.here.top
  have hF : ((T.setVm s.vm).setFrames (.invoking m args :: below)).frames = .invoking m args :: below := State.frames_setFrames _ (State.cur_lt_of_top htop)
  obtain ⟨g₀, hg0⟩ := Option.isSome_iff_exists.mp htop
  obtain ⟨r, hr⟩ := State.topJava?_eq_some.mp hg0
  have hl9 : e.platform.stackLimits (T.setVm s.vm).me = e.platform.stackLimits s.me := X.limits
  have hb9 : (T.setVm s.vm).me.stackBytes = s.me.stackBytes := X.bytes
  refine ⟨X.admits, X.cas, X.clock, hF, ?_, X.hears, X.method, X.code, X.here, X.tail, X.warmed, ?_, ?_, ?_⟩
  · have h := X.room
    have hU : ((T.setVm s.vm).setFrames (.invoking m args :: below)).localsInUse = s.localsInUse := by
      rw [State.localsInUse_invoking hF (meth := meth) (c := c) X.method X.code, State.localsInUse_invoking X.frames X.method X.code]
    simp only [State.hasRoom, Bool.and_eq_true, decide_eq_true_eq] at h ⊢
    obtain ⟨⟨⟨⟨h1, h2, h3, h4, h5, h6⟩, h7⟩, h8⟩, h9⟩ := h
    rw [X.frames, List.length_cons] at h2 h3
    have q1 := X.heapSize
    have q2 := X.used
    simp only [hF, hU, List.length_cons, State.stackLimits_setFrames, State.stackBytes_setFrames, hl9, hb9]
    refine ⟨⟨⟨⟨by omega, by omega, by omega, by omega, by omega, h6⟩, ?_⟩, ?_⟩, X.book⟩
    · show T.heap.size + R'.cells ≤ e.platform.maxCells
      omega
    · show T.slotsUsed + R'.slots ≤ e.platform.maxSlots
      omega
  · rw [State.stackLimits_setFrames]; rfl
  · rw [State.stackBytes_setFrames]; rfl
  · refine ⟨?_, Nat.le_refl _, Nat.le_refl _, ?_, ?_, fun a c9 h9 => ⟨c9, h9, rfl, rfl, fun _ _ => rfl⟩⟩
    · obtain ⟨t, ht, -⟩ := State.frames_cons hr
      show T.setVm s.vm = { ((T.setVm s.vm).setFrames (.invoking m args :: below)).setFrames (T.setVm s.vm).frames with heap := T.heap, slotsUsed := T.slotsUsed }
      rw [State.setFrames_setFrames, State.setFrames_self ht]
      rfl
    · show T.slotsUsed = T.slotsUsed + ((T.heap.toList.drop T.heap.size).map (·.slots.size)).sum
      rw [List.drop_eq_nil_of_le (Nat.le_of_eq Array.length_toList)]
      rfl
    · show ((T.heap.toList.drop T.heap.size).map (·.slots.size)).sum ≤ 0
      rw [List.drop_eq_nil_of_le (Nat.le_of_eq Array.length_toList)]
      exact Nat.le_refl _
/-- 'throw new E()': new; dup; invokespecial; athrow -/
theorem vx_throw0 {cc : ByteArray} {pc : Nat} (hexec : p.tables.exec = Jvm.exec) (hb : c.code = cc) (hl : l.stackTraces = false) {own cls : String} {names : List String} {ik ic mc ms : Nat} {A : Nat → Prop}
    (hown : s.vm.findClass own = some m.cls) (hcls : Bundle.fit cls = true) (hnames : ∀ n ∈ names, Bundle.fit n = true)
    (hk : (Cond.classLink own ik cls).before args s = true) (hini : (Cond.initialized cls).before args s = true) (hat : ∀ w ∈ vx_at0 own ic cls names, w.before args s = true)
    (hgood : ∀ w ∈ Cond.classLink own ik cls :: Cond.initialized cls :: vx_at0 own ic cls names, vx_ot w = true)
    (hU : vx_Zq Bundle.tN "UNASSIGNED_STACK" Bundle.steD A s s.heap) (hN : vx_Zq Bundle.tN "SUPPRESSED_SENTINEL" Bundle.listD A s s.heap) (hS : va_S A s.heap H locs) (hsize : ls.size = c.maxLocals)
    (d0 : decode cc pc = .ok (.new ik, 3)) (d3 : decode cc (pc + 3) = .ok (.dup, 1)) (d4 : decode cc (pc + 4) = .ok (.invokespecial ic, 3)) (d7 : decode cc (pc + 7) = .ok (.athrow, 1))
    (hout : ∀ x ∈ c.exceptionTable.toList, covers x (pc + 7) = false)
    (hRframes : names.length + 3 < R.frames) (hRlocals : (rest.map fun v => v.category).sum + (13 * (names.length + 1) + 42) ≤ R.locals) (hRcells : cells + 1 ≤ R.cells) (hRslots : slots + 6 ≤ R.slots) (hlocks : meth.locks = false)
    (hx : ∀ t : State, s.vm.Alike t.vm → H.size ≤ t.heap.size → (∀ q : Nat, q < H.size → t.heap[q]? = H[q]?) → XC cls s t)
    (hf : ∀ z ∈ locs, free z.base) (hc : cells + 1 ≤ mc) (hs : slots + 6 ≤ ms) :
    W p l e R s m args below meth c H locs cells slots (vx_MQ below Qc XC args s mc ms free) (F0 m pc ls rest) := by
  intro T hT X
  have htr : e.platform.stackTraces = false := (show e.platform.stackTraces = l.stackTraces by rw [X.admits.platform]).trans hl
  have Y := vx_rebase X (R' := { frames := R.frames, locals := R.locals, cells := 1, slots := 6 }) (Nat.le_refl _) (Nat.le_refl _) hRcells hRslots
  obtain ⟨s', hA⟩ : ∃ z, z = (T.setVm s.vm).setFrames (.invoking m args :: below) := ⟨_, rfl⟩
  rw [← hA] at Y
  have hvm : s'.vm = s.vm := by rw [hA]; rfl
  have hhp : s'.heap = H := by rw [hA]; exact hT
  have hW0 : s.WarmedH s'.vm := by rw [hvm]; exact State.WarmedH.refl s
  have hat' : ∀ w ∈ vx_at0 own ic cls names, w.before args s' = true := fun w hw => vx_ot_at hW0 hvm.symm (hgood w (List.mem_cons_of_mem _ (List.mem_cons_of_mem _ hw))) (hat w hw)
  have hk' : (Cond.classLink own ik cls).before args s' = true := vx_ot_at hW0 hvm.symm (hgood _ List.mem_cons_self) hk
  have hini' : (Cond.initialized cls).before args s' = true := vx_ot_at hW0 hvm.symm (hgood _ (List.mem_cons_of_mem _ List.mem_cons_self)) hini
  have hU' : vx_Zq Bundle.tN "UNASSIGNED_STACK" Bundle.steD A s' s'.heap := by rw [hhp]; exact vx_Zq.moved hW0.alike (hU.kept hS.2.1)
  have hN' : vx_Zq Bundle.tN "SUPPRESSED_SENTINEL" Bundle.listD A s' s'.heap := by rw [hhp]; exact vx_Zq.moved hW0.alike (hN.kept hS.2.1)
  have h : ∀ w ∈ Bundle.ownAtoms0 own ic cls names, w.before args s' = true := vx_own hat' (vx_isRefq hU'.1) (vx_isRefq hN'.1) hU'.2.word hN'.2.word
  have hown' : s'.vm.findClass own = some m.cls := by rw [hvm]; exact hown
  have hins : (Cond.instantiable cls 6).before args s' = true := h _ (by simp [Bundle.ownAtoms0])
  obtain ⟨vm₁, cX, kX, hfX, hkX, -, -, X₁, st1⟩ := Y.newCold hexec (own := own) (C := cls) (index := ik) (n := 6) hown' hk' hins hini'
    (g := F0 m pc ls rest) rfl (by rw [hb]; exact d0) (Nat.le_refl _) (Nat.le_refl _)
  generalize hT1 : (T.setVm vm₁).pushCell { cls := cX, slots := kX.instanceTypes.map defaultValue, vm := .none } = T1 at X₁ st1
  have hcat : (Value.ref T.heap.size).category = 1 := rfl
  have hcellA : T1.heap[T.heap.size]? = some (freshCell cX kX) := by rw [← hT1]; exact State.heap_pushCell_size _ _
  have d3' : decode c.code (pc + 3) = .ok (.dup, 1) := by rw [hb]; exact d3
  obtain ⟨U, hsteps, hrun, hend, hW, hsame, ce, hce, hO⟩ := X₁.ctorThrow0 hexec htr (own := own) (cls := cls) (names := names) (ic := ic) hown' hcls hnames h (fun x hx => nomatch hx) hfX hkX hcellA (by rw [hhp, hT]; exact Nat.le_refl _)
    (g := { method := m, pc := pc + 4, locals := ls, stack := .ref T.heap.size :: .ref T.heap.size :: rest, locked := none }) rfl hsize rfl rfl (rest := rest) rfl
    (by rw [hb]; exact d4) (by rw [hb]; exact d7) hout hRframes (by simp only [List.map_cons, List.sum_cons, hcat]; omega) hlocks
  obtain ⟨f1, f2⟩ := vx_frame hsame
  rw [hhp] at f1 f2
  have hWs : s.WarmedH U.vm := State.WarmedH.trans hW0 hW
  have hcl : s.vm.findClass cls = some ce.cls := by
    have h9 := hO.cls
    rw [hvm] at h9
    exact h9
  have hall : s.sameButNew ({ U with vm := s.vm } : State) locs mc ms := by
    subst hA
    obtain ⟨e1, e2⟩ := hsame
    rw [State.setFrames_setFrames] at e1
    have h2 : (T.setVm s.vm).sameButNew ({ U with vm := s.vm } : State) [] (0 + 1) (0 + 6) := ⟨e1, e2⟩
    have h3 := X.same.trans h2
    rw [List.append_nil] at h3
    exact h3.mono hc hs
  refine ⟨U, ?_, .threw T.heap.size, hrun, hend, Or.inr ⟨T.heap.size, rfl, cls, ce, locs, hx U hWs.alike f1 (fun q hq => f2 q hq (fun z hz => nomatch hz)), hce, hO.vm, hcl, hWs, hall, hf⟩⟩
  refine st1 _ ?_
  show Steps p.tables e below (T1.setTop { method := m, pc := pc + 3, locals := ls, stack := .ref T.heap.size :: rest, locked := none }) _
  jvm_step X₁.here [X₁.here.top, hexec, d3', Value.category]
  exact hsteps
/-- 'throw new E("text")': new; dup; ldc; invokespecial; athrow -/
theorem vx_throwS {cc : ByteArray} {pc : Nat} (hexec : p.tables.exec = Jvm.exec) (hb : c.code = cc) (hl : l.stackTraces = false) {own cls text : String} {names : List String} {ik is ic mc ms sa : Nat} {A : Nat → Prop}
    (hown : s.vm.findClass own = some m.cls) (hcls : Bundle.fit cls = true) (hnames : ∀ n ∈ names, Bundle.fit n = true)
    (hk : (Cond.classLink own ik cls).before args s = true) (hini : (Cond.initialized cls).before args s = true) (hstr : vk_R own is text sa s) (hat : ∀ w ∈ vx_atS own ic cls names, w.before args s = true)
    (hgood : ∀ w ∈ Cond.classLink own ik cls :: Cond.initialized cls :: vx_atS own ic cls names, vx_ot w = true)
    (hU : vx_Zq Bundle.tN "UNASSIGNED_STACK" Bundle.steD A s s.heap) (hN : vx_Zq Bundle.tN "SUPPRESSED_SENTINEL" Bundle.listD A s s.heap) (hS : va_S A s.heap H locs) (hsize : ls.size = c.maxLocals)
    (d0 : decode cc pc = .ok (.new ik, 3)) (d3 : decode cc (pc + 3) = .ok (.dup, 1)) (d4 : decode cc (pc + 4) = .ok (.ldc is, 2)) (d6 : decode cc (pc + 6) = .ok (.invokespecial ic, 3)) (d9 : decode cc (pc + 9) = .ok (.athrow, 1))
    (hout : ∀ x ∈ c.exceptionTable.toList, covers x (pc + 9) = false)
    (hRframes : names.length + 3 < R.frames) (hRlocals : (rest.map fun v => v.category).sum + (13 * (names.length + 1) + 43) ≤ R.locals) (hRcells : cells + 1 ≤ R.cells) (hRslots : slots + 6 ≤ R.slots) (hlocks : meth.locks = false)
    (hx : ∀ t : State, s.vm.Alike t.vm → H.size ≤ t.heap.size → (∀ q : Nat, q < H.size → t.heap[q]? = H[q]?) → XC cls s t)
    (hf : ∀ z ∈ locs, free z.base) (hc : cells + 1 ≤ mc) (hs : slots + 6 ≤ ms) :
    W p l e R s m args below meth c H locs cells slots (vx_MQ below Qc XC args s mc ms free) (F0 m pc ls rest) := by
  intro T hT X
  have htr : e.platform.stackTraces = false := (show e.platform.stackTraces = l.stackTraces by rw [X.admits.platform]).trans hl
  have Y := vx_rebase X (R' := { frames := R.frames, locals := R.locals, cells := 1, slots := 6 }) (Nat.le_refl _) (Nat.le_refl _) hRcells hRslots
  obtain ⟨s', hA⟩ : ∃ z, z = (T.setVm s.vm).setFrames (.invoking m args :: below) := ⟨_, rfl⟩
  rw [← hA] at Y
  have hvm : s'.vm = s.vm := by rw [hA]; rfl
  have hhp : s'.heap = H := by rw [hA]; exact hT
  have hW0 : s.WarmedH s'.vm := by rw [hvm]; exact State.WarmedH.refl s
  have hat' : ∀ w ∈ vx_atS own ic cls names, w.before args s' = true := fun w hw => vx_ot_at hW0 hvm.symm (hgood w (List.mem_cons_of_mem _ (List.mem_cons_of_mem _ hw))) (hat w hw)
  have hk' : (Cond.classLink own ik cls).before args s' = true := vx_ot_at hW0 hvm.symm (hgood _ List.mem_cons_self) hk
  have hini' : (Cond.initialized cls).before args s' = true := vx_ot_at hW0 hvm.symm (hgood _ (List.mem_cons_of_mem _ List.mem_cons_self)) hini
  have hU' : vx_Zq Bundle.tN "UNASSIGNED_STACK" Bundle.steD A s' s'.heap := by rw [hhp]; exact vx_Zq.moved hW0.alike (hU.kept hS.2.1)
  have hN' : vx_Zq Bundle.tN "SUPPRESSED_SENTINEL" Bundle.listD A s' s'.heap := by rw [hhp]; exact vx_Zq.moved hW0.alike (hN.kept hS.2.1)
  have h : ∀ w ∈ Bundle.ownAtoms own ic cls names, w.before args s' = true := vx_own hat' (vx_isRefq hU'.1) (vx_isRefq hN'.1) hU'.2.word hN'.2.word
  have hown' : s'.vm.findClass own = some m.cls := by rw [hvm]; exact hown
  have hins : (Cond.instantiable cls 6).before args s' = true := h _ (by simp [Bundle.ownAtoms])
  obtain ⟨vm₁, cX, kX, hfX, hkX, -, -, X₁, st1⟩ := Y.newCold hexec (own := own) (C := cls) (index := ik) (n := 6) hown' hk' hins hini'
    (g := F0 m pc ls rest) rfl (by rw [hb]; exact d0) (Nat.le_refl _) (Nat.le_refl _)
  generalize hT1 : (T.setVm vm₁).pushCell { cls := cX, slots := kX.instanceTypes.map defaultValue, vm := .none } = T1 at X₁ st1
  have hcat : (Value.ref T.heap.size).category = 1 := rfl
  have hcellA : T1.heap[T.heap.size]? = some (freshCell cX kX) := by rw [← hT1]; exact State.heap_pushCell_size _ _
  have d3' : decode c.code (pc + 3) = .ok (.dup, 1) := by rw [hb]; exact d3
  have d4' : decode c.code (pc + 4) = .ok (.ldc is, 2) := by rw [hb]; exact d4
  have hstr' : vk_R own is text sa s' := vk_R.warm hW0 hstr
  obtain ⟨U, hsteps, hrun, hend, hW, hsame, ce, hce, hO⟩ := X₁.ctorThrowS hexec htr (own := own) (cls := cls) (names := names) (ic := ic) hown' hcls hnames h (fun x hx => nomatch hx) hfX hkX hcellA (by rw [hhp, hT]; exact Nat.le_refl _) (msg := .ref sa) rfl
    (g := { method := m, pc := pc + 6, locals := ls, stack := .ref sa :: .ref T.heap.size :: .ref T.heap.size :: rest, locked := none }) rfl hsize rfl rfl (rest := rest) rfl
    (by rw [hb]; exact d6) (by rw [hb]; exact d9) hout hRframes (by simp only [List.map_cons, List.sum_cons, hcat]; omega) hlocks
  obtain ⟨f1, f2⟩ := vx_frame hsame
  rw [hhp] at f1 f2
  have hWs : s.WarmedH U.vm := State.WarmedH.trans hW0 hW
  have hcl : s.vm.findClass cls = some ce.cls := by
    have h9 := hO.cls
    rw [hvm] at h9
    exact h9
  have hall : s.sameButNew ({ U with vm := s.vm } : State) locs mc ms := by
    subst hA
    obtain ⟨e1, e2⟩ := hsame
    rw [State.setFrames_setFrames] at e1
    have h2 : (T.setVm s.vm).sameButNew ({ U with vm := s.vm } : State) [] (0 + 1) (0 + 6) := ⟨e1, e2⟩
    have h3 := X.same.trans h2
    rw [List.append_nil] at h3
    exact h3.mono hc hs
  refine ⟨U, ?_, .threw T.heap.size, hrun, hend, Or.inr ⟨T.heap.size, rfl, cls, ce, locs, hx U hWs.alike f1 (fun q hq => f2 q hq (fun z hz => nomatch hz)), hce, hO.vm, hcl, hWs, hall, hf⟩⟩
  refine st1 _ ?_
  show Steps p.tables e below (T1.setTop { method := m, pc := pc + 3, locals := ls, stack := .ref T.heap.size :: rest, locked := none }) _
  jvm_step X₁.here [X₁.here.top, hexec, d3', Value.category]
  exact X₁.ldcString hexec (own := own) (text := text) (index := is) (a := sa) hown' hstr'.1 hstr'.2
    (g := { method := m, pc := pc + 4, locals := ls, stack := .ref T.heap.size :: .ref T.heap.size :: rest, locked := none }) rfl d4' _ hsteps
/-- 'throw new E("text")', the text by a wide index -/
theorem vx_throwSW {cc : ByteArray} {pc : Nat} (hexec : p.tables.exec = Jvm.exec) (hb : c.code = cc) (hl : l.stackTraces = false) {own cls text : String} {names : List String} {ik is ic mc ms sa : Nat} {A : Nat → Prop}
    (hown : s.vm.findClass own = some m.cls) (hcls : Bundle.fit cls = true) (hnames : ∀ n ∈ names, Bundle.fit n = true)
    (hk : (Cond.classLink own ik cls).before args s = true) (hini : (Cond.initialized cls).before args s = true) (hstr : vk_R own is text sa s) (hat : ∀ w ∈ vx_atS own ic cls names, w.before args s = true)
    (hgood : ∀ w ∈ Cond.classLink own ik cls :: Cond.initialized cls :: vx_atS own ic cls names, vx_ot w = true)
    (hU : vx_Zq Bundle.tN "UNASSIGNED_STACK" Bundle.steD A s s.heap) (hN : vx_Zq Bundle.tN "SUPPRESSED_SENTINEL" Bundle.listD A s s.heap) (hS : va_S A s.heap H locs) (hsize : ls.size = c.maxLocals)
    (d0 : decode cc pc = .ok (.new ik, 3)) (d3 : decode cc (pc + 3) = .ok (.dup, 1)) (d4 : decode cc (pc + 4) = .ok (.ldc_w is, 3)) (d7 : decode cc (pc + 7) = .ok (.invokespecial ic, 3)) (d10 : decode cc (pc + 10) = .ok (.athrow, 1))
    (hout : ∀ x ∈ c.exceptionTable.toList, covers x (pc + 10) = false)
    (hRframes : names.length + 3 < R.frames) (hRlocals : (rest.map fun v => v.category).sum + (13 * (names.length + 1) + 43) ≤ R.locals) (hRcells : cells + 1 ≤ R.cells) (hRslots : slots + 6 ≤ R.slots) (hlocks : meth.locks = false)
    (hx : ∀ t : State, s.vm.Alike t.vm → H.size ≤ t.heap.size → (∀ q : Nat, q < H.size → t.heap[q]? = H[q]?) → XC cls s t)
    (hf : ∀ z ∈ locs, free z.base) (hc : cells + 1 ≤ mc) (hs : slots + 6 ≤ ms) :
    W p l e R s m args below meth c H locs cells slots (vx_MQ below Qc XC args s mc ms free) (F0 m pc ls rest) := by
  intro T hT X
  have htr : e.platform.stackTraces = false := (show e.platform.stackTraces = l.stackTraces by rw [X.admits.platform]).trans hl
  have Y := vx_rebase X (R' := { frames := R.frames, locals := R.locals, cells := 1, slots := 6 }) (Nat.le_refl _) (Nat.le_refl _) hRcells hRslots
  obtain ⟨s', hA⟩ : ∃ z, z = (T.setVm s.vm).setFrames (.invoking m args :: below) := ⟨_, rfl⟩
  rw [← hA] at Y
  have hvm : s'.vm = s.vm := by rw [hA]; rfl
  have hhp : s'.heap = H := by rw [hA]; exact hT
  have hW0 : s.WarmedH s'.vm := by rw [hvm]; exact State.WarmedH.refl s
  have hat' : ∀ w ∈ vx_atS own ic cls names, w.before args s' = true := fun w hw => vx_ot_at hW0 hvm.symm (hgood w (List.mem_cons_of_mem _ (List.mem_cons_of_mem _ hw))) (hat w hw)
  have hk' : (Cond.classLink own ik cls).before args s' = true := vx_ot_at hW0 hvm.symm (hgood _ List.mem_cons_self) hk
  have hini' : (Cond.initialized cls).before args s' = true := vx_ot_at hW0 hvm.symm (hgood _ (List.mem_cons_of_mem _ List.mem_cons_self)) hini
  have hU' : vx_Zq Bundle.tN "UNASSIGNED_STACK" Bundle.steD A s' s'.heap := by rw [hhp]; exact vx_Zq.moved hW0.alike (hU.kept hS.2.1)
  have hN' : vx_Zq Bundle.tN "SUPPRESSED_SENTINEL" Bundle.listD A s' s'.heap := by rw [hhp]; exact vx_Zq.moved hW0.alike (hN.kept hS.2.1)
  have h : ∀ w ∈ Bundle.ownAtoms own ic cls names, w.before args s' = true := vx_own hat' (vx_isRefq hU'.1) (vx_isRefq hN'.1) hU'.2.word hN'.2.word
  have hown' : s'.vm.findClass own = some m.cls := by rw [hvm]; exact hown
  have hins : (Cond.instantiable cls 6).before args s' = true := h _ (by simp [Bundle.ownAtoms])
  obtain ⟨vm₁, cX, kX, hfX, hkX, -, -, X₁, st1⟩ := Y.newCold hexec (own := own) (C := cls) (index := ik) (n := 6) hown' hk' hins hini'
    (g := F0 m pc ls rest) rfl (by rw [hb]; exact d0) (Nat.le_refl _) (Nat.le_refl _)
  generalize hT1 : (T.setVm vm₁).pushCell { cls := cX, slots := kX.instanceTypes.map defaultValue, vm := .none } = T1 at X₁ st1
  have hcat : (Value.ref T.heap.size).category = 1 := rfl
  have hcellA : T1.heap[T.heap.size]? = some (freshCell cX kX) := by rw [← hT1]; exact State.heap_pushCell_size _ _
  have d3' : decode c.code (pc + 3) = .ok (.dup, 1) := by rw [hb]; exact d3
  have d4' : decode c.code (pc + 4) = .ok (.ldc_w is, 3) := by rw [hb]; exact d4
  have hstr' : vk_R own is text sa s' := vk_R.warm hW0 hstr
  obtain ⟨U, hsteps, hrun, hend, hW, hsame, ce, hce, hO⟩ := X₁.ctorThrowS hexec htr (own := own) (cls := cls) (names := names) (ic := ic) hown' hcls hnames h (fun x hx => nomatch hx) hfX hkX hcellA (by rw [hhp, hT]; exact Nat.le_refl _) (msg := .ref sa) rfl
    (g := { method := m, pc := pc + 7, locals := ls, stack := .ref sa :: .ref T.heap.size :: .ref T.heap.size :: rest, locked := none }) rfl hsize rfl rfl (rest := rest) rfl
    (by rw [hb]; exact d7) (by rw [hb]; exact d10) hout hRframes (by simp only [List.map_cons, List.sum_cons, hcat]; omega) hlocks
  obtain ⟨f1, f2⟩ := vx_frame hsame
  rw [hhp] at f1 f2
  have hWs : s.WarmedH U.vm := State.WarmedH.trans hW0 hW
  have hcl : s.vm.findClass cls = some ce.cls := by
    have h9 := hO.cls
    rw [hvm] at h9
    exact h9
  have hall : s.sameButNew ({ U with vm := s.vm } : State) locs mc ms := by
    subst hA
    obtain ⟨e1, e2⟩ := hsame
    rw [State.setFrames_setFrames] at e1
    have h2 : (T.setVm s.vm).sameButNew ({ U with vm := s.vm } : State) [] (0 + 1) (0 + 6) := ⟨e1, e2⟩
    have h3 := X.same.trans h2
    rw [List.append_nil] at h3
    exact h3.mono hc hs
  refine ⟨U, ?_, .threw T.heap.size, hrun, hend, Or.inr ⟨T.heap.size, rfl, cls, ce, locs, hx U hWs.alike f1 (fun q hq => f2 q hq (fun z hz => nomatch hz)), hce, hO.vm, hcl, hWs, hall, hf⟩⟩
  refine st1 _ ?_
  show Steps p.tables e below (T1.setTop { method := m, pc := pc + 3, locals := ls, stack := .ref T.heap.size :: rest, locked := none }) _
  jvm_step X₁.here [X₁.here.top, hexec, d3', Value.category]
  exact X₁.ldcStringW hexec (own := own) (text := text) (index := is) (a := sa) hown' hstr'.1 hstr'.2
    (g := { method := m, pc := pc + 4, locals := ls, stack := .ref T.heap.size :: .ref T.heap.size :: rest, locked := none }) rfl d4' _ hsteps
end Ends
section Bodies
variable {l : Launch}
theorem vx_ofW {y : MethodName} {ws ws' : List Cond} {rm : Room} {Pc : Array Value → State → Prop} {Qc : Array Value → State → Outcome → State → Prop} {XC : String → State → State → Prop} {mc ms : Nat} {free : Addr → Prop} {cc : ByteArray} {maxL : Nat} {ret : Option FieldType}
    (hy : plainName y.cls = true) (hw : ws = Cond.code y cc maxL ret :: ws')
    (body : ∀ p e s m args below meth c s₁, BodyLoose p l y (headSpec ws rm) cc maxL ret e s m args below meth c s₁ → c.maxLocals = maxL → (∀ x ∈ c.exceptionTable.toList, False) → Pc args s →
      W p l e (headSpec ws rm).room s m args below meth c s.heap [] 0 0 (vx_MQ below Qc XC args s mc ms free) (entryFrame m args maxL)) : vx_Met l y ws rm Pc Qc XC mc ms free := by
  refine MetFree.of_bodyS (code := cc) (maxLocals := maxL) (ret := ret) hy ?_ ?_
  · intro args s m h hn
    obtain ⟨meth, c, h1, h2, h3, h4, h5, h6, -, -⟩ := Cond.code_spec hn (atoms_spec (ws := ws) h _ (by rw [hw]; exact List.mem_cons_self))
    exact ⟨meth, c, h1, h2, h3, h4, h5, h6⟩
  · intro p e s m args below meth c s₁ B hml hP _
    have hh0 : s₁.heap = s.heap := by rw [B.state]; rfl
    have ht : ∀ x ∈ c.exceptionTable.toList, False := by
      obtain ⟨meth9, c9, h1, h2, -, -, -, -, h7, -⟩ := Cond.code_spec B.named (atoms_spec (ws := ws) B.pre _ (by rw [hw]; exact List.mem_cons_self))
      cases Option.some.inj (h1.symm.trans B.method)
      cases Option.some.inj (h2.symm.trans (Stand.of_body B).code)
      intro x hx
      rw [Array.isEmpty_iff.mp h7] at hx
      cases hx
    obtain ⟨t, a1, o, b1, b2, b3⟩ := body p e s m args below meth c s₁ B hml ht hP s₁ hh0 (Stand.of_body B)
    exact ⟨t, o, a1, b1, b2, b3⟩
/-- the table of a body with handlers -/
theorem vx_table {p : Program} {x y : MethodName} {S : Spec} {cc bytes : ByteArray} {maxL maxL' : Nat} {ret ret' : Option FieldType} {e : Env} {s s₁ : State} {m : MethodId} {args : Array Value} {below : List Frame} {meth : Method} {c : Code} {hh : List (Nat × Nat × Nat × Nat)}
    (B : BodyLoose p l y S cc maxL ret e s m args below meth c s₁) (h : (Cond.codeWith y bytes maxL' ret' hh).before args s = true) : c.exceptionTable.toList = tableOf hh := by
  obtain ⟨m9, meth9, c9, hn9, h1, h2, -, -, h6, -⟩ := Cond.codeWith_spec h
  cases Option.some.inj (hn9.symm.trans B.named)
  cases Option.some.inj (h1.symm.trans B.method)
  cases Option.some.inj (h2.symm.trans (Stand.of_body B).code)
  rw [← h6, table_eq]
end Bodies
end VXA
/-! ===== END ===== -/
/-! ===== BEGIN a static call of a method with an exception table ===== -/
section VXS
variable {p : Program} {l : Launch} {e : Env} {R : Room} {s : State} {m : MethodId} {args : Array Value} {below : List Frame} {meth : Method} {c : Code} {T : State} {H : Heap} {locs : List Loc} {cells slots : Nat}
abbrev vx_CSW (R : Room) (s : State) (args : Array Value) (own : String) (index : Nat) (y : MethodName) (bytes : ByteArray) (maxL : Nat) (ret : Option FieldType) (hh : List (Nat × Nat × Nat × Nat)) (ws : List Cond) (rm : Room) (mc ms n : Nat) : Prop :=
  (rm.cells = mc ∧ rm.slots = ms ∧ rm.frames + 1 ≤ R.frames ∧ 8 + (maxL + 11) + rm.locals ≤ R.locals ∧ (∀ w ∈ ws, ∀ (a' : Array Value) (U : State), s.WarmedH U.vm → w.before a' U = true) ∧ Cond.codeWith y bytes maxL ret hh ∈ ws) ∧
  (Cond.codeWith y bytes maxL ret hh).before args s = true ∧ (Cond.initialized y.cls).before args s = true ∧ (y.cls ≠ "java/lang/invoke/MethodHandle" ∧ y.cls ≠ "java/lang/invoke/VarHandle") ∧
  (∀ sig, parseMethodDescriptor y.desc = some sig → n = sig.parameters.length) ∧ (Cond.methodLink own index y).before args s = true ∧ (Cond.static y).before args s = true
theorem vx_cwSW {own : String} {index maxL mc ms : Nat} {y : MethodName} {bytes : ByteArray} {ret : Option FieldType} {hh : List (Nat × Nat × Nat × Nat)} {Ts ws ws' : List Cond} {rm : Room} (n : Nat) (ht : ∀ w ∈ Ts, w.before args s = true) (hT : GoodIn Ts (va_wsS own index y ws)) (hw : ws = Cond.codeWith y bytes maxL ret hh :: ws') (hrc : rm.cells = mc) (hrs : rm.slots = ms)
    (hd : y.cls ≠ "java/lang/invoke/MethodHandle" ∧ y.cls ≠ "java/lang/invoke/VarHandle" ∧ (parseMethodDescriptor y.desc).map (fun d => d.parameters.length) = some n) (hR : rm.frames + 1 ≤ R.frames ∧ 8 + (maxL + 11) + rm.locals ≤ R.locals) :
    vx_CSW R s args own index y bytes maxL ret hh ws rm mc ms n := by
  have ok : ∀ w ∈ va_wsS own index y ws, w.before args s = true := fun w h => ht w (hT w h).1
  have hG : GoodIn Ts ws := fun w h => hT w (by unfold va_wsS; exact List.mem_append_right _ h)
  have hc : Cond.codeWith y bytes maxL ret hh ∈ ws := by rw [hw]; exact List.mem_cons_self
  refine ⟨⟨hrc, hrs, hR.1, hR.2, pay_in ht hG, hc⟩, ht _ (hG _ hc).1, ok _ (by simp [va_wsS]), ⟨hd.1, hd.2.1⟩, fun sig h => ?_, ok _ (by simp [va_wsS]), ok _ (by simp [va_wsS])⟩
  have h2 := hd.2.2
  rw [h] at h2
  exact (Option.some.inj h2).symm
theorem vx_callSW (X : Stand p l e R s m args below meth c T locs cells slots) (hexec : p.tables.exec = Jvm.exec) {own : String} {index : Nat} {y : MethodName} {bytes : ByteArray} {maxL : Nat} {ret : Option FieldType} {hh : List (Nat × Nat × Nat × Nat)}
    (hown : s.vm.findClass own = some m.cls) (hlink : (Cond.methodLink own index y).before args s = true) (hstat : (Cond.static y).before args s = true) (hinit : (Cond.initialized y.cls).before args s = true)
    (hcode : (Cond.codeWith y bytes maxL ret hh).before args s = true) (hy : y.cls ≠ "java/lang/invoke/MethodHandle" ∧ y.cls ≠ "java/lang/invoke/VarHandle")
    {W9 : Nat} {Pre : Pt → Array Value → Prop} {Post : Pt → Array Value → Option Value → Pt → Prop} (hK : Back l R p e below s args y 3 W9 Pre Post)
    {g : JFrame} (hg : g.method = m) (hsize : g.locals.size = c.maxLocals) {argsL rest : List Value} (hlen : ∀ sig, parseMethodDescriptor y.desc = some sig → argsL.length = sig.parameters.length)
    (hstack : g.stack = argsL.reverse ++ rest) (hW : 2 * g.monitorRoom + (rest.map fun v => v.category).sum ≤ W9) (hdg : decode c.code g.pc = .ok (.invokestatic index, 3))
    (hpre : ∀ vm₁, s.WarmedH vm₁ → Pre ⟨T.setVm vm₁, locs, cells, slots⟩ argsL.toArray) :
    ∃ (v : Option Value) (vm₁ : Vm) (B : Pt), s.WarmedH vm₁ ∧ Stand p l e R s m args below meth c B.U B.locs B.cells B.slots ∧ Post ⟨T.setVm vm₁, locs, cells, slots⟩ argsL.toArray v B ∧
      ∀ target, Steps p.tables e below (B.U.setTop { g with pc := g.pc + 3, stack := v.toList ++ rest }) target → Steps p.tables e below (T.setTop g) target := by
  obtain ⟨mk, methM, cM, hnamed, hmethM, -, -, -, -, -, -, hsigM⟩ := Cond.codeWith_spec hcode
  have hstatic : methM.isStatic = true := Cond.static_spec hnamed hmethM hstat
  obtain ⟨kP, hkP, -⟩ := className_of_methodNamed hnamed
  have hinitP : kP.init = .initialized := Cond.initialized_spec (findClass_of_methodNamed hnamed) hkP hinit
  obtain ⟨vm₁, X₁, hstep₁⟩ := X.invokestatic hexec hown hlink hnamed hmethM hstatic hkP hinitP hy (g := g) hg (argsL := argsL) (rest := rest) (hlen _ hsigM) hstack hdg
  obtain ⟨v, B, X', hpost, hsteps⟩ := hK m meth c ⟨T.setVm vm₁, locs, cells, slots⟩ { g with stack := rest } (.invokestatic index) mk argsL.toArray X₁ hg hsize hdg hW (X₁.named hnamed) (hpre vm₁ X₁.warmed)
  exact ⟨v, vm₁, B, X₁.warmed, X', hpost, fun target h => hstep₁ _ fun acts => by rw [doInvoke_state]; exact hsteps.trans h⟩
theorem vx_runSW {y : MethodName} {bytes cc : ByteArray} {maxL nL mc ms n index : Nat} {ret : Option FieldType} {hh : List (Nat × Nat × Nat × Nat)} {ws : List Cond} {rm : Room} {Pc : Array Value → State → Prop} {Qc : Array Value → State → Outcome → State → Prop} {free : Addr → Prop} {Ts : List Cond} {own : String} {As rest : List Value} {g : JFrame}
    (S : CallFix p m c cc nL s args Ts own) (hM : Met l y ws rm Pc Qc mc ms free) (cw : vx_CSW R s args own index y bytes maxL ret hh ws rm mc ms n) (hp : PreS s H Pc As)
    (hg : g.method = m) (hn : As.length = n) (hsize : g.locals.size = nL) (hstack : g.stack = As.reverse ++ rest) (hW : 2 * g.monitorRoom + (rest.map fun v => v.category).sum ≤ 8) (hdg : decode cc g.pc = .ok (.invokestatic index, 3)) (hf : cells + mc ≤ R.cells ∧ slots + ms ≤ R.slots) :
    va_Run p l e R s m args below meth c H locs cells slots mc ms g rest (Qc As.toArray) (free) := by
  obtain ⟨⟨hrc, hrs, hfr, hlo, hws, hcw⟩, hcode, hini, hy, hlen, hl, hstt⟩ := cw
  have hK : Back l R p e below s args y 3 8 (PreOf R mc ms Pc) (PostOf Qc mc ms free) := va_backW (hh := hh) (bytes := bytes) (maxL := maxL) (ret := ret) hM hp.1 hrc hrs hfr hlo hws hcw (fun a' U hW => word_at hW (Or.inl (by first | rfl | simp [Cond.onTables, Cond.keeps, Cond.steady])) hini)
  obtain ⟨hx, hb, hml, ho, -⟩ := S
  intro T hT X
  obtain ⟨v, vm₁, ⟨U', l2, c2, s2⟩, hW₁, X', ⟨g', mk, t, L, e1, e2, hq, h1, hL, h2, h3⟩, st⟩ := vx_callSW X hx (hh := hh) (bytes := bytes) (maxL := maxL) (ret := ret) ho hl hstt hini hcode hy hK hg (hsize.trans hml.symm) (argsL := As) (rest := rest) (fun sig h => hn.trans (hlen sig h)) hstack hW (by rw [hb]; exact hdg)
    (fun vm₁ hW₁ => ⟨hf.1, hf.2, hp.2 (T.setVm vm₁) hT hW₁⟩)
  dsimp only [Pt.U, Pt.locs, Pt.cells, Pt.slots] at X' e1 e2 h1 h2 h3 st
  subst h1; subst h2; subst h3
  exact ⟨v, (T.setVm vm₁).calling g' mk As.toArray, t, U', L, hT, X', hL, e1, e2, hq, st⟩
/-- not caught here, past rows that name other classes: it goes on to the caller -/
theorem vx_outP {p : Program} {l : Launch} {e : Env} {R : Room} {s : State} {m : MethodId} {args : Array Value} {below : List Frame} {meth : Method} {c : Code} {H : Heap} {locs : List Loc} {cells slots : Nat} {free : Addr → Prop} {ls : Array Slot} {rest : List Value} {Qc : Array Value → State → Outcome → State → Prop} {XC : String → State → State → Prop}
    {pc : Nat} {own E : String} {ce : Cell} {q : Addr} {mc ms : Nat} (hown : s.vm.findClass own = some m.cls) (hlocks : meth.locks = false)
    (hpass : ∀ z ∈ c.exceptionTable.toList, covers z pc = false ∨ (z.catchType ≠ 0 ∧ ∃ nm : String, (Cond.classLink own z.catchType nm).before args s = true ∧ va_Nc E nm s)) (hcell : H[q]? = some ce) (hv : ce.vm = .none) (hcl : s.vm.findClass E = some ce.cls)
    (hx : ∀ t : State, t.heap = H → s.vm.Alike t.vm → XC E s t) (hf : ∀ z ∈ locs, free z.base) (hc : cells ≤ mc) (hs : slots ≤ ms) :
    vx_W p l e R s m args below meth c H locs cells slots (vx_MQ below Qc XC args s mc ms free) (F0 m pc ls rest) q := by
  intro T hT X
  have hpl : e.platform.magicAccessors = ({} : Platform).magicAccessors := by rw [X.admits.platform]
  obtain ⟨vm', hW', X', st⟩ := X.outThrough hlocks q (g := F0 m pc ls rest) rfl rfl rfl (cell := ce) (by rw [hT]; exact hcell) (by rw [hv]; rfl)
    (by obtain ⟨k9, h9, -⟩ := Vm.findClass_spec hcl; exact ⟨k9, h9⟩) (fun z hz => by
      rcases hpass z hz with h | ⟨hz0, nm, hl1, hn1⟩
      · exact Or.inl h
      · obtain ⟨c6, hc6, hcl6⟩ := Cond.classLink_spec hown hl1 e.platform hpl
        obtain ⟨a8, b8, h1, h2, h3⟩ := hn1
        cases Option.some.inj (h1.symm.trans hcl)
        cases Option.some.inj (h2.symm.trans hc6)
        exact Or.inr ⟨hz0, _, hcl6, h3⟩)
  obtain ⟨g₀, hfr⟩ := X'.frames_eq
  have hcell9 : ((T.setVm vm').setFrames (.throwing q :: below)).heap[q]? = some ce := by
    show T.heap[q]? = some ce
    rw [hT]; exact hcell
  have hend : Ended ((T.setVm vm').setFrames (.throwing q :: below)) below (.threw q) := State.frames_setFrames _ (State.cur_lt_of_frames hfr)
  refine ⟨(T.setVm vm').setFrames (.throwing q :: below), ?_, .threw q, X'.here.running, hend, Or.inr ⟨q, rfl, E, ce, locs, hx _ hT (X'.ends _).1.alike, hcell9, hv, hcl, (X'.ends _).1, (X'.ends _).2.mono hc hs, hf⟩⟩
  rw [X.pushThrowing_eq]
  exact st
/-- a thing of a world lies in the heap -/
theorem vx_lt {D : va_G} {cl : List vw_C} {ws : va_W} {H1 : Heap} (h : va_P D cl ws H1) {k : Nat} {q : Nat × va_E} (hk : ws[k]? = some q) : q.1 < H1.size := (h k q hk).lt
end VXS
/-! ===== END ===== -/
/-! ===== BEGIN methods with a table of their own: called by a name, returning or throwing ===== -/
section VXH
/-! vx_backW, vx_callVX, vx_callSX, vx_callVW, vx_runVW, vx_runVX, vx_runSX, vx_ofWH follow the same proofs as their sisters above (Free/Laws.lean, Shelf42/LK1.lean); vx_outP calls Shelf42/NT130.lean (outThrough). -/
section
variable {l : Launch} {R : Room} {p : Program} {e : Env} {below : List Frame} {s : State} {sargs : Array Value} {y : MethodName} {len W9 : Nat}
theorem vx_backW {ws : List Cond} {rm : Room} {Pc : Array Value → State → Prop} {Qc : Array Value → State → Outcome → State → Prop} {XC : String → State → State → Prop} {mc ms : Nat} {free : Addr → Prop} {bytes : ByteArray} {maxL : Nat} {ret : Option FieldType} {hh : List (Nat × Nat × Nat × Nat)}
    (hM : vx_Met l y ws rm Pc Qc XC mc ms free) (hblind : FrameBlind Pc) (hrc : rm.cells = mc) (hrs : rm.slots = ms)
    (hframes : rm.frames + 1 ≤ R.frames) (hlocals : W9 + (maxL + 11) + rm.locals ≤ R.locals)
    (hws : ∀ w ∈ ws, ∀ a' U, s.WarmedH U.vm → w.before a' U = true) (hcode : Cond.codeWith y bytes maxL ret hh ∈ ws) (hinit : ∀ a' U, s.WarmedH U.vm → (Cond.initialized y.cls).before a' U = true) :
    vx_Back l R p e below s sargs y len W9 (PreOf R mc ms Pc) (PostOf Qc mc ms free) (vx_Post XC mc ms free) := by
  intro m meth c A g ig mk a X hg hsize hdg hW hn hp
  have h1 : (headSpec ws rm).pre.before a A.U = true := atoms_intro fun w hw => hws w hw _ _ X.warmed
  have h2 : (Cond.codeWith y bytes maxL ret hh).before a A.U = true := hws _ hcode _ _ X.warmed
  have h3 : (Cond.initialized y.cls).before a A.U = true := hinit _ _ X.warmed
  have h4 : A.cells + (headSpec ws rm).room.cells ≤ R.cells := by rw [show (headSpec ws rm).room.cells = mc from hrc]; exact hp.1
  have h5 : A.slots + (headSpec ws rm).room.slots ≤ R.slots := by rw [show (headSpec ws rm).room.slots = ms from hrs]; exact hp.2.1
  have hPc : Pc a (A.U.calling g mk a) := hblind _ _ _ _ hp.2.2
  obtain ⟨U, Ls, c0, s0⟩ := A
  dsimp only [Pt.U, Pt.locs, Pt.cells, Pt.slots] at h1 h2 h3 h4 h5 X hn hPc ⊢
  obtain ⟨m9, methY, cY, hn9, hmY, hcY, -, hlY, -⟩ := Cond.codeWith_spec h2
  cases Option.some.inj (hn9.symm.trans hn)
  obtain ⟨kY, hkY, -⟩ := className_of_methodNamed hn
  have hinitY : kY.init = .initialized := Cond.initialized_spec (findClass_of_methodNamed hn) hkY h3
  have h : At U g.method c below := by rw [hg]; exact X.here
  have hlocals9 : W9 + (maxL + 11) + (headSpec ws rm).room.locals ≤ R.locals := hlocals
  have happ : (headSpec ws rm).appliesLoose y e.platform (U.calling g mk a) = true :=
    Spec.appliesLoose_calling (g := g) h hdg hn hkY hinitY
      (X.room_calling (g := g) (R' := (headSpec ws rm).room) hsize hmY hcY hframes (by rw [hlY]; omega) h4 h5) h1
  obtain ⟨mid, hmid⟩ := h.above
  have hfr : (U.setTop g).frames = (.java g :: mid) ++ below := by rw [State.frames_setTop' g h.top, hmid]; rfl
  obtain ⟨o, s₂, hsteps, -, hend, hq⟩ := Steps.callFree hM p X.admits X.cas X.clock (acts := []) hfr happ hPc trivial
  have hq' : vx_Q Qc XC mc ms free a (U.calling g mk a) o s₂ := hq
  rw [State.frames_setTop' g h.top] at hend
  obtain ⟨g₀, hg0⟩ := Option.isSome_iff_exists.mp h.top
  obtain ⟨r, hr⟩ := State.topJava?_eq_some.mp hg0
  have hr' : (({ U with heap := s₂.heap, slotsUsed := s₂.slotsUsed } : State).setVm s₂.vm).frames = .java g₀ :: r := hr
  rcases hq' with ⟨hqc, L, hfe, hL⟩ | ⟨q, rfl, E, ce, L, hx, hce, hcv, hcl, hW₂, hsm, hL⟩
  · obtain ⟨⟨v, rfl⟩, hW₂, e2, q2, q3, q4, q5, q6⟩ := id hfe
    have e3 : s₂ = ({ (U.calling g mk a).setFrames s₂.frames with heap := s₂.heap, slotsUsed := s₂.slotsUsed } : State).setVm s₂.vm := by
      have : s₂ = ({ s₂ with vm := (U.calling g mk a).vm } : State).setVm s₂.vm := rfl
      rw [e2] at this
      exact this
    obtain ⟨c₂, i₂, len₂, hc₂, hd₂, hf₂⟩ := hend
    have hW' : U.WarmedH s₂.vm := hW₂
    have hcc : c₂ = c := by
      have h1 : s₂.code? g.method = U.code? g.method := by
        rw [State.code?_eq, State.code?_eq, hW'.alike.method?]
      exact Option.some.inj (hc₂.symm.trans (h1.trans h.code))
    subst hcc
    have hlen : len₂ = len := by rw [hdg] at hd₂; cases hd₂; rfl
    subst hlen
    have hs₂ : s₂ = (({ U with heap := s₂.heap, slotsUsed := s₂.slotsUsed } : State).setVm s₂.vm).setTop { g with pc := g.pc + len₂, stack := v.toList ++ g.stack } := by
      refine e3.trans ?_
      rw [hf₂, State.calling_eq h.top, State.setFrames_setFrames, State.setTop_of_frames _ hr', hr]
      rfl
    have hsame : U.sameButNew ({ U with heap := s₂.heap, slotsUsed := s₂.slotsUsed } : State) L mc ms := by
      refine ⟨?_, q2, q3, q4, q5, q6⟩
      obtain ⟨t, ht, -⟩ := State.frames_cons hr
      show ({ U with heap := s₂.heap, slotsUsed := s₂.slotsUsed } : State) = { U.setFrames U.frames with heap := s₂.heap, slotsUsed := s₂.slotsUsed }
      rw [State.setFrames_self ht]
    subst hg
    refine Or.inl ⟨v, ⟨(({ U with heap := s₂.heap, slotsUsed := s₂.slotsUsed } : State).setVm s₂.vm), Ls ++ L, c0 + mc, s0 + ms⟩,
      ⟨X.admits, X.cas, X.clock, X.frames, X.room, X.hears, X.method, X.code, (X.here.setHeapUsed s₂.heap s₂.slotsUsed).setVm hW'.alike, X.tail, State.WarmedH.trans X.warmed hW', X.limits, X.bytes, X.same.trans (hsame.setVm s.vm)⟩,
      ⟨g, mk, s₂, L, rfl, rfl, hqc, rfl, hL, rfl, rfl⟩, ?_⟩
    show Steps p.tables e below _ ((({ U with heap := s₂.heap, slotsUsed := s₂.slotsUsed } : State).setVm s₂.vm).setTop { g with pc := g.pc + len₂, stack := v.toList ++ g.stack })
    rw [← hs₂]
    exact hsteps
  · obtain ⟨e2, q2, q3, q4, q5, q6⟩ := id hsm
    have e3 : s₂ = ({ (U.calling g mk a).setFrames s₂.frames with heap := s₂.heap, slotsUsed := s₂.slotsUsed } : State).setVm s₂.vm := by
      have : s₂ = ({ s₂ with vm := (U.calling g mk a).vm } : State).setVm s₂.vm := rfl
      rw [e2] at this
      exact this
    have hf₂ : s₂.frames = .throwing q :: .java g :: U.frames.tail := hend
    have hW' : U.WarmedH s₂.vm := hW₂
    have hs₂ : s₂ = ((({ U with heap := s₂.heap, slotsUsed := s₂.slotsUsed } : State).setVm s₂.vm).setTop g).pushFrame (.throwing q) := by
      refine e3.trans ?_
      rw [hf₂, State.calling_eq h.top, State.setFrames_setFrames, State.pushFrame, State.frames_setTop _ hr', State.setTop_of_frames _ hr', State.setFrames_setFrames, hr]
      rfl
    have hsame : U.sameButNew ({ U with heap := s₂.heap, slotsUsed := s₂.slotsUsed } : State) L mc ms := by
      refine ⟨?_, q2, q3, q4, q5, q6⟩
      obtain ⟨t, ht, -⟩ := State.frames_cons hr
      show ({ U with heap := s₂.heap, slotsUsed := s₂.slotsUsed } : State) = { U.setFrames U.frames with heap := s₂.heap, slotsUsed := s₂.slotsUsed }
      rw [State.setFrames_self ht]
    subst hg
    refine Or.inr ⟨q, ⟨(({ U with heap := s₂.heap, slotsUsed := s₂.slotsUsed } : State).setVm s₂.vm), Ls ++ L, c0 + mc, s0 + ms⟩,
      ⟨X.admits, X.cas, X.clock, X.frames, X.room, X.hears, X.method, X.code, (X.here.setHeapUsed s₂.heap s₂.slotsUsed).setVm hW'.alike, X.tail, State.WarmedH.trans X.warmed hW', X.limits, X.bytes, X.same.trans (hsame.setVm s.vm)⟩,
      ⟨g, mk, s₂, L, E, ce, rfl, rfl, hx, hce, hcv, hcl, rfl, hL, rfl, rfl⟩, ?_⟩
    show Steps p.tables e below _ (((({ U with heap := s₂.heap, slotsUsed := s₂.slotsUsed } : State).setVm s₂.vm).setTop g).pushFrame (.throwing q))
    rw [← hs₂]
    exact hsteps
end
variable {p : Program} {l : Launch} {e : Env} {R : Room} {s : State} {m : MethodId} {args : Array Value} {below : List Frame} {meth : Method} {c : Code} {T : State} {H : Heap} {locs : List Loc} {cells slots : Nat}
theorem vx_callVX (X : Stand p l e R s m args below meth c T locs cells slots) (hexec : p.tables.exec = Jvm.exec) {own C : String} {index : Nat} {y : MethodName} {bytes : ByteArray} {maxL : Nat} {ret : Option FieldType} {hh : List (Nat × Nat × Nat × Nat)}
    (hown : s.vm.findClass own = some m.cls) (hlink : (Cond.methodLink own index y).before args s = true) (hinst : (Cond.instanceMethod y).before args s = true) (hsel : (Cond.selects C y y).before args s = true)
    (hcode : (Cond.codeWith y bytes maxL ret hh).before args s = true) (hy : y.cls ≠ "java/lang/invoke/MethodHandle" ∧ y.cls ≠ "java/lang/invoke/VarHandle")
    {W9 : Nat} {Pre : Pt → Array Value → Prop} {Post : Pt → Array Value → Option Value → Pt → Prop} {PostX : Pt → Array Value → Addr → Pt → Prop} (hK : vx_Back l R p e below s args y 3 W9 Pre Post PostX)
    {b : Addr} {cellB : Cell} (hcell : T.heap[b]? = some cellB) (hobj : cellB.vm.isStatics = false) (hcls : s.vm.findClass C = some cellB.cls)
    {g : JFrame} (hg : g.method = m) (hsize : g.locals.size = c.maxLocals) {argsL rest : List Value} (hlen : ∀ sig, parseMethodDescriptor y.desc = some sig → argsL.length = sig.parameters.length)
    (hstack : g.stack = argsL.reverse ++ .ref b :: rest) (hW : 2 * g.monitorRoom + (rest.map fun v => v.category).sum ≤ W9) (hdg : decode c.code g.pc = .ok (.invokevirtual index, 3))
    (hpre : ∀ vm₁, s.WarmedH vm₁ → Pre ⟨T.setVm vm₁, locs, cells, slots⟩ (Value.ref b :: argsL).toArray) :
    (∃ (v : Option Value) (vm₁ : Vm) (B : Pt), s.WarmedH vm₁ ∧ Stand p l e R s m args below meth c B.U B.locs B.cells B.slots ∧ Post ⟨T.setVm vm₁, locs, cells, slots⟩ (Value.ref b :: argsL).toArray v B ∧
      ∀ target, Steps p.tables e below (B.U.setTop { g with pc := g.pc + 3, stack := v.toList ++ rest }) target → Steps p.tables e below (T.setTop g) target) ∨
    (∃ (q : Addr) (vm₁ : Vm) (B : Pt), s.WarmedH vm₁ ∧ Stand p l e R s m args below meth c B.U B.locs B.cells B.slots ∧ PostX ⟨T.setVm vm₁, locs, cells, slots⟩ (Value.ref b :: argsL).toArray q B ∧
      Steps p.tables e below (T.setTop g) ((B.U.setTop { g with stack := rest }).pushFrame (.throwing q))) := by
  obtain ⟨mk, methM, hnamed, hmethM, hstM, habM⟩ := Cond.instanceMethod_spec hinst
  obtain ⟨m8, methM', cM, hn8, hmethM', -, -, -, -, -, -, hsigM⟩ := Cond.codeWith_spec hcode
  cases Option.some.inj (hn8.symm.trans hnamed)
  cases hmethM.symm.trans hmethM'
  obtain ⟨c2, r2, m2, q1, q2, q3, q4, kP, hkP, hkPi⟩ := Cond.selects_spec hsel
  cases hcls.symm.trans q1
  cases (State.methodFound?_of_named hnamed hy).symm.trans q2
  cases hnamed.symm.trans q3
  have hselP : selectMethod e.platform s.vm cellB.cls mk = .method mk := by rw [Launch.admits_selectMethod X.admits]; exact q4
  obtain ⟨vm₁, X₁, hstep₁⟩ := X.invokevirtual hexec hown hlink hnamed hmethM hstM hkP hkPi hy (a := b) (cell := cellB) hcell
    (fun z h => by rw [h] at hobj; cases hobj) hselP hmethM habM hkP hkPi (g := g) hg (argsL := argsL) (rest := rest) (hlen _ hsigM) hstack hdg
  rcases hK m meth c ⟨T.setVm vm₁, locs, cells, slots⟩ { g with stack := rest } (.invokevirtual index) mk (Value.ref b :: argsL).toArray X₁ hg hsize hdg hW (X₁.named hnamed) (hpre vm₁ X₁.warmed) with ⟨v, B, X', hpost, hsteps⟩ | ⟨q, B, X', hpost, hsteps⟩
  · exact Or.inl ⟨v, vm₁, B, X₁.warmed, X', hpost, fun target h => hstep₁ _ fun acts => by rw [doInvoke_state]; exact hsteps.trans h⟩
  · exact Or.inr ⟨q, vm₁, B, X₁.warmed, X', hpost, hstep₁ _ fun acts => by rw [doInvoke_state]; exact hsteps⟩
theorem vx_callSX (X : Stand p l e R s m args below meth c T locs cells slots) (hexec : p.tables.exec = Jvm.exec) {own : String} {index : Nat} {y : MethodName} {bytes : ByteArray} {maxL : Nat} {ret : Option FieldType} {hh : List (Nat × Nat × Nat × Nat)}
    (hown : s.vm.findClass own = some m.cls) (hlink : (Cond.methodLink own index y).before args s = true) (hstat : (Cond.static y).before args s = true) (hinit : (Cond.initialized y.cls).before args s = true)
    (hcode : (Cond.codeWith y bytes maxL ret hh).before args s = true) (hy : y.cls ≠ "java/lang/invoke/MethodHandle" ∧ y.cls ≠ "java/lang/invoke/VarHandle")
    {W9 : Nat} {Pre : Pt → Array Value → Prop} {Post : Pt → Array Value → Option Value → Pt → Prop} {PostX : Pt → Array Value → Addr → Pt → Prop} (hK : vx_Back l R p e below s args y 3 W9 Pre Post PostX)
    {g : JFrame} (hg : g.method = m) (hsize : g.locals.size = c.maxLocals) {argsL rest : List Value} (hlen : ∀ sig, parseMethodDescriptor y.desc = some sig → argsL.length = sig.parameters.length)
    (hstack : g.stack = argsL.reverse ++ rest) (hW : 2 * g.monitorRoom + (rest.map fun v => v.category).sum ≤ W9) (hdg : decode c.code g.pc = .ok (.invokestatic index, 3))
    (hpre : ∀ vm₁, s.WarmedH vm₁ → Pre ⟨T.setVm vm₁, locs, cells, slots⟩ argsL.toArray) :
    (∃ (v : Option Value) (vm₁ : Vm) (B : Pt), s.WarmedH vm₁ ∧ Stand p l e R s m args below meth c B.U B.locs B.cells B.slots ∧ Post ⟨T.setVm vm₁, locs, cells, slots⟩ argsL.toArray v B ∧
      ∀ target, Steps p.tables e below (B.U.setTop { g with pc := g.pc + 3, stack := v.toList ++ rest }) target → Steps p.tables e below (T.setTop g) target) ∨
    (∃ (q : Addr) (vm₁ : Vm) (B : Pt), s.WarmedH vm₁ ∧ Stand p l e R s m args below meth c B.U B.locs B.cells B.slots ∧ PostX ⟨T.setVm vm₁, locs, cells, slots⟩ argsL.toArray q B ∧
      Steps p.tables e below (T.setTop g) ((B.U.setTop { g with stack := rest }).pushFrame (.throwing q))) := by
  obtain ⟨mk, methM, cM, hnamed, hmethM, -, -, -, -, -, -, hsigM⟩ := Cond.codeWith_spec hcode
  have hstatic : methM.isStatic = true := Cond.static_spec hnamed hmethM hstat
  obtain ⟨kP, hkP, -⟩ := className_of_methodNamed hnamed
  have hinitP : kP.init = .initialized := Cond.initialized_spec (findClass_of_methodNamed hnamed) hkP hinit
  obtain ⟨vm₁, X₁, hstep₁⟩ := X.invokestatic hexec hown hlink hnamed hmethM hstatic hkP hinitP hy (g := g) hg (argsL := argsL) (rest := rest) (hlen _ hsigM) hstack hdg
  rcases hK m meth c ⟨T.setVm vm₁, locs, cells, slots⟩ { g with stack := rest } (.invokestatic index) mk argsL.toArray X₁ hg hsize hdg hW (X₁.named hnamed) (hpre vm₁ X₁.warmed) with ⟨v, B, X', hpost, hsteps⟩ | ⟨q, B, X', hpost, hsteps⟩
  · exact Or.inl ⟨v, vm₁, B, X₁.warmed, X', hpost, fun target h => hstep₁ _ fun acts => by rw [doInvoke_state]; exact hsteps.trans h⟩
  · exact Or.inr ⟨q, vm₁, B, X₁.warmed, X', hpost, hstep₁ _ fun acts => by rw [doInvoke_state]; exact hsteps⟩
theorem vx_callVW (X : Stand p l e R s m args below meth c T locs cells slots) (hexec : p.tables.exec = Jvm.exec) {own C : String} {index : Nat} {y : MethodName} {bytes : ByteArray} {maxL : Nat} {ret : Option FieldType} {hh : List (Nat × Nat × Nat × Nat)}
    (hown : s.vm.findClass own = some m.cls) (hlink : (Cond.methodLink own index y).before args s = true) (hinst : (Cond.instanceMethod y).before args s = true) (hsel : (Cond.selects C y y).before args s = true)
    (hcode : (Cond.codeWith y bytes maxL ret hh).before args s = true) (hy : y.cls ≠ "java/lang/invoke/MethodHandle" ∧ y.cls ≠ "java/lang/invoke/VarHandle")
    {W9 : Nat} {Pre : Pt → Array Value → Prop} {Post : Pt → Array Value → Option Value → Pt → Prop} (hK : Back l R p e below s args y 3 W9 Pre Post)
    {b : Addr} {cellB : Cell} (hcell : T.heap[b]? = some cellB) (hobj : cellB.vm.isStatics = false) (hcls : s.vm.findClass C = some cellB.cls)
    {g : JFrame} (hg : g.method = m) (hsize : g.locals.size = c.maxLocals) {argsL rest : List Value} (hlen : ∀ sig, parseMethodDescriptor y.desc = some sig → argsL.length = sig.parameters.length)
    (hstack : g.stack = argsL.reverse ++ .ref b :: rest) (hW : 2 * g.monitorRoom + (rest.map fun v => v.category).sum ≤ W9) (hdg : decode c.code g.pc = .ok (.invokevirtual index, 3))
    (hpre : ∀ vm₁, s.WarmedH vm₁ → Pre ⟨T.setVm vm₁, locs, cells, slots⟩ (Value.ref b :: argsL).toArray) :
    ∃ (v : Option Value) (vm₁ : Vm) (B : Pt), s.WarmedH vm₁ ∧ Stand p l e R s m args below meth c B.U B.locs B.cells B.slots ∧ Post ⟨T.setVm vm₁, locs, cells, slots⟩ (Value.ref b :: argsL).toArray v B ∧
      ∀ target, Steps p.tables e below (B.U.setTop { g with pc := g.pc + 3, stack := v.toList ++ rest }) target → Steps p.tables e below (T.setTop g) target := by
  obtain ⟨mk, methM, hnamed, hmethM, hstM, habM⟩ := Cond.instanceMethod_spec hinst
  obtain ⟨m8, methM', cM, hn8, hmethM', -, -, -, -, -, -, hsigM⟩ := Cond.codeWith_spec hcode
  cases Option.some.inj (hn8.symm.trans hnamed)
  cases hmethM.symm.trans hmethM'
  obtain ⟨c2, r2, m2, q1, q2, q3, q4, kP, hkP, hkPi⟩ := Cond.selects_spec hsel
  cases hcls.symm.trans q1
  cases (State.methodFound?_of_named hnamed hy).symm.trans q2
  cases hnamed.symm.trans q3
  have hselP : selectMethod e.platform s.vm cellB.cls mk = .method mk := by rw [Launch.admits_selectMethod X.admits]; exact q4
  obtain ⟨vm₁, X₁, hstep₁⟩ := X.invokevirtual hexec hown hlink hnamed hmethM hstM hkP hkPi hy (a := b) (cell := cellB) hcell
    (fun z h => by rw [h] at hobj; cases hobj) hselP hmethM habM hkP hkPi (g := g) hg (argsL := argsL) (rest := rest) (hlen _ hsigM) hstack hdg
  obtain ⟨v, B, X', hpost, hsteps⟩ := hK m meth c ⟨T.setVm vm₁, locs, cells, slots⟩ { g with stack := rest } (.invokevirtual index) mk (Value.ref b :: argsL).toArray X₁ hg hsize hdg hW (X₁.named hnamed) (hpre vm₁ X₁.warmed)
  exact ⟨v, vm₁, B, X₁.warmed, X', hpost, fun target h => hstep₁ _ fun acts => by rw [doInvoke_state]; exact hsteps.trans h⟩
abbrev vx_CVW (R : Room) (s : State) (args : Array Value) (own C : String) (index : Nat) (y : MethodName) (bytes : ByteArray) (maxL : Nat) (ret : Option FieldType) (hh : List (Nat × Nat × Nat × Nat)) (ws : List Cond) (rm : Room) (mc ms n : Nat) : Prop :=
  (rm.cells = mc ∧ rm.slots = ms ∧ rm.frames + 1 ≤ R.frames ∧ 8 + (maxL + 11) + rm.locals ≤ R.locals ∧ (∀ w ∈ ws, ∀ (a' : Array Value) (U : State), s.WarmedH U.vm → w.before a' U = true) ∧ Cond.codeWith y bytes maxL ret hh ∈ ws) ∧
  (Cond.codeWith y bytes maxL ret hh).before args s = true ∧ (Cond.initialized y.cls).before args s = true ∧ (y.cls ≠ "java/lang/invoke/MethodHandle" ∧ y.cls ≠ "java/lang/invoke/VarHandle") ∧
  (∀ sig, parseMethodDescriptor y.desc = some sig → n = sig.parameters.length) ∧ (Cond.methodLink own index y).before args s = true ∧ (Cond.instanceMethod y).before args s = true ∧ (Cond.selects C y y).before args s = true
theorem vx_cwVW {own C : String} {index maxL mc ms : Nat} {y : MethodName} {bytes : ByteArray} {ret : Option FieldType} {hh : List (Nat × Nat × Nat × Nat)} {Ts ws ws' : List Cond} {rm : Room} (n : Nat) (ht : ∀ w ∈ Ts, w.before args s = true) (hT : GoodIn Ts (wsV own index C y ws)) (hw : ws = Cond.codeWith y bytes maxL ret hh :: ws') (hrc : rm.cells = mc) (hrs : rm.slots = ms)
    (hd : y.cls = C ∧ y.cls ≠ "java/lang/invoke/MethodHandle" ∧ y.cls ≠ "java/lang/invoke/VarHandle" ∧ (parseMethodDescriptor y.desc).map (fun d => d.parameters.length) = some n) (hR : rm.frames + 1 ≤ R.frames ∧ 8 + (maxL + 11) + rm.locals ≤ R.locals) :
    vx_CVW R s args own C index y bytes maxL ret hh ws rm mc ms n := by
  obtain ⟨hC, hd⟩ := hd
  subst hC
  have ok : ∀ w ∈ wsV own index y.cls y ws, w.before args s = true := fun w h => ht w (hT w h).1
  have hG : GoodIn Ts ws := fun w h => hT w (by unfold wsV; exact List.mem_append_right _ h)
  have hc : Cond.codeWith y bytes maxL ret hh ∈ ws := by rw [hw]; exact List.mem_cons_self
  refine ⟨⟨hrc, hrs, hR.1, hR.2, pay_in ht hG, hc⟩, ht _ (hG _ hc).1, ok _ (by simp [wsV]), ⟨hd.1, hd.2.1⟩, fun sig h => ?_, ok _ (by simp [wsV]), ok _ (by simp [wsV]), ok _ (by simp [wsV])⟩
  have h2 := hd.2.2
  rw [h] at h2
  exact (Option.some.inj h2).symm
theorem vx_runVW {y : MethodName} {bytes cc : ByteArray} {maxL nL mc ms n index : Nat} {ret : Option FieldType} {hh : List (Nat × Nat × Nat × Nat)} {ws : List Cond} {rm : Room} {Pc : Array Value → State → Prop} {Qc : Array Value → State → Outcome → State → Prop} {free : Addr → Prop} {Ts : List Cond} {own C : String} {b : Addr} {As rest : List Value} {g : JFrame}
    (S : CallFix p m c cc nL s args Ts own) (hM : Met l y ws rm Pc Qc mc ms free) (cw : vx_CVW R s args own C index y bytes maxL ret hh ws rm mc ms n) (hp : PreV s H C b Pc As)
    (hg : g.method = m) (hn : As.length = n) (hsize : g.locals.size = nL) (hstack : g.stack = As.reverse ++ .ref b :: rest) (hW : 2 * g.monitorRoom + (rest.map fun v => v.category).sum ≤ 8) (hdg : decode cc g.pc = .ok (.invokevirtual index, 3)) (hf : cells + mc ≤ R.cells ∧ slots + ms ≤ R.slots) :
    va_Run p l e R s m args below meth c H locs cells slots mc ms g rest (Qc (Value.ref b :: As).toArray) free := by
  obtain ⟨⟨hrc, hrs, hfr, hlo, hws, hcw⟩, hcode, hini, hy, hlen, hl, hin, hse⟩ := cw
  have hK : Back l R p e below s args y 3 8 (PreOf R mc ms Pc) (PostOf Qc mc ms free) := va_backW (hh := hh) (bytes := bytes) (maxL := maxL) (ret := ret) hM hp.1 hrc hrs hfr hlo hws hcw (fun a' U hW => word_at hW (Or.inl (by first | rfl | simp [Cond.onTables, Cond.keeps, Cond.steady])) hini)
  obtain ⟨hx, hb, hml, ho, -⟩ := S
  obtain ⟨-, ⟨cellB, hcB, hoB, hclB⟩, hPc⟩ := hp
  intro T hT X
  obtain ⟨v, vm₁, ⟨U', l2, c2, s2⟩, hW₁, X', ⟨g', mk, t, L, e1, e2, hq, h1, hL, h2, h3⟩, st⟩ := vx_callVW X hx (C := C) (hh := hh) (bytes := bytes) (maxL := maxL) (ret := ret) ho hl hin hse hcode hy hK (by rw [hT]; exact hcB) hoB hclB hg (hsize.trans hml.symm) (argsL := As) (rest := rest) (fun sig h => hn.trans (hlen sig h)) hstack hW (by rw [hb]; exact hdg)
    (fun vm₁ hW₁ => ⟨hf.1, hf.2, hPc (T.setVm vm₁) hT hW₁⟩)
  dsimp only [Pt.U, Pt.locs, Pt.cells, Pt.slots] at X' e1 e2 h1 h2 h3 st
  subst h1; subst h2; subst h3
  exact ⟨v, (T.setVm vm₁).calling g' mk (Value.ref b :: As).toArray, t, U', L, hT, X', hL, e1, e2, hq, st⟩
section
variable {y : MethodName} {bytes cc : ByteArray} {maxL nL mc ms n index : Nat} {ret : Option FieldType} {ws : List Cond} {rm : Room} {Pc : Array Value → State → Prop} {Qc : Array Value → State → Outcome → State → Prop} {XC : String → State → State → Prop} {free : Addr → Prop} {Ts : List Cond} {own C : String} {b : Addr} {As rest : List Value} {g : JFrame}
theorem vx_runVX {hh : List (Nat × Nat × Nat × Nat)} (S : CallFix p m c cc nL s args Ts own) (hM : vx_Met l y ws rm Pc Qc XC mc ms free) (cw : vx_CVW R s args own C index y bytes maxL ret hh ws rm mc ms n) (hp : PreV s H C b Pc As)
    (hg : g.method = m) (hn : As.length = n) (hsize : g.locals.size = nL) (hstack : g.stack = As.reverse ++ .ref b :: rest) (hW : 2 * g.monitorRoom + (rest.map fun v => v.category).sum ≤ 8) (hdg : decode cc g.pc = .ok (.invokevirtual index, 3)) (hf : cells + mc ≤ R.cells ∧ slots + ms ≤ R.slots) :
    vx_Run p l e R s m args below meth c H locs cells slots mc ms g rest (Qc (Value.ref b :: As).toArray) XC free := by
  obtain ⟨⟨hrc, hrs, hfr, hlo, hws, hcw⟩, hcode, hini, hy, hlen, hl, hin, hse⟩ := cw
  have hK : vx_Back l R p e below s args y 3 8 (PreOf R mc ms Pc) (PostOf Qc mc ms free) (vx_Post XC mc ms free) := vx_backW (hh := hh) (bytes := bytes) (maxL := maxL) (ret := ret) hM hp.1 hrc hrs hfr hlo hws hcw (fun a' U hW => word_at hW (Or.inl (by first | rfl | simp [Cond.onTables, Cond.keeps, Cond.steady])) hini)
  obtain ⟨hx, hb, hml, ho, -⟩ := S
  obtain ⟨-, ⟨cellB, hcB, hoB, hclB⟩, hPc⟩ := hp
  intro T hT X
  rcases vx_callVX X hx (C := C) (hh := hh) (bytes := bytes) (maxL := maxL) (ret := ret) ho hl hin hse hcode hy hK (by rw [hT]; exact hcB) hoB hclB hg (hsize.trans hml.symm) (argsL := As) (rest := rest) (fun sig h => hn.trans (hlen sig h)) hstack hW (by rw [hb]; exact hdg)
    (fun vm₁ hW₁ => ⟨hf.1, hf.2, hPc (T.setVm vm₁) hT hW₁⟩) with ⟨v, vm₁, ⟨U', l2, c2, s2⟩, hW₁, X', ⟨g', mk, t, L, e1, e2, hq, h1, hL, h2, h3⟩, st⟩ | ⟨q, vm₁, ⟨U', l2, c2, s2⟩, hW₁, X', ⟨g', mk, t, L, E, ce, e1, e2, hq, hce, hcv, hcl, h1, hL, h2, h3⟩, st⟩
  · dsimp only [Pt.U, Pt.locs, Pt.cells, Pt.slots] at X' e1 e2 h1 h2 h3 st
    subst h1; subst h2; subst h3
    exact Or.inl ⟨v, (T.setVm vm₁).calling g' mk (Value.ref b :: As).toArray, t, U', L, hT, X', hL, e1, e2, hq, st⟩
  · dsimp only [Pt.U, Pt.locs, Pt.cells, Pt.slots] at X' e1 e2 h1 h2 h3 st hcl
    subst h1; subst h2; subst h3
    exact Or.inr ⟨q, (T.setVm vm₁).calling g' mk (Value.ref b :: As).toArray, t, U', L, E, ce, hT, X', hL, e1, e2, hq, hce, hcv, vx_cls hW₁ hcl, st⟩
theorem vx_runSX {hh : List (Nat × Nat × Nat × Nat)} (S : CallFix p m c cc nL s args Ts own) (hM : vx_Met l y ws rm Pc Qc XC mc ms free) (cw : vx_CSW R s args own index y bytes maxL ret hh ws rm mc ms n) (hp : PreS s H Pc As)
    (hg : g.method = m) (hn : As.length = n) (hsize : g.locals.size = nL) (hstack : g.stack = As.reverse ++ rest) (hW : 2 * g.monitorRoom + (rest.map fun v => v.category).sum ≤ 8) (hdg : decode cc g.pc = .ok (.invokestatic index, 3)) (hf : cells + mc ≤ R.cells ∧ slots + ms ≤ R.slots) :
    vx_Run p l e R s m args below meth c H locs cells slots mc ms g rest (Qc As.toArray) XC free := by
  obtain ⟨⟨hrc, hrs, hfr, hlo, hws, hcw⟩, hcode, hini, hy, hlen, hl, hstt⟩ := cw
  have hK : vx_Back l R p e below s args y 3 8 (PreOf R mc ms Pc) (PostOf Qc mc ms free) (vx_Post XC mc ms free) := vx_backW (hh := hh) (bytes := bytes) (maxL := maxL) (ret := ret) hM hp.1 hrc hrs hfr hlo hws hcw (fun a' U hW => word_at hW (Or.inl (by first | rfl | simp [Cond.onTables, Cond.keeps, Cond.steady])) hini)
  obtain ⟨hx, hb, hml, ho, -⟩ := S
  intro T hT X
  rcases vx_callSX X hx (hh := hh) (bytes := bytes) (maxL := maxL) (ret := ret) ho hl hstt hini hcode hy hK hg (hsize.trans hml.symm) (argsL := As) (rest := rest) (fun sig h => hn.trans (hlen sig h)) hstack hW (by rw [hb]; exact hdg)
    (fun vm₁ hW₁ => ⟨hf.1, hf.2, hp.2 (T.setVm vm₁) hT hW₁⟩) with ⟨v, vm₁, ⟨U', l2, c2, s2⟩, hW₁, X', ⟨g', mk, t, L, e1, e2, hq, h1, hL, h2, h3⟩, st⟩ | ⟨q, vm₁, ⟨U', l2, c2, s2⟩, hW₁, X', ⟨g', mk, t, L, E, ce, e1, e2, hq, hce, hcv, hcl, h1, hL, h2, h3⟩, st⟩
  · dsimp only [Pt.U, Pt.locs, Pt.cells, Pt.slots] at X' e1 e2 h1 h2 h3 st
    subst h1; subst h2; subst h3
    exact Or.inl ⟨v, (T.setVm vm₁).calling g' mk As.toArray, t, U', L, hT, X', hL, e1, e2, hq, st⟩
  · dsimp only [Pt.U, Pt.locs, Pt.cells, Pt.slots] at X' e1 e2 h1 h2 h3 st hcl
    subst h1; subst h2; subst h3
    exact Or.inr ⟨q, (T.setVm vm₁).calling g' mk As.toArray, t, U', L, E, ce, hT, X', hL, e1, e2, hq, hce, hcv, vx_cls hW₁ hcl, st⟩
end
end VXH
theorem vx_ofWH {l : Launch} {y : MethodName} {ws ws' : List Cond} {rm : Room} {Pc : Array Value → State → Prop} {Qc : Array Value → State → Outcome → State → Prop} {XC : String → State → State → Prop} {mc ms : Nat} {free : Addr → Prop} {cc : ByteArray} {maxL : Nat} {ret : Option FieldType} {hh : List (Nat × Nat × Nat × Nat)}
    (hy : plainName y.cls = true) (hw : ws = Cond.codeWith y cc maxL ret hh :: ws')
    (body : ∀ p e s m args below meth c s₁, BodyLoose p l y (headSpec ws rm) cc maxL ret e s m args below meth c s₁ → c.maxLocals = maxL → Pc args s →
      W p l e (headSpec ws rm).room s m args below meth c s.heap [] 0 0 (vx_MQ below Qc XC args s mc ms free) (entryFrame m args maxL)) : vx_Met l y ws rm Pc Qc XC mc ms free := by
  refine MetFree.of_bodyS (code := cc) (maxLocals := maxL) (ret := ret) hy ?_ ?_
  · intro args s m h hn
    obtain ⟨m9, meth, c, hn9, h1, h2, h3, h4, -, h5, h6, -⟩ := Cond.codeWith_spec (atoms_spec (ws := ws) h _ (by rw [hw]; exact List.mem_cons_self))
    cases hn.symm.trans hn9
    exact ⟨meth, c, h1, h2, h3, h4, h5, h6⟩
  · intro p e s m args below meth c s₁ B hml hP _
    have hh0 : s₁.heap = s.heap := by rw [B.state]; rfl
    obtain ⟨t, a1, o, b1, b2, b3⟩ := body p e s m args below meth c s₁ B hml hP s₁ hh0 (Stand.of_body B)
    exact ⟨t, o, a1, b1, b2, b3⟩
/-! ===== END ===== -/
end
section
/-! ===== BEGIN printed: names, fields, word lists, decode rows ===== -/
def RX0 : String := "RentRiver$Cheapest"
def TX0 : u_T := fun k => match k with
  | 0 => ("RentRiver$Cheapest", "plan", "[I", true)
  | 1 => ("RentRiver$Cheapest", "done", "Z", false)
  | 2 => ("RentRiver$Cheapest", "planned", "I", false)
  | 3 => ("RentRiver$Cheapest", "solved", "I", false)
  | 4 => ("RentRiver$Cheapest", "answer", "I", false)
  | 5 => ("RentRiver$Cheapest", "towns", "I", false)
  | 6 => ("RentRiver$Cheapest", "move", "I", false)
  | 7 => ("RentRiver$Cheapest", "bridges", "[I", true)
  | 8 => ("RentRiver$Cheapest", "lacks", "[I", true)
  | 9 => ("RentRiver$Cheapest", "gains", "[[I", true)
  | 10 => ("RentRiver$Cheapest", "rest", "[[I", true)
  | 11 => ("RentRiver$Cheapest", "restBest", "[I", true)
  | 12 => ("RentRiver$Cheapest", "tailGains", "[[I", true)
  | 13 => ("RentRiver$Cheapest", "tailCosts", "[I", true)
  | 14 => ("RentRiver$Cheapest", "tailTowns", "[I", true)
  | 15 => ("RentRiver$Cheapest", "tails", "I", false)
  | 16 => ("RentRiver$Cheapest", "path", "[I", true)
  | 17 => ("RentRiver$Cheapest", "best", "[I", true)
  | _ => ("RentRiver$Cheapest", "bestPaid", "I", false)
def tyX0 : Nat → FieldType := fun k => match k with
  | 0 => .array .int
  | 1 => .boolean
  | 2 => .int
  | 3 => .int
  | 4 => .int
  | 5 => .int
  | 6 => .int
  | 7 => .array .int
  | 8 => .array .int
  | 9 => .array (.array .int)
  | 10 => .array (.array .int)
  | 11 => .array .int
  | 12 => .array (.array .int)
  | 13 => .array .int
  | 14 => .array .int
  | 15 => .int
  | 16 => .array .int
  | 17 => .array .int
  | _ => .int
abbrev wsX00 : List Cond := u_ws RX0 TX0 19
theorem nmX0 : ∀ a, a < 19 → ∀ b, b < 19 → a ≠ b → (TX0 a).2.1 ≠ (TX0 b).2.1 := by decide +kernel
theorem tyX0_ok : ∀ k, k < 19 → parseFieldDescriptor (TX0 k).2.2.1 = some (tyX0 k) := by decide +kernel
abbrev cX0_init : ByteArray := prog_2_method_1_code
def yX0_init : MethodName := ⟨RX0, "<init>", "()V"⟩
abbrev cX0_solve : ByteArray := prog_2_method_2_code
def yX0_solve : MethodName := ⟨RX0, "solve", "(LRentRiver$Plain;)I"⟩
abbrev cX0_searchPlan : ByteArray := prog_2_method_3_code
def yX0_searchPlan : MethodName := ⟨RX0, "searchPlan", "(LRentRiver$Plain;)I"⟩
abbrev cX0_prepare : ByteArray := prog_2_method_4_code
def yX0_prepare : MethodName := ⟨RX0, "prepare", "(LRentRiver$Plain;)V"⟩
abbrev cX0_listTails : ByteArray := prog_2_method_5_code
def yX0_listTails : MethodName := ⟨RX0, "listTails", "()V"⟩
abbrev cX0_putAhead : ByteArray := prog_2_method_6_code
def yX0_putAhead : MethodName := ⟨RX0, "putAhead", "(IIII)V"⟩
abbrev cX0_tryMonth : ByteArray := prog_2_method_7_code
def yX0_tryMonth : MethodName := ⟨RX0, "tryMonth", "(III)V"⟩
abbrev cX0_lacksAny : ByteArray := prog_2_method_8_code
def yX0_lacksAny : MethodName := ⟨RX0, "lacksAny", "()Z"⟩
abbrev cX0_canBe : ByteArray := prog_2_method_9_code
def yX0_canBe : MethodName := ⟨RX0, "canBe", "(I)Z"⟩
abbrev cX0_costOf : ByteArray := prog_2_method_10_code
def yX0_costOf : MethodName := ⟨RX0, "costOf", "(II)I"⟩
abbrev cX0_leastToCome : ByteArray := prog_2_method_11_code
def yX0_leastToCome : MethodName := ⟨RX0, "leastToCome", "(I)I"⟩
abbrev cX0_keepPath : ByteArray := prog_2_method_12_code
def yX0_keepPath : MethodName := ⟨RX0, "keepPath", "(II)V"⟩
abbrev cX0_stayFrom : ByteArray := prog_2_method_13_code
def yX0_stayFrom : MethodName := ⟨RX0, "stayFrom", "(II)V"⟩
abbrev cX0_firstForNothing : ByteArray := prog_2_method_14_code
def yX0_firstForNothing : MethodName := ⟨RX0, "firstForNothing", "(I)I"⟩
abbrev cX0_tryTails : ByteArray := prog_2_method_15_code
def yX0_tryTails : MethodName := ⟨RX0, "tryTails", "(II)V"⟩
abbrev cX0_meetsNeeds : ByteArray := prog_2_method_16_code
def yX0_meetsNeeds : MethodName := ⟨RX0, "meetsNeeds", "(I)Z"⟩
abbrev cX0_keepTail : ByteArray := prog_2_method_17_code
def yX0_keepTail : MethodName := ⟨RX0, "keepTail", "(I)V"⟩
def RX1 : String := "RentRiver$Contracts"
def TX1 : u_T := fun k => match k with
  | 0 => ("RentRiver$Contracts", "first", "[I", true)
  | 1 => ("RentRiver$Contracts", "second", "[I", true)
  | 2 => ("RentRiver$Contracts", "cost", "[I", true)
  | _ => ("RentRiver$Contracts", "rows", "I", false)
def tyX1 : Nat → FieldType := fun k => match k with
  | 0 => .array .int
  | 1 => .array .int
  | 2 => .array .int
  | _ => .int
abbrev wsX10 : List Cond := u_ws RX1 TX1 4
theorem nmX1 : ∀ a, a < 4 → ∀ b, b < 4 → a ≠ b → (TX1 a).2.1 ≠ (TX1 b).2.1 := by decide +kernel
theorem tyX1_ok : ∀ k, k < 4 → parseFieldDescriptor (TX1 k).2.2.1 = some (tyX1 k) := by decide +kernel
abbrev cX1_init : ByteArray := prog_3_method_1_code
def yX1_init : MethodName := ⟨RX1, "<init>", "()V"⟩
abbrev cX1_clear : ByteArray := prog_3_method_2_code
def yX1_clear : MethodName := ⟨RX1, "clear", "()V"⟩
abbrev cX1_copy : ByteArray := prog_3_method_3_code
def yX1_copy : MethodName := ⟨RX1, "copy", "(LRentRiver$Contracts;)V"⟩
abbrev cX1_tells : ByteArray := prog_3_method_4_code
def yX1_tells : MethodName := ⟨RX1, "tells", "(I)Z"⟩
abbrev cX1_tell : ByteArray := prog_3_method_5_code
def yX1_tell : MethodName := ⟨RX1, "tell", "(IIII)V"⟩
abbrev cX1_readRows : ByteArray := prog_3_method_6_code
def yX1_readRows : MethodName := ⟨RX1, "readRows", "(LRentRiver$Tape;LRentRiver$Plain;)V"⟩
abbrev cX1_readRow : ByteArray := prog_3_method_7_code
def yX1_readRow : MethodName := ⟨RX1, "readRow", "(LRentRiver$Tape;LRentRiver$Plain;)Z"⟩
abbrev cX1_readLet : ByteArray := prog_3_method_8_code
def yX1_readLet : MethodName := ⟨RX1, "readLet", "(LRentRiver$Tape;LRentRiver$Plain;I)Z"⟩
def RX2 : String := "RentRiver$Leaks"
def TX2 : u_T := fun k => match k with
  | 0 => ("RentRiver$Leaks", "found", "[[I", true)
  | 1 => ("RentRiver$Leaks", "kept", "I", false)
  | 2 => ("RentRiver$Leaks", "all", "I", false)
  | 3 => ("RentRiver$Leaks", "levelsTold", "[Z", true)
  | 4 => ("RentRiver$Leaks", "levels", "[[I", true)
  | 5 => ("RentRiver$Leaks", "last", "I", false)
  | 6 => ("RentRiver$Leaks", "tight", "LRentRiver$Year;", true)
  | _ => ("RentRiver$Leaks", "leaking", "LRentRiver$Year;", true)
def tyX2 : Nat → FieldType := fun k => match k with
  | 0 => .array (.array .int)
  | 1 => .int
  | 2 => .int
  | 3 => .array .boolean
  | 4 => .array (.array .int)
  | 5 => .int
  | 6 => .object "RentRiver$Year"
  | _ => .object "RentRiver$Year"
abbrev wsX20 : List Cond := u_ws RX2 TX2 8
theorem nmX2 : ∀ a, a < 8 → ∀ b, b < 8 → a ≠ b → (TX2 a).2.1 ≠ (TX2 b).2.1 := by decide +kernel
theorem tyX2_ok : ∀ k, k < 8 → parseFieldDescriptor (TX2 k).2.2.1 = some (tyX2 k) := by decide +kernel
abbrev cX2_init : ByteArray := prog_4_method_1_code
def yX2_init : MethodName := ⟨RX2, "<init>", "()V"⟩
abbrev cX2_readLevels : ByteArray := prog_4_method_2_code
def yX2_readLevels : MethodName := ⟨RX2, "readLevels", "(LRentRiver$Tape;I)Z"⟩
abbrev cX2_run : ByteArray := prog_4_method_3_code
def yX2_run : MethodName := ⟨RX2, "run", "(LRentRiver$Plain;LRentRiver$Contracts;)I"⟩
abbrev cX2_comesBy : ByteArray := prog_4_method_4_code
def yX2_comesBy : MethodName := ⟨RX2, "comesBy", "(LRentRiver$Plain;LRentRiver$Contracts;II)Z"⟩
abbrev cX2_asTold : ByteArray := prog_4_method_5_code
def yX2_asTold : MethodName := ⟨RX2, "asTold", "(LRentRiver$Year;I)Z"⟩
abbrev cX2_keep : ByteArray := prog_4_method_6_code
def yX2_keep : MethodName := ⟨RX2, "keep", "(III)V"⟩
def RX3 : String := "RentRiver$Plain"
def TX3 : u_T := fun k => match k with
  | 0 => ("RentRiver$Plain", "names", "[J", true)
  | 1 => ("RentRiver$Plain", "told", "[[I", true)
  | 2 => ("RentRiver$Plain", "bids", "[[I", true)
  | 3 => ("RentRiver$Plain", "water", "[I", true)
  | 4 => ("RentRiver$Plain", "towns", "I", false)
  | 5 => ("RentRiver$Plain", "bidCount", "I", false)
  | 6 => ("RentRiver$Plain", "move", "I", false)
  | 7 => ("RentRiver$Plain", "fish", "I", false)
  | 8 => ("RentRiver$Plain", "patience", "I", false)
  | 9 => ("RentRiver$Plain", "serial", "I", false)
  | 10 => ("RentRiver$Plain", "toldOf", "[I", true)
  | 11 => ("RentRiver$Plain", "toldWater", "I", false)
  | 12 => ("RentRiver$Plain", "toldMove", "Z", false)
  | 13 => ("RentRiver$Plain", "toldFish", "Z", false)
  | _ => ("RentRiver$Plain", "toldPatience", "Z", false)
def tyX3 : Nat → FieldType := fun k => match k with
  | 0 => .array .long
  | 1 => .array (.array .int)
  | 2 => .array (.array .int)
  | 3 => .array .int
  | 4 => .int
  | 5 => .int
  | 6 => .int
  | 7 => .int
  | 8 => .int
  | 9 => .int
  | 10 => .array .int
  | 11 => .int
  | 12 => .boolean
  | 13 => .boolean
  | _ => .boolean
abbrev wsX30 : List Cond := u_ws RX3 TX3 15
theorem nmX3 : ∀ a, a < 15 → ∀ b, b < 15 → a ≠ b → (TX3 a).2.1 ≠ (TX3 b).2.1 := by decide +kernel
theorem tyX3_ok : ∀ k, k < 15 → parseFieldDescriptor (TX3 k).2.2.1 = some (tyX3 k) := by decide +kernel
abbrev cX3_init : ByteArray := prog_5_method_1_code
def yX3_init : MethodName := ⟨RX3, "<init>", "()V"⟩
abbrev cX3_clear : ByteArray := prog_5_method_2_code
def yX3_clear : MethodName := ⟨RX3, "clear", "()V"⟩
abbrev cX3_copy : ByteArray := prog_5_method_3_code
def yX3_copy : MethodName := ⟨RX3, "copy", "(LRentRiver$Plain;)V"⟩
abbrev cX3_setBid : ByteArray := prog_5_method_4_code
def yX3_setBid : MethodName := ⟨RX3, "setBid", "(III)V"⟩
abbrev cX3_gain : ByteArray := prog_5_method_5_code
def yX3_gain : MethodName := ⟨RX3, "gain", "(II)I"⟩
abbrev cX3_placeOf : ByteArray := prog_5_method_6_code
def yX3_placeOf : MethodName := ⟨RX3, "placeOf", "(I)I"⟩
abbrev cX3_readRows : ByteArray := prog_5_method_7_code
def yX3_readRows : MethodName := ⟨RX3, "readRows", "(LRentRiver$Tape;)I"⟩
abbrev cX3_readRow : ByteArray := prog_5_method_8_code
def yX3_readRow : MethodName := ⟨RX3, "readRow", "(LRentRiver$Tape;)Z"⟩
abbrev cX3_readTown : ByteArray := prog_5_method_9_code
def yX3_readTown : MethodName := ⟨RX3, "readTown", "(LRentRiver$Tape;)Z"⟩
abbrev cX3_find : ByteArray := prog_5_method_10_code
def yX3_find : MethodName := ⟨RX3, "find", "(J)I"⟩
abbrev cX3_townHere : ByteArray := prog_5_method_11_code
def yX3_townHere : MethodName := ⟨RX3, "townHere", "(LRentRiver$Tape;)I"⟩
abbrev cX3_nextTown : ByteArray := prog_5_method_12_code
def yX3_nextTown : MethodName := ⟨RX3, "nextTown", "(LRentRiver$Tape;)I"⟩
abbrev cX3_readWater : ByteArray := prog_5_method_13_code
def yX3_readWater : MethodName := ⟨RX3, "readWater", "(LRentRiver$Tape;)Z"⟩
abbrev cX3_readBid : ByteArray := prog_5_method_14_code
def yX3_readBid : MethodName := ⟨RX3, "readBid", "(LRentRiver$Tape;)Z"⟩
abbrev cX3_readAboutTown : ByteArray := prog_5_method_15_code
def yX3_readAboutTown : MethodName := ⟨RX3, "readAboutTown", "(LRentRiver$Tape;LRentRiver$Word;)Z"⟩
abbrev cX3_readMove : ByteArray := prog_5_method_16_code
def yX3_readMove : MethodName := ⟨RX3, "readMove", "(LRentRiver$Tape;)Z"⟩
abbrev cX3_readFish : ByteArray := prog_5_method_17_code
def yX3_readFish : MethodName := ⟨RX3, "readFish", "(LRentRiver$Tape;)Z"⟩
abbrev cX3_readPatience : ByteArray := prog_5_method_18_code
def yX3_readPatience : MethodName := ⟨RX3, "readPatience", "(LRentRiver$Tape;)Z"⟩
def RX4 : String := "RentRiver$Rounds"
def TX4 : u_T := fun k => match k with
  | 0 => ("RentRiver$Rounds", "done", "Z", false)
  | 1 => ("RentRiver$Rounds", "monthOf", "[I", true)
  | 2 => ("RentRiver$Rounds", "prices", "[I", true)
  | _ => ("RentRiver$Rounds", "owner", "[I", true)
def tyX4 : Nat → FieldType := fun k => match k with
  | 0 => .boolean
  | 1 => .array .int
  | 2 => .array .int
  | _ => .array .int
abbrev wsX40 : List Cond := u_ws RX4 TX4 4
theorem nmX4 : ∀ a, a < 4 → ∀ b, b < 4 → a ≠ b → (TX4 a).2.1 ≠ (TX4 b).2.1 := by decide +kernel
theorem tyX4_ok : ∀ k, k < 4 → parseFieldDescriptor (TX4 k).2.2.1 = some (tyX4 k) := by decide +kernel
abbrev cX4_init : ByteArray := prog_6_method_1_code
def yX4_init : MethodName := ⟨RX4, "<init>", "()V"⟩
abbrev cX4_run : ByteArray := prog_6_method_2_code
def yX4_run : MethodName := ⟨RX4, "run", "(LRentRiver$Plain;I)I"⟩
abbrev cX4_clear : ByteArray := prog_6_method_3_code
def yX4_clear : MethodName := ⟨RX4, "clear", "()V"⟩
abbrev cX4_priceNow : ByteArray := prog_6_method_4_code
def yX4_priceNow : MethodName := ⟨RX4, "priceNow", "(II)I"⟩
abbrev cX4_takeBest : ByteArray := prog_6_method_5_code
def yX4_takeBest : MethodName := ⟨RX4, "takeBest", "(LRentRiver$Plain;II)Z"⟩
def RX5 : String := "RentRiver$Sentence"
def TX5 : u_T := fun k => match k with
  | 0 => ("RentRiver$Sentence", "steps", "[LRentRiver$Word;", true)
  | 1 => ("RentRiver$Sentence", "signs", "[I", true)
  | 2 => ("RentRiver$Sentence", "numbers", "[I", true)
  | 3 => ("RentRiver$Sentence", "stack", "[Z", true)
  | 4 => ("RentRiver$Sentence", "size", "I", false)
  | _ => ("RentRiver$Sentence", "ones", "I", false)
def tyX5 : Nat → FieldType := fun k => match k with
  | 0 => .array (.object "RentRiver$Word")
  | 1 => .array .int
  | 2 => .array .int
  | 3 => .array .boolean
  | 4 => .int
  | _ => .int
abbrev wsX50 : List Cond := u_ws RX5 TX5 6
theorem nmX5 : ∀ a, a < 6 → ∀ b, b < 6 → a ≠ b → (TX5 a).2.1 ≠ (TX5 b).2.1 := by decide +kernel
theorem tyX5_ok : ∀ k, k < 6 → parseFieldDescriptor (TX5 k).2.2.1 = some (tyX5 k) := by decide +kernel
abbrev cX5_init : ByteArray := prog_7_method_1_code
def yX5_init : MethodName := ⟨RX5, "<init>", "()V"⟩
abbrev cX5_clear : ByteArray := prog_7_method_2_code
def yX5_clear : MethodName := ⟨RX5, "clear", "()V"⟩
abbrev cX5_copy : ByteArray := prog_7_method_3_code
def yX5_copy : MethodName := ⟨RX5, "copy", "(LRentRiver$Sentence;)V"⟩
abbrev cX5_add : ByteArray := prog_7_method_4_code
def yX5_add : MethodName := ⟨RX5, "add", "(LRentRiver$Word;II)Z"⟩
abbrev cX5_readText : ByteArray := prog_7_method_5_code
def yX5_readText : MethodName := ⟨RX5, "readText", "(LRentRiver$Tape;)V"⟩
abbrev cX5_readCond : ByteArray := prog_7_method_6_code
def yX5_readCond : MethodName := ⟨RX5, "readCond", "(LRentRiver$Tape;I)Z"⟩
abbrev cX5_readAll : ByteArray := prog_7_method_7_code
def yX5_readAll : MethodName := ⟨RX5, "readAll", "(LRentRiver$Tape;I)Z"⟩
abbrev cX5_readOne : ByteArray := prog_7_method_8_code
def yX5_readOne : MethodName := ⟨RX5, "readOne", "(LRentRiver$Tape;I)Z"⟩
abbrev cX5_begins : ByteArray := prog_7_method_9_code
def yX5_begins : MethodName := ⟨RX5, "begins", "(LRentRiver$Word;)Z"⟩
abbrev cX5_readClosing : ByteArray := prog_7_method_10_code
def yX5_readClosing : MethodName := ⟨RX5, "readClosing", "(LRentRiver$Tape;)Z"⟩
abbrev cX5_readMeasure : ByteArray := prog_7_method_11_code
def yX5_readMeasure : MethodName := ⟨RX5, "readMeasure", "(LRentRiver$Tape;LRentRiver$Word;)Z"⟩
abbrev cX5_holds : ByteArray := prog_7_method_12_code
def yX5_holds : MethodName := ⟨RX5, "holds", "(LRentRiver$Plain;LRentRiver$Year;I)Z"⟩
abbrev cX5_holdsOne : ByteArray := prog_7_method_13_code
def yX5_holdsOne : MethodName := ⟨RX5, "holdsOne", "(LRentRiver$Plain;LRentRiver$Year;II)Z"⟩
def RX6 : String := "RentRiver$State"
def TX6 : u_T := fun k => match k with
  | 0 => ("RentRiver$State", "plain", "LRentRiver$Plain;", false)
  | 1 => ("RentRiver$State", "deals", "LRentRiver$Contracts;", false)
  | 2 => ("RentRiver$State", "sentence", "LRentRiver$Sentence;", false)
  | _ => ("RentRiver$State", "year", "LRentRiver$Year;", true)
def tyX6 : Nat → FieldType := fun k => match k with
  | 0 => .object "RentRiver$Plain"
  | 1 => .object "RentRiver$Contracts"
  | 2 => .object "RentRiver$Sentence"
  | _ => .object "RentRiver$Year"
abbrev wsX60 : List Cond := u_ws RX6 TX6 4
theorem nmX6 : ∀ a, a < 4 → ∀ b, b < 4 → a ≠ b → (TX6 a).2.1 ≠ (TX6 b).2.1 := by decide +kernel
theorem tyX6_ok : ∀ k, k < 4 → parseFieldDescriptor (TX6 k).2.2.1 = some (tyX6 k) := by decide +kernel
abbrev cX6_init : ByteArray := prog_8_method_1_code
def yX6_init : MethodName := ⟨RX6, "<init>", "()V"⟩
abbrev cX6_copy : ByteArray := prog_8_method_2_code
def yX6_copy : MethodName := ⟨RX6, "copy", "(LRentRiver$State;)V"⟩
def RX7 : String := "RentRiver$Tape"
def TX7 : u_T := fun k => match k with
  | 0 => ("RentRiver$Tape", "bytes", "[B", true)
  | 1 => ("RentRiver$Tape", "size", "I", false)
  | 2 => ("RentRiver$Tape", "fault", "I", false)
  | 3 => ("RentRiver$Tape", "faultAt", "I", false)
  | 4 => ("RentRiver$Tape", "kind", "I", false)
  | 5 => ("RentRiver$Tape", "start", "I", false)
  | 6 => ("RentRiver$Tape", "number", "I", false)
  | 7 => ("RentRiver$Tape", "sign", "I", false)
  | 8 => ("RentRiver$Tape", "code", "J", false)
  | 9 => ("RentRiver$Tape", "word", "LRentRiver$Word;", false)
  | 10 => ("RentRiver$Tape", "most", "I", false)
  | _ => ("RentRiver$Tape", "here", "I", false)
def tyX7 : Nat → FieldType := fun k => match k with
  | 0 => .array .byte
  | 1 => .int
  | 2 => .int
  | 3 => .int
  | 4 => .int
  | 5 => .int
  | 6 => .int
  | 7 => .int
  | 8 => .long
  | 9 => .object "RentRiver$Word"
  | 10 => .int
  | _ => .int
abbrev wsX70 : List Cond := u_ws RX7 TX7 12
theorem nmX7 : ∀ a, a < 12 → ∀ b, b < 12 → a ≠ b → (TX7 a).2.1 ≠ (TX7 b).2.1 := by decide +kernel
theorem tyX7_ok : ∀ k, k < 12 → parseFieldDescriptor (TX7 k).2.2.1 = some (tyX7 k) := by decide +kernel
abbrev cX7_init : ByteArray := prog_9_method_1_code
def yX7_init : MethodName := ⟨RX7, "<init>", "()V"⟩
abbrev cX7_hasRoom : ByteArray := prog_9_method_2_code
def yX7_hasRoom : MethodName := ⟨RX7, "hasRoom", "()Z"⟩
abbrev cX7_put : ByteArray := prog_9_method_3_code
def yX7_put : MethodName := ⟨RX7, "put", "(I)V"⟩
abbrev cX7_valueAt : ByteArray := prog_9_method_4_code
def yX7_valueAt : MethodName := ⟨RX7, "valueAt", "(I)I"⟩
abbrev cX7_open : ByteArray := prog_9_method_5_code
def yX7_open : MethodName := ⟨RX7, "open", "(I)V"⟩
abbrev cX7_advance : ByteArray := prog_9_method_6_code
def yX7_advance : MethodName := ⟨RX7, "advance", "()V"⟩
abbrev cX7_isLetter : ByteArray := prog_9_method_7_code
def yX7_isLetter : MethodName := ⟨RX7, "isLetter", "(I)Z"⟩
abbrev cX7_isDigit : ByteArray := prog_9_method_8_code
def yX7_isDigit : MethodName := ⟨RX7, "isDigit", "(I)Z"⟩
abbrev cX7_readRun : ByteArray := prog_9_method_9_code
def yX7_readRun : MethodName := ⟨RX7, "readRun", "()V"⟩
abbrev cX7_refuse : ByteArray := prog_9_method_10_code
def yX7_refuse : MethodName := ⟨RX7, "refuse", "(I)Z"⟩
abbrev cX7_finish : ByteArray := prog_9_method_11_code
def yX7_finish : MethodName := ⟨RX7, "finish", "()Z"⟩
abbrev cX7_numberHere : ByteArray := prog_9_method_12_code
def yX7_numberHere : MethodName := ⟨RX7, "numberHere", "(II)I"⟩
abbrev cX7_nextNumber : ByteArray := prog_9_method_13_code
def yX7_nextNumber : MethodName := ⟨RX7, "nextNumber", "(II)I"⟩
abbrev cX7_isSign : ByteArray := prog_9_method_14_code
def yX7_isSign : MethodName := ⟨RX7, "isSign", "(I)Z"⟩
abbrev cX7_nextSign : ByteArray := prog_9_method_15_code
def yX7_nextSign : MethodName := ⟨RX7, "nextSign", "(I)Z"⟩
abbrev cX7_nameHere : ByteArray := prog_9_method_16_code
def yX7_nameHere : MethodName := ⟨RX7, "nameHere", "()Z"⟩
def RX8 : String := "RentRiver$Undo"
def TX8 : u_T := fun k => match k with
  | 0 => ("RentRiver$Undo", "towns", "[I", true)
  | 1 => ("RentRiver$Undo", "months", "[I", true)
  | 2 => ("RentRiver$Undo", "before", "[I", true)
  | _ => ("RentRiver$Undo", "size", "I", false)
def tyX8 : Nat → FieldType := fun k => match k with
  | 0 => .array .int
  | 1 => .array .int
  | 2 => .array .int
  | _ => .int
abbrev wsX80 : List Cond := u_ws RX8 TX8 4
theorem nmX8 : ∀ a, a < 4 → ∀ b, b < 4 → a ≠ b → (TX8 a).2.1 ≠ (TX8 b).2.1 := by decide +kernel
theorem tyX8_ok : ∀ k, k < 4 → parseFieldDescriptor (TX8 k).2.2.1 = some (tyX8 k) := by decide +kernel
abbrev cX8_init : ByteArray := prog_10_method_1_code
def yX8_init : MethodName := ⟨RX8, "<init>", "()V"⟩
abbrev cX8_keep : ByteArray := prog_10_method_2_code
def yX8_keep : MethodName := ⟨RX8, "keep", "(III)V"⟩
abbrev cX8_back : ByteArray := prog_10_method_3_code
def yX8_back : MethodName := ⟨RX8, "back", "(LRentRiver$Plain;)I"⟩
def RX9 : String := "RentRiver$Word"
def TX9 : u_T := fun k => match k with
  | _ => ("", "", "", false)
def tyX9 : Nat → FieldType := fun k => match k with
  | _ => .int
abbrev wsX90 : List Cond := u_ws RX9 TX9 0
theorem nmX9 : ∀ a, a < 0 → ∀ b, b < 0 → a ≠ b → (TX9 a).2.1 ≠ (TX9 b).2.1 := by decide +kernel
theorem tyX9_ok : ∀ k, k < 0 → parseFieldDescriptor (TX9 k).2.2.1 = some (tyX9 k) := by decide +kernel
abbrev cX9_find : ByteArray := prog_11_method_4_code
def yX9_find : MethodName := ⟨RX9, "find", "(J)LRentRiver$Word;"⟩
abbrev cX9_isMeasure : ByteArray := prog_11_method_5_code
def yX9_isMeasure : MethodName := ⟨RX9, "isMeasure", "()Z"⟩
abbrev cX9_isAboutTown : ByteArray := prog_11_method_6_code
def yX9_isAboutTown : MethodName := ⟨RX9, "isAboutTown", "()Z"⟩
def RX10 : String := "RentRiver$Year"
def TX10 : u_T := fun k => match k with
  | 0 => ("RentRiver$Year", "running", "Z", false)
  | 1 => ("RentRiver$Year", "months", "I", false)
  | 2 => ("RentRiver$Year", "treasury", "I", false)
  | 3 => ("RentRiver$Year", "letTo", "[I", true)
  | 4 => ("RentRiver$Year", "letAlso", "[I", true)
  | 5 => ("RentRiver$Year", "letFor", "[I", true)
  | 6 => ("RentRiver$Year", "of", "[[I", true)
  | 7 => ("RentRiver$Year", "lies", "I", false)
  | 8 => ("RentRiver$Year", "fish", "I", false)
  | 9 => ("RentRiver$Year", "rained", "I", false)
  | 10 => ("RentRiver$Year", "used", "I", false)
  | 11 => ("RentRiver$Year", "seeped", "I", false)
  | 12 => ("RentRiver$Year", "atSea", "I", false)
  | 13 => ("RentRiver$Year", "lettings", "I", false)
  | _ => ("RentRiver$Year", "moves", "I", false)
def tyX10 : Nat → FieldType := fun k => match k with
  | 0 => .boolean
  | 1 => .int
  | 2 => .int
  | 3 => .array .int
  | 4 => .array .int
  | 5 => .array .int
  | 6 => .array (.array .int)
  | 7 => .int
  | 8 => .int
  | 9 => .int
  | 10 => .int
  | 11 => .int
  | 12 => .int
  | 13 => .int
  | _ => .int
abbrev wsX100 : List Cond := u_ws RX10 TX10 15
theorem nmX10 : ∀ a, a < 15 → ∀ b, b < 15 → a ≠ b → (TX10 a).2.1 ≠ (TX10 b).2.1 := by decide +kernel
theorem tyX10_ok : ∀ k, k < 15 → parseFieldDescriptor (TX10 k).2.2.1 = some (tyX10 k) := by decide +kernel
abbrev cX10_init : ByteArray := prog_12_method_1_code
def yX10_init : MethodName := ⟨RX10, "<init>", "()V"⟩
abbrev cX10_start : ByteArray := prog_12_method_2_code
def yX10_start : MethodName := ⟨RX10, "start", "(LRentRiver$Plain;)V"⟩
abbrev cX10_copy : ByteArray := prog_12_method_3_code
def yX10_copy : MethodName := ⟨RX10, "copy", "(LRentRiver$Year;)V"⟩
abbrev cX10_number : ByteArray := prog_12_method_4_code
def yX10_number : MethodName := ⟨RX10, "number", "(I)I"⟩
abbrev cX10_inPonds : ByteArray := prog_12_method_5_code
def yX10_inPonds : MethodName := ⟨RX10, "inPonds", "()I"⟩
abbrev cX10_lacks : ByteArray := prog_12_method_6_code
def yX10_lacks : MethodName := ⟨RX10, "lacks", "(LRentRiver$Plain;I)Z"⟩
abbrev cX10_goOn : ByteArray := prog_12_method_7_code
def yX10_goOn : MethodName := ⟨RX10, "goOn", "(LRentRiver$Plain;LRentRiver$Contracts;I)V"⟩
abbrev cX10_draw : ByteArray := prog_12_method_8_code
def yX10_draw : MethodName := ⟨RX10, "draw", "(LRentRiver$Plain;LRentRiver$Contracts;I)V"⟩
abbrev cX10_nextMonth : ByteArray := prog_12_method_9_code
def yX10_nextMonth : MethodName := ⟨RX10, "nextMonth", "(LRentRiver$Plain;LRentRiver$Contracts;I)V"⟩
abbrev cX10_canPay : ByteArray := prog_12_method_10_code
def yX10_canPay : MethodName := ⟨RX10, "canPay", "(II)Z"⟩
abbrev cX10_letByContract : ByteArray := prog_12_method_11_code
def yX10_letByContract : MethodName := ⟨RX10, "letByContract", "(LRentRiver$Contracts;)V"⟩
abbrev cX10_letByBids : ByteArray := prog_12_method_12_code
def yX10_letByBids : MethodName := ⟨RX10, "letByBids", "(LRentRiver$Plain;)V"⟩
abbrev cX10_leastBid : ByteArray := prog_12_method_13_code
def yX10_leastBid : MethodName := ⟨RX10, "leastBid", "(LRentRiver$Plain;II)I"⟩
abbrev cX10_pay : ByteArray := prog_12_method_14_code
def yX10_pay : MethodName := ⟨RX10, "pay", "(II)V"⟩
abbrev cX10_moveRiver : ByteArray := prog_12_method_15_code
def yX10_moveRiver : MethodName := ⟨RX10, "moveRiver", "(LRentRiver$Plain;)V"⟩
abbrev cX10_bridgeTo : ByteArray := prog_12_method_16_code
def yX10_bridgeTo : MethodName := ⟨RX10, "bridgeTo", "(LRentRiver$Plain;I)I"⟩
abbrev cX10_pour : ByteArray := prog_12_method_17_code
def yX10_pour : MethodName := ⟨RX10, "pour", "(LRentRiver$Plain;I)V"⟩
abbrev cX10_pourTo : ByteArray := prog_12_method_18_code
def yX10_pourTo : MethodName := ⟨RX10, "pourTo", "(LRentRiver$Plain;II)V"⟩
abbrev cX10_drink : ByteArray := prog_12_method_19_code
def yX10_drink : MethodName := ⟨RX10, "drink", "(LRentRiver$Plain;I)V"⟩
abbrev cX10_waterField : ByteArray := prog_12_method_20_code
def yX10_waterField : MethodName := ⟨RX10, "waterField", "(LRentRiver$Plain;I)V"⟩
abbrev cX10_harvest : ByteArray := prog_12_method_21_code
def yX10_harvest : MethodName := ⟨RX10, "harvest", "(LRentRiver$Plain;)V"⟩
abbrev cX10_leakFrom : ByteArray := prog_12_method_22_code
def yX10_leakFrom : MethodName := ⟨RX10, "leakFrom", "(II)V"⟩
def RX11 : String := "RentRiver"
def TX11 : u_T := fun k => match k with
  | 0 => ("RentRiver", "tape", "LRentRiver$Tape;", true)
  | 1 => ("RentRiver", "now", "LRentRiver$State;", true)
  | 2 => ("RentRiver", "spare", "LRentRiver$State;", true)
  | 3 => ("RentRiver", "images", "[LRentRiver$State;", true)
  | 4 => ("RentRiver", "kept", "[Z", true)
  | 5 => ("RentRiver", "undone", "LRentRiver$Undo;", true)
  | 6 => ("RentRiver", "planner", "LRentRiver$Cheapest;", true)
  | 7 => ("RentRiver", "auction", "LRentRiver$Rounds;", true)
  | 8 => ("RentRiver", "search", "LRentRiver$Leaks;", true)
  | 9 => ("RentRiver", "trial", "LRentRiver$Year;", true)
  | 10 => ("RentRiver", "text", "[B", true)
  | 11 => ("RentRiver", "textSize", "I", false)
  | 12 => ("RentRiver", "latestFault", "I", false)
  | _ => ("RentRiver", "plains", "I", false)
def tyX11 : Nat → FieldType := fun k => match k with
  | 0 => .object "RentRiver$Tape"
  | 1 => .object "RentRiver$State"
  | 2 => .object "RentRiver$State"
  | 3 => .array (.object "RentRiver$State")
  | 4 => .array .boolean
  | 5 => .object "RentRiver$Undo"
  | 6 => .object "RentRiver$Cheapest"
  | 7 => .object "RentRiver$Rounds"
  | 8 => .object "RentRiver$Leaks"
  | 9 => .object "RentRiver$Year"
  | 10 => .array .byte
  | 11 => .int
  | 12 => .int
  | _ => .int
abbrev wsX110 : List Cond := u_ws RX11 TX11 14
theorem nmX11 : ∀ a, a < 14 → ∀ b, b < 14 → a ≠ b → (TX11 a).2.1 ≠ (TX11 b).2.1 := by decide +kernel
theorem tyX11_ok : ∀ k, k < 14 → parseFieldDescriptor (TX11 k).2.2.1 = some (tyX11 k) := by decide +kernel
abbrev cX11_init : ByteArray := prog_1_method_1_code
def yX11_init : MethodName := ⟨RX11, "<init>", "()V"⟩
abbrev cX11_feed : ByteArray := prog_1_method_2_code
def yX11_feed : MethodName := ⟨RX11, "feed", "(IIIII)I"⟩
abbrev cX11_end : ByteArray := prog_1_method_3_code
def yX11_end : MethodName := ⟨RX11, "end", "(I)Z"⟩
abbrev cX11_plain : ByteArray := prog_1_method_4_code
def yX11_plain : MethodName := ⟨RX11, "plain", "()I"⟩
abbrev cX11_closeTape : ByteArray := prog_1_method_5_code
def yX11_closeTape : MethodName := ⟨RX11, "closeTape", "(I)I"⟩
abbrev cX11_fault : ByteArray := prog_1_method_6_code
def yX11_fault : MethodName := ⟨RX11, "fault", "()I"⟩
abbrev cX11_told : ByteArray := prog_1_method_7_code
def yX11_told : MethodName := ⟨RX11, "told", "(II)I"⟩
abbrev cX11_isTown : ByteArray := prog_1_method_8_code
def yX11_isTown : MethodName := ⟨RX11, "isTown", "(I)Z"⟩
abbrev cX11_isMonth : ByteArray := prog_1_method_9_code
def yX11_isMonth : MethodName := ⟨RX11, "isMonth", "(I)Z"⟩
abbrev cX11_bid : ByteArray := prog_1_method_10_code
def yX11_bid : MethodName := ⟨RX11, "bid", "(II)I"⟩
abbrev cX11_offer : ByteArray := prog_1_method_11_code
def yX11_offer : MethodName := ⟨RX11, "offer", "(III)Z"⟩
abbrev cX11_undo : ByteArray := prog_1_method_12_code
def yX11_undo : MethodName := ⟨RX11, "undo", "()I"⟩
abbrev cX11_water : ByteArray := prog_1_method_13_code
def yX11_water : MethodName := ⟨RX11, "water", "(I)I"⟩
abbrev cX11_contracts : ByteArray := prog_1_method_14_code
def yX11_contracts : MethodName := ⟨RX11, "contracts", "()I"⟩
abbrev cX11_contract : ByteArray := prog_1_method_15_code
def yX11_contract : MethodName := ⟨RX11, "contract", "(II)I"⟩
abbrev cX11_begin : ByteArray := prog_1_method_16_code
def yX11_begin : MethodName := ⟨RX11, "begin", "()Z"⟩
abbrev cX11_on : ByteArray := prog_1_method_17_code
def yX11_on : MethodName := ⟨RX11, "on", "(I)I"⟩
abbrev cX11_year : ByteArray := prog_1_method_18_code
def yX11_year : MethodName := ⟨RX11, "year", "(I)I"⟩
abbrev cX11_town : ByteArray := prog_1_method_19_code
def yX11_town : MethodName := ⟨RX11, "town", "(II)I"⟩
abbrev cX11_let : ByteArray := prog_1_method_20_code
def yX11_let : MethodName := ⟨RX11, "let", "(II)I"⟩
abbrev cX11_droughts : ByteArray := prog_1_method_21_code
def yX11_droughts : MethodName := ⟨RX11, "droughts", "()I"⟩
abbrev cX11_cheapest : ByteArray := prog_1_method_22_code
def yX11_cheapest : MethodName := ⟨RX11, "cheapest", "()I"⟩
abbrev cX11_plan : ByteArray := prog_1_method_23_code
def yX11_plan : MethodName := ⟨RX11, "plan", "(I)I"⟩
abbrev cX11_take : ByteArray := prog_1_method_24_code
def yX11_take : MethodName := ⟨RX11, "take", "()Z"⟩
abbrev cX11_rounds : ByteArray := prog_1_method_25_code
def yX11_rounds : MethodName := ⟨RX11, "rounds", "(I)I"⟩
abbrev cX11_has : ByteArray := prog_1_method_26_code
def yX11_has : MethodName := ⟨RX11, "has", "(I)I"⟩
abbrev cX11_price : ByteArray := prog_1_method_27_code
def yX11_price : MethodName := ⟨RX11, "price", "(I)I"⟩
abbrev cX11_leaks : ByteArray := prog_1_method_28_code
def yX11_leaks : MethodName := ⟨RX11, "leaks", "()I"⟩
abbrev cX11_leak : ByteArray := prog_1_method_29_code
def yX11_leak : MethodName := ⟨RX11, "leak", "(II)I"⟩
abbrev cX11_wettest : ByteArray := prog_1_method_30_code
def yX11_wettest : MethodName := ⟨RX11, "wettest", "(I)I"⟩
abbrev cX11_enough : ByteArray := prog_1_method_31_code
def yX11_enough : MethodName := ⟨RX11, "enough", "(I)I"⟩
abbrev cX11_mostGain : ByteArray := prog_1_method_32_code
def yX11_mostGain : MethodName := ⟨RX11, "mostGain", "(II)I"⟩
abbrev cX11_shoresOf : ByteArray := prog_1_method_33_code
def yX11_shoresOf : MethodName := ⟨RX11, "shoresOf", "()I"⟩
abbrev cX11_tryYear : ByteArray := prog_1_method_34_code
def yX11_tryYear : MethodName := ⟨RX11, "tryYear", "(LRentRiver$Plain;)V"⟩
abbrev cX11_thirsty : ByteArray := prog_1_method_35_code
def yX11_thirsty : MethodName := ⟨RX11, "thirsty", "()I"⟩
abbrev cX11_bidsOf : ByteArray := prog_1_method_36_code
def yX11_bidsOf : MethodName := ⟨RX11, "bidsOf", "(I)I"⟩
abbrev cX11_greatest : ByteArray := prog_1_method_37_code
def yX11_greatest : MethodName := ⟨RX11, "greatest", "(I)I"⟩
abbrev cX11_write : ByteArray := prog_1_method_38_code
def yX11_write : MethodName := ⟨RX11, "write", "()I"⟩
abbrev cX11_putByte : ByteArray := prog_1_method_39_code
def yX11_putByte : MethodName := ⟨RX11, "putByte", "(I)V"⟩
abbrev cX11_putNumber : ByteArray := prog_1_method_40_code
def yX11_putNumber : MethodName := ⟨RX11, "putNumber", "(I)V"⟩
abbrev cX11_putTenant : ByteArray := prog_1_method_41_code
def yX11_putTenant : MethodName := ⟨RX11, "putTenant", "(I)V"⟩
abbrev cX11_byteAt : ByteArray := prog_1_method_42_code
def yX11_byteAt : MethodName := ⟨RX11, "byteAt", "(I)I"⟩
abbrev cX11_worth : ByteArray := prog_1_method_43_code
def yX11_worth : MethodName := ⟨RX11, "worth", "(I)I"⟩
abbrev cX11_drawn : ByteArray := prog_1_method_44_code
def yX11_drawn : MethodName := ⟨RX11, "drawn", "(I)I"⟩
abbrev cX11_shores : ByteArray := prog_1_method_45_code
def yX11_shores : MethodName := ⟨RX11, "shores", "(III)I"⟩
abbrev cX11_must : ByteArray := prog_1_method_46_code
def yX11_must : MethodName := ⟨RX11, "must", "(II)I"⟩
abbrev cX11_sentence : ByteArray := prog_1_method_47_code
def yX11_sentence : MethodName := ⟨RX11, "sentence", "()I"⟩
abbrev cX11_said : ByteArray := prog_1_method_48_code
def yX11_said : MethodName := ⟨RX11, "said", "(I)I"⟩
abbrev cX11_image : ByteArray := prog_1_method_49_code
def yX11_image : MethodName := ⟨RX11, "image", "(I)Z"⟩
abbrev cX11_restore : ByteArray := prog_1_method_50_code
def yX11_restore : MethodName := ⟨RX11, "restore", "(I)Z"⟩
abbrev cX11_count : ByteArray := prog_1_method_51_code
def yX11_count : MethodName := ⟨RX11, "count", "(I)I"⟩
def RX12 : String := "RentRiverModel"
def TX12 : u_T := fun k => match k with
  | 0 => ("RentRiverModel", "thrown", "I", false)
  | 1 => ("RentRiverModel", "tape", "[B", true)
  | 2 => ("RentRiverModel", "length", "I", false)
  | 3 => ("RentRiverModel", "size", "I", false)
  | 4 => ("RentRiverModel", "p", "I", false)
  | 5 => ("RentRiverModel", "limit", "I", false)
  | 6 => ("RentRiverModel", "s", "[I", true)
  | 7 => ("RentRiverModel", "h", "[I", true)
  | 8 => ("RentRiverModel", "read", "[I", true)
  | 9 => ("RentRiverModel", "names", "[J", true)
  | 10 => ("RentRiverModel", "reserved", "[J", true)
  | 11 => ("RentRiverModel", "token", "I", false)
  | 12 => ("RentRiverModel", "at", "I", false)
  | 13 => ("RentRiverModel", "span", "I", false)
  | 14 => ("RentRiverModel", "number", "I", false)
  | 15 => ("RentRiverModel", "fault", "I", false)
  | 16 => ("RentRiverModel", "faultAt", "I", false)
  | 17 => ("RentRiverModel", "word", "J", false)
  | 18 => ("RentRiverModel", "got", "I", false)
  | 19 => ("RentRiverModel", "rows", "I", false)
  | 20 => ("RentRiverModel", "onces", "I", false)
  | 21 => ("RentRiverModel", "bids", "I", false)
  | 22 => ("RentRiverModel", "rain", "I", false)
  | 23 => ("RentRiverModel", "had", "[I", true)
  | 24 => ("RentRiverModel", "of0", "I", false)
  | 25 => ("RentRiverModel", "plainNumber", "I", false)
  | 26 => ("RentRiverModel", "plainsRead", "I", false)
  | 27 => ("RentRiverModel", "undone", "[I", true)
  | 28 => ("RentRiverModel", "undoMany", "I", false)
  | 29 => ("RentRiverModel", "lies", "I", false)
  | 30 => ("RentRiverModel", "other", "I", false)
  | 31 => ("RentRiverModel", "paid", "I", false)
  | 32 => ("RentRiverModel", "leakTown", "I", false)
  | 33 => ("RentRiverModel", "leakMonth", "I", false)
  | 34 => ("RentRiverModel", "leakMuch", "I", false)
  | 35 => ("RentRiverModel", "tried", "[I", true)
  | 36 => ("RentRiverModel", "costs", "[I", true)
  | 37 => ("RentRiverModel", "havings", "[I", true)
  | 38 => ("RentRiverModel", "plan", "[I", true)
  | 39 => ("RentRiverModel", "hasPlan", "Z", false)
  | 40 => ("RentRiverModel", "planNumber", "I", false)
  | 41 => ("RentRiverModel", "hasMonth", "[I", true)
  | 42 => ("RentRiverModel", "prices", "[I", true)
  | 43 => ("RentRiverModel", "roundTowns", "I", false)
  | 44 => ("RentRiverModel", "hasRounds", "Z", false)
  | 45 => ("RentRiverModel", "before", "[I", true)
  | 46 => ("RentRiverModel", "bidsKept", "[I", true)
  | 47 => ("RentRiverModel", "seed", "I", false)
  | 48 => ("RentRiverModel", "leaksFound", "[I", true)
  | 49 => ("RentRiverModel", "leakMany", "I", false)
  | 50 => ("RentRiverModel", "text", "[B", true)
  | 51 => ("RentRiverModel", "textMany", "I", false)
  | 52 => ("RentRiverModel", "stack", "[I", true)
  | 53 => ("RentRiverModel", "codes", "I", false)
  | 54 => ("RentRiverModel", "ones", "I", false)
  | 55 => ("RentRiverModel", "top", "I", false)
  | 56 => ("RentRiverModel", "deep", "I", false)
  | 57 => ("RentRiverModel", "isWhole", "Z", false)
  | 58 => ("RentRiverModel", "values", "[Z", true)
  | 59 => ("RentRiverModel", "kept", "[I", true)
  | 60 => ("RentRiverModel", "namesKept", "[J", true)
  | _ => ("RentRiverModel", "isKept", "[Z", true)
def tyX12 : Nat → FieldType := fun k => match k with
  | 0 => .int
  | 1 => .array .byte
  | 2 => .int
  | 3 => .int
  | 4 => .int
  | 5 => .int
  | 6 => .array .int
  | 7 => .array .int
  | 8 => .array .int
  | 9 => .array .long
  | 10 => .array .long
  | 11 => .int
  | 12 => .int
  | 13 => .int
  | 14 => .int
  | 15 => .int
  | 16 => .int
  | 17 => .long
  | 18 => .int
  | 19 => .int
  | 20 => .int
  | 21 => .int
  | 22 => .int
  | 23 => .array .int
  | 24 => .int
  | 25 => .int
  | 26 => .int
  | 27 => .array .int
  | 28 => .int
  | 29 => .int
  | 30 => .int
  | 31 => .int
  | 32 => .int
  | 33 => .int
  | 34 => .int
  | 35 => .array .int
  | 36 => .array .int
  | 37 => .array .int
  | 38 => .array .int
  | 39 => .boolean
  | 40 => .int
  | 41 => .array .int
  | 42 => .array .int
  | 43 => .int
  | 44 => .boolean
  | 45 => .array .int
  | 46 => .array .int
  | 47 => .int
  | 48 => .array .int
  | 49 => .int
  | 50 => .array .byte
  | 51 => .int
  | 52 => .array .int
  | 53 => .int
  | 54 => .int
  | 55 => .int
  | 56 => .int
  | 57 => .boolean
  | 58 => .array .boolean
  | 59 => .array .int
  | 60 => .array .long
  | _ => .array .boolean
abbrev wsX120 : List Cond := u_ws RX12 TX12 62
theorem nmX12 : ∀ a, a < 62 → ∀ b, b < 62 → a ≠ b → (TX12 a).2.1 ≠ (TX12 b).2.1 := by decide +kernel
theorem tyX12_ok : ∀ k, k < 62 → parseFieldDescriptor (TX12 k).2.2.1 = some (tyX12 k) := by decide +kernel
abbrev cX12_throwsIf : ByteArray := prog_14_method_2_code
def yX12_throwsIf : MethodName := ⟨RX12, "throwsIf", "(Z)Z"⟩
abbrev cX12_feed : ByteArray := prog_14_method_3_code
def yX12_feed : MethodName := ⟨RX12, "feed", "(IIIII)I"⟩
abbrev cX12_four : ByteArray := prog_14_method_4_code
def yX12_four : MethodName := ⟨RX12, "four", "(I)V"⟩
abbrev cX12_end : ByteArray := prog_14_method_5_code
def yX12_end : MethodName := ⟨RX12, "end", "(I)Z"⟩
abbrev cX12_taken : ByteArray := prog_14_method_6_code
def yX12_taken : MethodName := ⟨RX12, "taken", "(I)V"⟩
abbrev cX12_isIn : ByteArray := prog_14_method_7_code
def yX12_isIn : MethodName := ⟨RX12, "isIn", "(III)Z"⟩
abbrev cX12_bitOf : ByteArray := prog_14_method_8_code
def yX12_bitOf : MethodName := ⟨RX12, "bitOf", "(II)Z"⟩
abbrev cX12_octet : ByteArray := prog_14_method_9_code
def yX12_octet : MethodName := ⟨RX12, "octet", "(I)I"⟩
abbrev cX12_init : ByteArray := prog_14_method_10_code
def yX12_init : MethodName := ⟨RX12, "<init>", "()V"⟩
abbrev cX12_peek : ByteArray := prog_14_method_11_code
def yX12_peek : MethodName := ⟨RX12, "peek", "()I"⟩
abbrev cX12_isSmall : ByteArray := prog_14_method_12_code
def yX12_isSmall : MethodName := ⟨RX12, "isSmall", "(I)Z"⟩
abbrev cX12_isDigit : ByteArray := prog_14_method_13_code
def yX12_isDigit : MethodName := ⟨RX12, "isDigit", "(I)Z"⟩
abbrev cX12_next : ByteArray := prog_14_method_14_code
def yX12_next : MethodName := ⟨RX12, "next", "()V"⟩
abbrev cX12_bad : ByteArray := prog_14_method_15_code
def yX12_bad : MethodName := ⟨RX12, "bad", "(I)Z"⟩
abbrev cX12_isWord : ByteArray := prog_14_method_16_code
def yX12_isWord : MethodName := ⟨RX12, "isWord", "(J)Z"⟩
abbrev cX12_isSign : ByteArray := prog_14_method_17_code
def yX12_isSign : MethodName := ⟨RX12, "isSign", "(I)Z"⟩
abbrev cX12_sign : ByteArray := prog_14_method_18_code
def yX12_sign : MethodName := ⟨RX12, "sign", "(I)Z"⟩
abbrev cX12_isName : ByteArray := prog_14_method_19_code
def yX12_isName : MethodName := ⟨RX12, "isName", "()Z"⟩
abbrev cX12_takes : ByteArray := prog_14_method_20_code
def yX12_takes : MethodName := ⟨RX12, "takes", "(II)Z"⟩
abbrev cX12_find : ByteArray := prog_14_method_21_code
def yX12_find : MethodName := ⟨RX12, "find", "(II)I"⟩
abbrev cX12_row : ByteArray := prog_14_method_22_code
def yX12_row : MethodName := ⟨RX12, "row", "()Z"⟩
abbrev cX12_readTown : ByteArray := prog_14_method_23_code
def yX12_readTown : MethodName := ⟨RX12, "readTown", "()Z"⟩
abbrev cX12_readBid : ByteArray := prog_14_method_24_code
def yX12_readBid : MethodName := ⟨RX12, "readBid", "()Z"⟩
abbrev cX12_readOf : ByteArray := prog_14_method_25_code
def yX12_readOf : MethodName := ⟨RX12, "readOf", "(III)Z"⟩
abbrev cX12_plain : ByteArray := prog_14_method_26_code
def yX12_plain : MethodName := ⟨RX12, "plain", "()I"⟩
abbrev cX12_fault : ByteArray := prog_14_method_27_code
def yX12_fault : MethodName := ⟨RX12, "fault", "()I"⟩
abbrev cX12_isTown : ByteArray := prog_14_method_28_code
def yX12_isTown : MethodName := ⟨RX12, "isTown", "(I)Z"⟩
abbrev cX12_isMonth : ByteArray := prog_14_method_29_code
def yX12_isMonth : MethodName := ⟨RX12, "isMonth", "(I)Z"⟩
abbrev cX12_toldOf : ByteArray := prog_14_method_30_code
def yX12_toldOf : MethodName := ⟨RX12, "toldOf", "(II)I"⟩
abbrev cX12_bidOf : ByteArray := prog_14_method_31_code
def yX12_bidOf : MethodName := ⟨RX12, "bidOf", "(II)I"⟩
abbrev cX12_told : ByteArray := prog_14_method_32_code
def yX12_told : MethodName := ⟨RX12, "told", "(II)I"⟩
abbrev cX12_bid : ByteArray := prog_14_method_33_code
def yX12_bid : MethodName := ⟨RX12, "bid", "(II)I"⟩
abbrev cX12_water : ByteArray := prog_14_method_34_code
def yX12_water : MethodName := ⟨RX12, "water", "(I)I"⟩
abbrev cX12_bidMany : ByteArray := prog_14_method_35_code
def yX12_bidMany : MethodName := ⟨RX12, "bidMany", "()I"⟩
abbrev cX12_offer : ByteArray := prog_14_method_36_code
def yX12_offer : MethodName := ⟨RX12, "offer", "(III)Z"⟩
abbrev cX12_undo : ByteArray := prog_14_method_37_code
def yX12_undo : MethodName := ⟨RX12, "undo", "()I"⟩
abbrev cX12_dealRow : ByteArray := prog_14_method_38_code
def yX12_dealRow : MethodName := ⟨RX12, "dealRow", "()Z"⟩
abbrev cX12_contracts : ByteArray := prog_14_method_39_code
def yX12_contracts : MethodName := ⟨RX12, "contracts", "()I"⟩
abbrev cX12_contract : ByteArray := prog_14_method_40_code
def yX12_contract : MethodName := ⟨RX12, "contract", "(II)I"⟩
abbrev cX12_begins : ByteArray := prog_14_method_41_code
def yX12_begins : MethodName := ⟨RX12, "begins", "()V"⟩
abbrev cX12_of : ByteArray := prog_14_method_42_code
def yX12_of : MethodName := ⟨RX12, "of", "(II)I"⟩
abbrev cX12_more : ByteArray := prog_14_method_43_code
def yX12_more : MethodName := ⟨RX12, "more", "(III)V"⟩
abbrev cX12_canPay : ByteArray := prog_14_method_44_code
def yX12_canPay : MethodName := ⟨RX12, "canPay", "(II)Z"⟩
abbrev cX12_pays : ByteArray := prog_14_method_45_code
def yX12_pays : MethodName := ⟨RX12, "pays", "(II)V"⟩
abbrev cX12_lets : ByteArray := prog_14_method_46_code
def yX12_lets : MethodName := ⟨RX12, "lets", "(I)V"⟩
abbrev cX12_placeOf : ByteArray := prog_14_method_47_code
def yX12_placeOf : MethodName := ⟨RX12, "placeOf", "(I)I"⟩
abbrev cX12_sizeOf : ByteArray := prog_14_method_48_code
def yX12_sizeOf : MethodName := ⟨RX12, "sizeOf", "(I)I"⟩
abbrev cX12_comes : ByteArray := prog_14_method_49_code
def yX12_comes : MethodName := ⟨RX12, "comes", "(II)V"⟩
abbrev cX12_wasLet : ByteArray := prog_14_method_50_code
def yX12_wasLet : MethodName := ⟨RX12, "wasLet", "(II)Z"⟩
abbrev cX12_month : ByteArray := prog_14_method_51_code
def yX12_month : MethodName := ⟨RX12, "month", "(I)V"⟩
abbrev cX12_uses : ByteArray := prog_14_method_52_code
def yX12_uses : MethodName := ⟨RX12, "uses", "(I)V"⟩
abbrev cX12_begin : ByteArray := prog_14_method_53_code
def yX12_begin : MethodName := ⟨RX12, "begin", "()Z"⟩
abbrev cX12_on : ByteArray := prog_14_method_54_code
def yX12_on : MethodName := ⟨RX12, "on", "(I)I"⟩
abbrev cX12_year : ByteArray := prog_14_method_55_code
def yX12_year : MethodName := ⟨RX12, "year", "(I)I"⟩
abbrev cX12_town : ByteArray := prog_14_method_56_code
def yX12_town : MethodName := ⟨RX12, "town", "(II)I"⟩
abbrev cX12_let : ByteArray := prog_14_method_57_code
def yX12_let : MethodName := ⟨RX12, "let", "(II)I"⟩
abbrev cX12_droughts : ByteArray := prog_14_method_58_code
def yX12_droughts : MethodName := ⟨RX12, "droughts", "()I"⟩
abbrev cX12_costOf : ByteArray := prog_14_method_59_code
def yX12_costOf : MethodName := ⟨RX12, "costOf", "(II)I"⟩
abbrev cX12_gains : ByteArray := prog_14_method_60_code
def yX12_gains : MethodName := ⟨RX12, "gains", "(II)I"⟩
abbrev cX12_canBe : ByteArray := prog_14_method_61_code
def yX12_canBe : MethodName := ⟨RX12, "canBe", "(I)Z"⟩
abbrev cX12_cheapest : ByteArray := prog_14_method_62_code
def yX12_cheapest : MethodName := ⟨RX12, "cheapest", "()I"⟩
abbrev cX12_plan : ByteArray := prog_14_method_63_code
def yX12_plan : MethodName := ⟨RX12, "plan", "(I)I"⟩
abbrev cX12_take : ByteArray := prog_14_method_64_code
def yX12_take : MethodName := ⟨RX12, "take", "()Z"⟩
abbrev cX12_holderOf : ByteArray := prog_14_method_65_code
def yX12_holderOf : MethodName := ⟨RX12, "holderOf", "(I)I"⟩
abbrev cX12_rounds : ByteArray := prog_14_method_66_code
def yX12_rounds : MethodName := ⟨RX12, "rounds", "(I)I"⟩
abbrev cX12_has : ByteArray := prog_14_method_67_code
def yX12_has : MethodName := ⟨RX12, "has", "(I)I"⟩
abbrev cX12_price : ByteArray := prog_14_method_68_code
def yX12_price : MethodName := ⟨RX12, "price", "(I)I"⟩
abbrev cX12_thinks : ByteArray := prog_14_method_69_code
def yX12_thinks : MethodName := ⟨RX12, "thinks", "()V"⟩
abbrev cX12_forgets : ByteArray := prog_14_method_70_code
def yX12_forgets : MethodName := ⟨RX12, "forgets", "()V"⟩
abbrev cX12_wholeYear : ByteArray := prog_14_method_71_code
def yX12_wholeYear : MethodName := ⟨RX12, "wholeYear", "(Z)V"⟩
abbrev cX12_draw : ByteArray := prog_14_method_72_code
def yX12_draw : MethodName := ⟨RX12, "draw", "(I)I"⟩
abbrev cX12_areLevels : ByteArray := prog_14_method_73_code
def yX12_areLevels : MethodName := ⟨RX12, "areLevels", "(I)Z"⟩
abbrev cX12_leaks : ByteArray := prog_14_method_74_code
def yX12_leaks : MethodName := ⟨RX12, "leaks", "()I"⟩
abbrev cX12_leak : ByteArray := prog_14_method_75_code
def yX12_leak : MethodName := ⟨RX12, "leak", "(II)I"⟩
abbrev cX12_wettest : ByteArray := prog_14_method_76_code
def yX12_wettest : MethodName := ⟨RX12, "wettest", "(I)I"⟩
abbrev cX12_enough : ByteArray := prog_14_method_77_code
def yX12_enough : MethodName := ⟨RX12, "enough", "(I)I"⟩
abbrev cX12_shoresOf : ByteArray := prog_14_method_78_code
def yX12_shoresOf : MethodName := ⟨RX12, "shoresOf", "()I"⟩
abbrev cX12_thirsty : ByteArray := prog_14_method_79_code
def yX12_thirsty : MethodName := ⟨RX12, "thirsty", "()I"⟩
abbrev cX12_bidsOf : ByteArray := prog_14_method_80_code
def yX12_bidsOf : MethodName := ⟨RX12, "bidsOf", "(I)I"⟩
abbrev cX12_greatest : ByteArray := prog_14_method_81_code
def yX12_greatest : MethodName := ⟨RX12, "greatest", "(I)I"⟩
abbrev cX12_put : ByteArray := prog_14_method_82_code
def yX12_put : MethodName := ⟨RX12, "put", "(I)V"⟩
abbrev cX12_putNumber : ByteArray := prog_14_method_83_code
def yX12_putNumber : MethodName := ⟨RX12, "putNumber", "(I)V"⟩
abbrev cX12_putName : ByteArray := prog_14_method_84_code
def yX12_putName : MethodName := ⟨RX12, "putName", "(J)V"⟩
abbrev cX12_write : ByteArray := prog_14_method_85_code
def yX12_write : MethodName := ⟨RX12, "write", "()I"⟩
abbrev cX12_byteAt : ByteArray := prog_14_method_86_code
def yX12_byteAt : MethodName := ⟨RX12, "byteAt", "(I)I"⟩
abbrev cX12_worth : ByteArray := prog_14_method_87_code
def yX12_worth : MethodName := ⟨RX12, "worth", "(I)I"⟩
abbrev cX12_drawn : ByteArray := prog_14_method_88_code
def yX12_drawn : MethodName := ⟨RX12, "drawn", "(I)I"⟩
abbrev cX12_shores : ByteArray := prog_14_method_89_code
def yX12_shores : MethodName := ⟨RX12, "shores", "(III)I"⟩
abbrev cX12_must : ByteArray := prog_14_method_90_code
def yX12_must : MethodName := ⟨RX12, "must", "(II)I"⟩
abbrev cX12_code : ByteArray := prog_14_method_91_code
def yX12_code : MethodName := ⟨RX12, "code", "(III)V"⟩
abbrev cX12_joins : ByteArray := prog_14_method_92_code
def yX12_joins : MethodName := ⟨RX12, "joins", "(I)V"⟩
abbrev cX12_nots : ByteArray := prog_14_method_93_code
def yX12_nots : MethodName := ⟨RX12, "nots", "()V"⟩
abbrev cX12_leafOf : ByteArray := prog_14_method_94_code
def yX12_leafOf : MethodName := ⟨RX12, "leafOf", "()I"⟩
abbrev cX12_operand : ByteArray := prog_14_method_95_code
def yX12_operand : MethodName := ⟨RX12, "operand", "()Z"⟩
abbrev cX12_behind : ByteArray := prog_14_method_96_code
def yX12_behind : MethodName := ⟨RX12, "behind", "()Z"⟩
abbrev cX12_sentence : ByteArray := prog_14_method_97_code
def yX12_sentence : MethodName := ⟨RX12, "sentence", "()I"⟩
abbrev cX12_isLeaf : ByteArray := prog_14_method_98_code
def yX12_isLeaf : MethodName := ⟨RX12, "isLeaf", "(IIII)Z"⟩
abbrev cX12_isSaid : ByteArray := prog_14_method_99_code
def yX12_isSaid : MethodName := ⟨RX12, "isSaid", "(I)Z"⟩
abbrev cX12_said : ByteArray := prog_14_method_100_code
def yX12_said : MethodName := ⟨RX12, "said", "(I)I"⟩
abbrev cX12_image : ByteArray := prog_14_method_101_code
def yX12_image : MethodName := ⟨RX12, "image", "(I)Z"⟩
abbrev cX12_restore : ByteArray := prog_14_method_102_code
def yX12_restore : MethodName := ⟨RX12, "restore", "(I)Z"⟩
abbrev cX12_count : ByteArray := prog_14_method_103_code
def yX12_count : MethodName := ⟨RX12, "count", "(I)I"⟩
def RJx145de : String := "java/io/Serializable"
def TJx145de : u_T := fun k => match k with
  | _ => ("", "", "", false)
def tyJx145de : Nat → FieldType := fun k => match k with
  | _ => .int
abbrev wsJx145de0 : List Cond := u_ws RJx145de TJx145de 0
theorem nmJx145de : ∀ a, a < 0 → ∀ b, b < 0 → a ≠ b → (TJx145de a).2.1 ≠ (TJx145de b).2.1 := by decide +kernel
theorem tyJx145de_ok : ∀ k, k < 0 → parseFieldDescriptor (TJx145de k).2.2.1 = some (tyJx145de k) := by decide +kernel
def RJx29ce0 : String := "java/lang/Enum"
def TJx29ce0 : u_T := fun k => match k with
  | _ => ("", "", "", false)
def tyJx29ce0 : Nat → FieldType := fun k => match k with
  | _ => .int
abbrev wsJx29ce00 : List Cond := u_ws RJx29ce0 TJx29ce0 0
theorem nmJx29ce0 : ∀ a, a < 0 → ∀ b, b < 0 → a ≠ b → (TJx29ce0 a).2.1 ≠ (TJx29ce0 b).2.1 := by decide +kernel
theorem tyJx29ce0_ok : ∀ k, k < 0 → parseFieldDescriptor (TJx29ce0 k).2.2.1 = some (tyJx29ce0 k) := by decide +kernel
def RJ9 : String := "java/lang/Math"
def TJ9 : u_T := fun k => match k with
  | _ => ("", "", "", false)
def tyJ9 : Nat → FieldType := fun k => match k with
  | _ => .int
abbrev wsJ90 : List Cond := u_ws RJ9 TJ9 0
theorem nmJ9 : ∀ a, a < 0 → ∀ b, b < 0 → a ≠ b → (TJ9 a).2.1 ≠ (TJ9 b).2.1 := by decide +kernel
theorem tyJ9_ok : ∀ k, k < 0 → parseFieldDescriptor (TJ9 k).2.2.1 = some (tyJ9 k) := by decide +kernel
abbrev cJ9_abs_0f7a4 : ByteArray := prog_18_method_59_code
def yJ9_abs_0f7a4 : MethodName := ⟨RJ9, "abs", "(I)I"⟩
abbrev cJ9_max_7cf53 : ByteArray := prog_18_method_65_code
def yJ9_max_7cf53 : MethodName := ⟨RJ9, "max", "(II)I"⟩
abbrev cJ9_min_7cf53 : ByteArray := prog_18_method_69_code
def yJ9_min_7cf53 : MethodName := ⟨RJ9, "min", "(II)I"⟩
def RJ0 : String := "java/lang/String"
def TJ0 : u_T := fun k => match k with
  | _ => ("", "", "", false)
def tyJ0 : Nat → FieldType := fun k => match k with
  | _ => .int
abbrev wsJ00 : List Cond := u_ws RJ0 TJ0 0
theorem nmJ0 : ∀ a, a < 0 → ∀ b, b < 0 → a ≠ b → (TJ0 a).2.1 ≠ (TJ0 b).2.1 := by decide +kernel
theorem tyJ0_ok : ∀ k, k < 0 → parseFieldDescriptor (TJ0 k).2.2.1 = some (tyJ0 k) := by decide +kernel
def RJ10 : String := "java/lang/System"
def TJ10 : u_T := fun k => match k with
  | _ => ("", "", "", false)
def tyJ10 : Nat → FieldType := fun k => match k with
  | _ => .int
abbrev wsJ100 : List Cond := u_ws RJ10 TJ10 0
theorem nmJ10 : ∀ a, a < 0 → ∀ b, b < 0 → a ≠ b → (TJ10 a).2.1 ≠ (TJ10 b).2.1 := by decide +kernel
theorem tyJ10_ok : ∀ k, k < 0 → parseFieldDescriptor (TJ10 k).2.2.1 = some (tyJ10 k) := by decide +kernel
def RL : String := "RentRiverLaw"
abbrev cL_told : ByteArray := method_3_code
def yL_told : MethodName := ⟨RL, "told", "(LRentRiver;II[J)I"⟩
abbrev cL_law : ByteArray := code
def yL_law : MethodName := ⟨RL, "law", "([I)Z"⟩
abbrev vwCl : List vw_C := [(RX0, TX0, 19), (RX1, TX1, 4), (RX2, TX2, 8), (RX3, TX3, 15), (RX4, TX4, 4), (RX5, TX5, 6), (RX6, TX6, 4), (RX7, TX7, 12), (RX8, TX8, 4), (RX10, TX10, 15), (RX11, TX11, 14), (RX12, TX12, 62)]
end
section
/-! ===== the words of the tables that go over to a callee ===== -/
def mj_tb : List Cond := lw_tbl.filter goodWord
theorem mj_tb_good : GoodIn lw_tbl mj_tb := fun w h => ⟨(List.mem_filter.mp h).1, good_of_word (List.mem_filter.mp h).2⟩
theorem mj_tb_in {i : Nat} {w : Cond} (h : lw_tbl[i]? = some w) (hg : goodWord w = true) : w ∈ mj_tb := List.mem_filter.mpr ⟨List.mem_of_getElem? h, hg⟩
theorem mj_lay0 : ∀ w ∈ u_ws RX0 TX0 19, w ∈ mj_tb := by decide +kernel
theorem mj_lay1 : ∀ w ∈ u_ws RX1 TX1 4, w ∈ mj_tb := by decide +kernel
theorem mj_lay2 : ∀ w ∈ u_ws RX2 TX2 8, w ∈ mj_tb := by decide +kernel
theorem mj_lay3 : ∀ w ∈ u_ws RX3 TX3 15, w ∈ mj_tb := by decide +kernel
theorem mj_lay4 : ∀ w ∈ u_ws RX4 TX4 4, w ∈ mj_tb := by decide +kernel
theorem mj_lay5 : ∀ w ∈ u_ws RX5 TX5 6, w ∈ mj_tb := by decide +kernel
theorem mj_lay6 : ∀ w ∈ u_ws RX6 TX6 4, w ∈ mj_tb := by decide +kernel
theorem mj_lay7 : ∀ w ∈ u_ws RX7 TX7 12, w ∈ mj_tb := by decide +kernel
theorem mj_lay8 : ∀ w ∈ u_ws RX8 TX8 4, w ∈ mj_tb := by decide +kernel
theorem mj_lay9 : ∀ w ∈ u_ws RX10 TX10 15, w ∈ mj_tb := by decide +kernel
theorem mj_lay10 : ∀ w ∈ u_ws RX11 TX11 14, w ∈ mj_tb := by decide +kernel
theorem mj_lay11 : ∀ w ∈ u_ws RX12 TX12 62, w ∈ mj_tb := by decide +kernel
end
section
/-! ===== a small machine over a flat memory: values, memory, heap typing, what a method's code needs ===== -/
abbrev mj_V : Type := Int ⊕ (Int64 ⊕ Option Nat)
abbrev mj_M : Type := (Nat → Nat → Int) × (Nat → Nat → Int64) × (Nat → Nat → Option Nat)
abbrev mj_G : Type := Nat → Nat × Nat
/-- an instruction, its pc, what its pool entry or its target is, a number -/
abbrev mj_E : Type := Instr × Nat × List Nat × Int
abbrev mj_P : Type := Option mj_V → mj_G → mj_M → Prop
abbrev mj_C : Type := Nat → List mj_V → mj_G → mj_M → mj_P → Prop
abbrev mj_L : Type := List (Option mj_V)
def mj_in (z : Int) : Prop := -2147483648 ≤ z ∧ z < 2147483648
def mj_val : mj_V → Value
  | .inl z => .int (Int32.ofInt z)
  | .inr (.inl w) => .long w
  | .inr (.inr r) => va_rf r
def mj_ok : mj_V → Prop
  | .inl z => mj_in z
  | .inr _ => True
/-- what a slot of a sort holds: 0 an int, 1 a long, else a reference -/
def mj_sv (so : Nat) (M : mj_M) (a k : Nat) : Value := match so with
  | 0 => .int (Int32.ofInt (M.1 a k))
  | 1 => .long (M.2.1 a k)
  | _ => va_rf (M.2.2 a k)
def mj_fs (ty : FieldType) : Nat := match ty with
  | .long => 1
  | .object _ => 2
  | .array _ => 2
  | _ => 0
def mj_ty (ci k : Nat) : FieldType := match ci with
  | 0 => tyX0 k
  | 1 => tyX1 k
  | 2 => tyX2 k
  | 3 => tyX3 k
  | 4 => tyX4 k
  | 5 => tyX5 k
  | 6 => tyX6 k
  | 7 => tyX7 k
  | 8 => tyX8 k
  | 9 => tyX10 k
  | 10 => tyX11 k
  | _ => tyX12 k
def mj_so (ci k : Nat) : Nat := mj_fs (mj_ty ci k)
/-- the array types -/
def mj_at (j : Nat) : FieldType := match j with
  | 0 => .int
  | 1 => .byte
  | 2 => .boolean
  | 3 => .long
  | 4 => .array .int
  | 5 => .object "RentRiver$Word"
  | _ => .object "RentRiver$State"
def mj_as (j : Nat) : Nat := mj_fs (mj_at j)
def mj_p0 (M : mj_M) (a k : Nat) (z : Int) : mj_M := (fun x j => if x = a ∧ j = k then z else M.1 x j, M.2.1, M.2.2)
def mj_p1 (M : mj_M) (a k : Nat) (z : Int64) : mj_M := (M.1, fun x j => if x = a ∧ j = k then z else M.2.1 x j, M.2.2)
def mj_p2 (M : mj_M) (a k : Nat) (z : Option Nat) : mj_M := (M.1, M.2.1, fun x j => if x = a ∧ j = k then z else M.2.2 x j)
/-- a new cell at a -/
def mj_g (G : mj_G) (a t n : Nat) : mj_G := fun x => if x = a then (t, n) else G x
def mj_z (M : mj_M) (a : Nat) : mj_M := (fun x j => if x = a then 0 else M.1 x j, fun x j => if x = a then 0 else M.2.1 x j, fun x j => if x = a then none else M.2.2 x j)
/-- n rows behind a -/
def mj_gg (G : mj_G) (a t n t2 k : Nat) : mj_G := fun x => if x = a then (t, n) else if a < x ∧ x ≤ a + n then (t2, k) else G x
def mj_zz (M : mj_M) (a n : Nat) : mj_M := (fun x j => if a ≤ x ∧ x ≤ a + n then 0 else M.1 x j, fun x j => if a ≤ x ∧ x ≤ a + n then 0 else M.2.1 x j, fun x j => if x = a then (if j < n then some (a + 1 + j) else none) else if a ≤ x ∧ x ≤ a + n then none else M.2.2 x j)
def mj_nt : mj_L → Nat → Option mj_V
  | [], _ => none
  | x :: _, 0 => x
  | _ :: t, n + 1 => mj_nt t n
/-- a long that begins one place ahead is spoilt -/
def mj_kl (L : mj_L) (i : Nat) : mj_L := match i with
  | 0 => L
  | j + 1 => match mj_nt L j with
    | some (.inr (.inl _)) => L.set j none
    | _ => L
def mj_s1 (L : mj_L) (i : Nat) (v : mj_V) : mj_L := (mj_kl L i).set i (some v)
def mj_s2 (L : mj_L) (i : Nat) (v : mj_V) : mj_L := ((mj_kl L i).set i (some v)).set (i + 1) none
def mj_cat : List mj_V → Nat
  | [] => 0
  | .inr (.inl _) :: t => 2 + mj_cat t
  | _ :: t => 1 + mj_cat t
def mj_hd (l : List Nat) : Nat := match l with
  | [] => 0
  | x :: _ => x
def mj_h1 (l : List Nat) : Nat := match l with
  | _ :: x :: _ => x
  | _ => 0
def mj_h2 (l : List Nat) : Nat := match l with
  | _ :: _ :: x :: _ => x
  | _ => 0
def mj_h3 (l : List Nat) : Nat := match l with
  | _ :: _ :: _ :: x :: _ => x
  | _ => 0
def mj_h4 (l : List Nat) : Nat := match l with
  | _ :: _ :: _ :: _ :: x :: _ => x
  | _ => 0
-- the rows of the machine, each with what goes on behind it
def mj_ldi (L : mj_L) (i : Nat) (k : mj_V → Prop) : Prop := match mj_nt L i with
  | some (.inl z) => k (.inl z)
  | _ => False
def mj_ldl (L : mj_L) (i : Nat) (k : mj_V → Prop) : Prop := match mj_nt L i with
  | some (.inr (.inl z)) => k (.inr (.inl z))
  | _ => False
def mj_lda (L : mj_L) (i : Nat) (k : mj_V → Prop) : Prop := match mj_nt L i with
  | some (.inr (.inr z)) => k (.inr (.inr z))
  | _ => False
def mj_i1 (st : List mj_V) (k : Int → List mj_V → Prop) : Prop := match st with
  | .inl x :: t => k x t
  | _ => False
def mj_l1 (st : List mj_V) (k : Int64 → List mj_V → Prop) : Prop := match st with
  | .inr (.inl x) :: t => k x t
  | _ => False
def mj_r1 (st : List mj_V) (k : Option Nat → List mj_V → Prop) : Prop := match st with
  | .inr (.inr x) :: t => k x t
  | _ => False
def mj_a1 (st : List mj_V) (k : Nat → List mj_V → Prop) : Prop := match st with
  | .inr (.inr (some x)) :: t => k x t
  | _ => False
/-- a value of category one on top -/
def mj_c1 (st : List mj_V) (k : mj_V → List mj_V → Prop) : Prop := match st with
  | .inl x :: t => k (.inl x) t
  | .inr (.inr x) :: t => k (.inr (.inr x)) t
  | _ => False
def mj_bin (f : Int → Int → Int) (st : List mj_V) (g : Int32 → Int32 → Int32) (k : List mj_V → Prop) : Prop := mj_i1 st fun y st => mj_i1 st fun x st => (mj_in (f x y) ∧ k (.inl (f x y) :: st)) ∨ ∀ z, mj_in z → z = (g (Int32.ofInt x) (Int32.ofInt y)).toInt → k (.inl z :: st)
def mj_op (st : List mj_V) (g : Int32 → Int32 → Int32) (k : List mj_V → Prop) : Prop := mj_i1 st fun y st => mj_i1 st fun x st => ∀ z, mj_in z → z = (g (Int32.ofInt x) (Int32.ofInt y)).toInt → k (.inl z :: st)
def mj_un (st : List mj_V) (g : Int32 → Int32) (k : List mj_V → Prop) : Prop := mj_i1 st fun x st => ∀ z, mj_in z → z = (g (Int32.ofInt x)).toInt → k (.inl z :: st)
def mj_cc (c : ClassFile.Cond) (x y : Int) : Prop := match c with
  | .eq => x = y
  | .ne => x ≠ y
  | .lt => x < y
  | .ge => y ≤ x
  | .gt => y < x
  | .le => x ≤ y
def mj_br (c : Prop) (a b : Prop) : Prop := (c → a) ∧ (¬ c → b)
def mj_rf (r : Option Nat) (k : mj_V → Prop) : Prop := (∀ b, r = some b → k (.inr (.inr (some b)))) ∧ (r = none → k (.inr (.inr none)))
def mj_is (G : mj_G) (a s : Nat) (k : Nat → Nat → Prop) : Prop := ∃ t n, G a = (t, n) ∧ t % 1000 = s ∧ k t n
/-- a cell that may be written -/
def mj_iw (G : mj_G) (a s : Nat) (k : Nat → Nat → Prop) : Prop := ∃ t n, G a = (t, n) ∧ t % 1000 = s ∧ t < 900000 ∧ k t n
def mj_get (ci fk : Nat) (st : List mj_V) (G : mj_G) (M : mj_M) (k : List mj_V → Prop) : Prop := mj_a1 st fun a st => mj_is G a (ci + 1) fun _ _ => match mj_so ci fk with
  | 0 => k (.inl (M.1 a fk) :: st)
  | 1 => k (.inr (.inl (M.2.1 a fk)) :: st)
  | _ => mj_rf (M.2.2 a fk) fun v => k (v :: st)
def mj_put (ci fk : Nat) (st : List mj_V) (G : mj_G) (M : mj_M) (k : List mj_V → mj_M → Prop) : Prop := match mj_so ci fk with
  | 0 => mj_i1 st fun z st => mj_a1 st fun a st => mj_iw G a (ci + 1) fun _ _ => (mj_ty ci fk = .boolean → z = 0 ∨ z = 1) ∧ k st (mj_p0 M a fk z)
  | 1 => mj_l1 st fun z st => mj_a1 st fun a st => mj_iw G a (ci + 1) fun _ _ => k st (mj_p1 M a fk z)
  | _ => mj_r1 st fun z st => mj_a1 st fun a st => mj_iw G a (ci + 1) fun _ _ => k st (mj_p2 M a fk z)
def mj_ald (j : Nat) (st : List mj_V) (G : mj_G) (k : Nat → Nat → List mj_V → Prop) : Prop := mj_i1 st fun i st => mj_a1 st fun a st => mj_is G a (100 + j) fun _ n => 0 ≤ i ∧ i < n ∧ k a i.toNat st
def mj_aldw (j : Nat) (st : List mj_V) (G : mj_G) (k : Nat → Nat → List mj_V → Prop) : Prop := mj_i1 st fun i st => mj_a1 st fun a st => mj_iw G a (100 + j) fun _ n => 0 ≤ i ∧ i < n ∧ k a i.toNat st
def mj_bald (st : List mj_V) (G : mj_G) (k : Nat → Nat → List mj_V → Prop) : Prop := mj_ald 1 st G k ∨ mj_ald 2 st G k
/-- the narrowing of an int that is kept as a byte -/
def mj_nb (z : Int) : Int := (Int32.ofInt z).toInt8.toInt32.toInt
def mj_new (G : mj_G) (M : mj_M) (t n : Nat) (k : Nat → mj_G → mj_M → Prop) : Prop := ∀ a, (∀ x, a ≤ x → G x = (0, 0)) → k a (mj_g G a t n) (mj_z M a)
/-- the first n values of the stack, the deepest first -/
def mj_pop : Nat → List mj_V → List mj_V → (List mj_V → List mj_V → Prop) → Prop
  | 0, acc, st, k => k acc st
  | _ + 1, _, [], _ => False
  | n + 1, acc, v :: st, k => mj_pop n (v :: acc) st k
def mj_ret (r : Option mj_V) (st : List mj_V) : List mj_V := match r with
  | none => st
  | some v => v :: st
/-- a switch's targets, from v on -/
def mj_sw (z : Int) (k : Nat → Prop) : Int → List Nat → Prop
  | _, [] => True
  | v, t :: ts => (z = v → k t) ∧ mj_sw z k (v + 1) ts
def mj_cp0 (M : mj_M) (a b sp dp n : Nat) : mj_M := (fun x j => if x = b ∧ dp ≤ j ∧ j < dp + n then M.1 a (sp + (j - dp)) else M.1 x j, M.2.1, M.2.2)
def mj_cp1 (M : mj_M) (a b sp dp n : Nat) : mj_M := (M.1, fun x j => if x = b ∧ dp ≤ j ∧ j < dp + n then M.2.1 a (sp + (j - dp)) else M.2.1 x j, M.2.2)
def mj_cpy (j : Nat) (st : List mj_V) (G : mj_G) (k : Nat → Nat → Nat → Nat → Nat → List mj_V → Prop) : Prop := mj_i1 st fun n st => mj_i1 st fun dp st => mj_a1 st fun b st => mj_i1 st fun sp st => mj_a1 st fun a st => mj_is G a (100 + j) fun _ na => mj_iw G b (100 + j) fun _ nb => 0 ≤ sp ∧ 0 ≤ dp ∧ 0 ≤ n ∧ sp + n ≤ na ∧ dp + n ≤ nb ∧ mj_cat st ≤ 8 ∧ k a b sp.toNat dp.toNat n.toNat st
/-- Math.max, Math.min, Math.abs, and the copying of arrays -/
def mj_lib (f : Nat) (st : List mj_V) (G : mj_G) (M : mj_M) (k : List mj_V → mj_M → Prop) : Prop := match f with
  | 0 => mj_i1 st fun y st => mj_i1 st fun x st => mj_cat st ≤ 8 ∧ ∀ z, (x < y → z = y) → (¬ x < y → z = x) → k (.inl z :: st) M
  | 1 => mj_i1 st fun y st => mj_i1 st fun x st => mj_cat st ≤ 8 ∧ ∀ z, (y < x → z = y) → (¬ y < x → z = x) → k (.inl z :: st) M
  | 2 => mj_i1 st fun x st => mj_cat st ≤ 8 ∧ ∀ z, mj_in z → (0 ≤ x → z = x) → (x < 0 → x ≠ -2147483648 → z = -x) → k (.inl z :: st) M
  | 3 => mj_cpy 0 st G fun a b sp dp n st => k st (mj_cp0 M a b sp dp n)
  | 4 => mj_cpy 3 st G fun a b sp dp n st => k st (mj_cp1 M a b sp dp n)
  | _ => False
/-! the words: their names, what each says, their codes; their tags; the tag of the list of all -/
def mj_wn : List String := ["TOWN", "WATER", "BID", "NEEDS", "MILLS", "BRIDGES", "FIELDS", "MOVE", "FISH", "PATIENCE", "LET", "SEA", "OR", "AND", "NOT", "SHORES", "THIRSTY", "PONDS", "PURSES", "PAYS", "DRY", "LETTINGS", "GREEN", "PLACE"]
def mj_ww : List Int := [-1, -1, -1, 4, 5, 6, 7, -1, -1, -1, -1, -1, -1, -1, -1, -1, -1, 0, 1, 5, 7, 4, 8, 11]
def mj_wc : List Int64 := [671470, 24170674, 2340, 464036, 435596, 86282469, 6591876, 442053, 206440, 551510259813, 12468, 19617, 498, 1476, 14836, 20201029, 21753319065, 540100, 17484389, 525604, 4697, 398995, 7935150, 17171557]
def mj_wt (k : Nat) : Nat × Nat := cond (Nat.blt k 24) (900050 + 1000 * k, 0) (900105, 24)
def mj_gw (fk : Nat) (st : List mj_V) (G : mj_G) (k : List mj_V → Prop) : Prop := mj_a1 st fun a st => mj_is G a 50 fun t _ => match fk with
  | 0 => k (.inr (.inl (mj_wc.getD ((t - 900050) / 1000) 0)) :: st)
  | _ => k (.inl (mj_ww.getD ((t - 900050) / 1000) 0) :: st)
def mj_dv (st : List mj_V) (g : Int32 → Int32 → Int32) (k : List mj_V → Prop) : Prop := mj_i1 st fun y st => mj_i1 st fun x st => y ≠ 0 ∧ ∀ z, mj_in z → z = (g (Int32.ofInt x) (Int32.ofInt y)).toInt → k (.inl z :: st)
def mj_ll (st : List mj_V) (g : Int64 → Int64 → Int64) (k : List mj_V → Prop) : Prop := mj_l1 st fun y st => mj_l1 st fun x st => k (.inr (.inl (g x y)) :: st)
def mj_ls (st : List mj_V) (g : Int64 → Int64 → Int64) (k : List mj_V → Prop) : Prop := mj_i1 st fun y st => mj_l1 st fun x st => k (.inr (.inl (g x ((Int32.ofInt y).toInt64 &&& 63))) :: st)
def mj_rc (c : ClassFile.ACond) (x y : Option Nat) : Prop := match c with
  | .eq => x = y
  | .ne => x ≠ y
/-- n instructions, then K (mcs: what a callee makes, cells and slots) -/
def mj_x (mcs : Nat → Nat × Nat) (C : mj_C) (full : List mj_E) (Q : mj_P) (K : List mj_E → mj_L → List mj_V → mj_G → mj_M → Nat → Nat → Prop) : Nat → List mj_E → mj_L → List mj_V → mj_G → mj_M → Nat → Nat → Prop
  | 0, rest, L, st, G, M, cb, sb => K rest L st G M cb sb
  | _ + 1, [], _, _, _, _, _, _ => False
  | n + 1, x :: rest, L, st, G, M, cb, sb => match x.1 with
    | .iload_n i => mj_ldi L i.val fun v => mj_x mcs C full Q K n rest L (v :: st) G M cb sb
    | .iload i => mj_ldi L i fun v => mj_x mcs C full Q K n rest L (v :: st) G M cb sb
    | .lload_n i => mj_ldl L i.val fun v => mj_x mcs C full Q K n rest L (v :: st) G M cb sb
    | .lload i => mj_ldl L i fun v => mj_x mcs C full Q K n rest L (v :: st) G M cb sb
    | .aload_n i => mj_lda L i.val fun v => mj_x mcs C full Q K n rest L (v :: st) G M cb sb
    | .aload i => mj_lda L i fun v => mj_x mcs C full Q K n rest L (v :: st) G M cb sb
    | .istore_n i => mj_i1 st fun z st => mj_x mcs C full Q K n rest (mj_s1 L i.val (.inl z)) st G M cb sb
    | .istore i => mj_i1 st fun z st => mj_x mcs C full Q K n rest (mj_s1 L i (.inl z)) st G M cb sb
    | .lstore_n i => mj_l1 st fun z st => mj_x mcs C full Q K n rest (mj_s2 L i.val (.inr (.inl z))) st G M cb sb
    | .lstore i => mj_l1 st fun z st => mj_x mcs C full Q K n rest (mj_s2 L i (.inr (.inl z))) st G M cb sb
    | .astore_n i => mj_r1 st fun z st => mj_x mcs C full Q K n rest (mj_s1 L i.val (.inr (.inr z))) st G M cb sb
    | .astore i => mj_r1 st fun z st => mj_x mcs C full Q K n rest (mj_s1 L i (.inr (.inr z))) st G M cb sb
    | .iinc i c => mj_ldi L i fun v => mj_i1 [v] fun z _ => mj_in (z + c) ∧ mj_x mcs C full Q K n rest (mj_s1 L i (.inl (z + c))) st G M cb sb
    | .iconst z => mj_x mcs C full Q K n rest L (.inl z :: st) G M cb sb
    | .bipush z => mj_x mcs C full Q K n rest L (.inl z :: st) G M cb sb
    | .sipush z => mj_x mcs C full Q K n rest L (.inl z :: st) G M cb sb
    | .ldc _ => mj_x mcs C full Q K n rest L (.inl x.2.2.2 :: st) G M cb sb
    | .ldc2_w _ => mj_x mcs C full Q K n rest L (.inr (.inl (Int64.ofInt x.2.2.2)) :: st) G M cb sb
    | .lconst z => mj_x mcs C full Q K n rest L (.inr (.inl (Int64.ofNat z.val)) :: st) G M cb sb
    | .aconst_null => mj_x mcs C full Q K n rest L (.inr (.inr none) :: st) G M cb sb
    | .iadd => mj_bin (fun x y => x + y) st (fun x y => x + y) fun st => mj_x mcs C full Q K n rest L st G M cb sb
    | .isub => mj_bin (fun x y => x - y) st (fun x y => x - y) fun st => mj_x mcs C full Q K n rest L st G M cb sb
    | .imul => mj_bin (fun x y => x * y) st (fun x y => x * y) fun st => mj_x mcs C full Q K n rest L st G M cb sb
    | .iand => mj_op st (fun x y => x &&& y) fun st => mj_x mcs C full Q K n rest L st G M cb sb
    | .ior => mj_op st (fun x y => x ||| y) fun st => mj_x mcs C full Q K n rest L st G M cb sb
    | .ishl => mj_op st (fun x y => x <<< (y &&& 31)) fun st => mj_x mcs C full Q K n rest L st G M cb sb
    | .ishr => mj_op st (fun x y => x >>> (y &&& 31)) fun st => mj_x mcs C full Q K n rest L st G M cb sb
    | .iushr => mj_op st (fun x y => (x.toUInt32 >>> (y.toUInt32 &&& Int32.toUInt32 31)).toInt32) fun st => mj_x mcs C full Q K n rest L st G M cb sb
    | .ineg => mj_un st (fun x => -x) fun st => mj_x mcs C full Q K n rest L st G M cb sb
    | .i2b => mj_un st (fun x => x.toInt8.toInt32) fun st => mj_x mcs C full Q K n rest L st G M cb sb
    | .dup => mj_c1 st fun v st => mj_x mcs C full Q K n rest L (v :: v :: st) G M cb sb
    | .dup2 => mj_c1 st fun v st => mj_c1 st fun w st => mj_x mcs C full Q K n rest L (v :: w :: v :: w :: st) G M cb sb
    | .pop => mj_c1 st fun _ st => mj_x mcs C full Q K n rest L st G M cb sb
    | .ifCond c _ => mj_i1 st fun z st => mj_br (mj_cc c z 0) (mj_x mcs C full Q K n (full.drop (mj_hd x.2.2.1)) L st G M cb sb) (mj_x mcs C full Q K n rest L st G M cb sb)
    | .if_icmp c _ => mj_i1 st fun y st => mj_i1 st fun z st => mj_br (mj_cc c z y) (mj_x mcs C full Q K n (full.drop (mj_hd x.2.2.1)) L st G M cb sb) (mj_x mcs C full Q K n rest L st G M cb sb)
    | .ifnull _ => mj_r1 st fun z st => mj_br (z = none) (mj_x mcs C full Q K n (full.drop (mj_hd x.2.2.1)) L st G M cb sb) (mj_x mcs C full Q K n rest L st G M cb sb)
    | .ifnonnull _ => mj_r1 st fun z st => mj_br (z ≠ none) (mj_x mcs C full Q K n (full.drop (mj_hd x.2.2.1)) L st G M cb sb) (mj_x mcs C full Q K n rest L st G M cb sb)
    | .goto _ => mj_x mcs C full Q K n (full.drop (mj_hd x.2.2.1)) L st G M cb sb
    | .getfield _ => x.2.2.1 ≠ [] ∧ mj_br (mj_hd x.2.2.1 = 49) (mj_gw (mj_h1 x.2.2.1) st G fun st => mj_x mcs C full Q K n rest L st G M cb sb) (mj_get (mj_hd x.2.2.1) (mj_h1 x.2.2.1) st G M fun st => mj_x mcs C full Q K n rest L st G M cb sb)
    | .putfield _ => x.2.2.1 ≠ [] ∧ mj_put (mj_hd x.2.2.1) (mj_h1 x.2.2.1) st G M fun st M => mj_x mcs C full Q K n rest L st G M cb sb
    | .iaload => mj_ald 0 st G fun a i st => mj_x mcs C full Q K n rest L (.inl (M.1 a i) :: st) G M cb sb
    | .baload => mj_bald st G fun a i st => mj_x mcs C full Q K n rest L (.inl (M.1 a i) :: st) G M cb sb
    | .laload => mj_ald 3 st G fun a i st => mj_x mcs C full Q K n rest L (.inr (.inl (M.2.1 a i)) :: st) G M cb sb
    | .aaload => mj_ald (mj_hd x.2.2.1) st G fun a i st => mj_rf (M.2.2 a i) fun v => mj_x mcs C full Q K n rest L (v :: st) G M cb sb
    | .iastore => mj_i1 st fun z st => mj_aldw 0 st G fun a i st => mj_x mcs C full Q K n rest L st G (mj_p0 M a i z) cb sb
    | .bastore => mj_i1 st fun z st => (mj_aldw 1 st G fun a i st => mj_x mcs C full Q K n rest L st G (mj_p0 M a i (mj_nb z)) cb sb) ∨ ((z = 0 ∨ z = 1) ∧ mj_aldw 2 st G fun a i st => mj_x mcs C full Q K n rest L st G (mj_p0 M a i z) cb sb)
    | .lastore => mj_l1 st fun z st => mj_aldw 3 st G fun a i st => mj_x mcs C full Q K n rest L st G (mj_p1 M a i z) cb sb
    | .anewarray _ => mj_i1 st fun z st => 0 ≤ z ∧ z ≤ 100000 ∧ 1 ≤ cb ∧ z.toNat ≤ sb ∧ ∃ t, t % 1000 = 100 + mj_hd x.2.2.1 ∧ mj_new G M t z.toNat fun a G M => mj_x mcs C full Q K n rest L (.inr (.inr (some a)) :: st) G M (cb - 1) (sb - z.toNat)
    | .aastore => mj_r1 st fun z st => mj_aldw (mj_hd x.2.2.1) st G fun a i st => (∀ b, z = some b → (mj_hd x.2.2.1 = 6 ∧ mj_is G b 7 fun _ _ => True) ∨ (mj_hd x.2.2.1 = 5 ∧ mj_is G b 50 fun _ _ => True)) ∧ mj_x mcs C full Q K n rest L st G (mj_p2 M a i z) cb sb
    | .tableswitch _ lo hi _ => mj_i1 st fun z st => (z < lo ∨ hi < z → mj_x mcs C full Q K n (full.drop (mj_hd x.2.2.1)) L st G M cb sb) ∧ mj_sw z (fun t => mj_x mcs C full Q K n (full.drop t) L st G M cb sb) lo (x.2.2.1.drop 1)
    | .arraylength => mj_a1 st fun a st => ∃ t k j, G a = (t, k) ∧ t % 1000 = 100 + j ∧ j < 7 ∧ mj_in k ∧ mj_x mcs C full Q K n rest L (.inl k :: st) G M cb sb
    | .newarray _ => mj_i1 st fun z st => 0 ≤ z ∧ z ≤ 100000 ∧ 1 ≤ cb ∧ z.toNat ≤ sb ∧ ∃ t, t % 1000 = 100 + mj_hd x.2.2.1 ∧ mj_new G M t z.toNat fun a G M => mj_x mcs C full Q K n rest L (.inr (.inr (some a)) :: st) G M (cb - 1) (sb - z.toNat)
    | .multianewarray _ _ => mj_i1 st fun z st => mj_i1 st fun y st => 0 ≤ z ∧ z ≤ 1000 ∧ 0 ≤ y ∧ y ≤ 1000 ∧ 1 + y.toNat ≤ cb ∧ y.toNat + y.toNat * z.toNat ≤ sb ∧ ∃ t t2, t % 1000 = 104 ∧ t2 % 1000 = 100 ∧ ∀ a, (∀ x, a ≤ x → G x = (0, 0)) → mj_x mcs C full Q K n rest L (.inr (.inr (some a)) :: st) (mj_gg G a t y.toNat t2 z.toNat) (mj_zz M a y.toNat) (cb - (1 + y.toNat)) (sb - (y.toNat + y.toNat * z.toNat))
    | .new _ => x.2.2.1 ≠ [] ∧ 1 ≤ cb ∧ mj_h1 x.2.2.1 ≤ sb ∧ ∃ t, t % 1000 = mj_hd x.2.2.1 + 1 ∧ mj_new G M t 0 fun a G M => mj_x mcs C full Q K n rest L (.inr (.inr (some a)) :: st) G M (cb - 1) (sb - mj_h1 x.2.2.1)
    | .invokevirtual _ => x.2.2.1 ≠ [] ∧ mj_pop (mj_h1 x.2.2.1) [] st fun As st => mj_a1 st fun a st => mj_is G a (mj_h2 x.2.2.1 + 1) fun _ _ => mj_cat st ≤ 8 ∧ (mcs (mj_hd x.2.2.1)).1 ≤ cb ∧ (mcs (mj_hd x.2.2.1)).2 ≤ sb ∧ C (mj_hd x.2.2.1) (.inr (.inr (some a)) :: As) G M fun r G M => mj_x mcs C full Q K n rest L (mj_ret r st) G M (cb - (mcs (mj_hd x.2.2.1)).1) (sb - (mcs (mj_hd x.2.2.1)).2)
    | .invokestatic _ => match x.2.2.1 with
      | [f, _] => mj_lib f st G M fun st M => mj_x mcs C full Q K n rest L st G M cb sb
      | _ => x.2.2.1 ≠ [] ∧ mj_pop (mj_h1 x.2.2.1) [] st fun As st => mj_cat st ≤ 8 ∧ (mcs (mj_hd x.2.2.1)).1 ≤ cb ∧ (mcs (mj_hd x.2.2.1)).2 ≤ sb ∧ C (mj_hd x.2.2.1) As G M fun r G M => mj_x mcs C full Q K n rest L (mj_ret r st) G M (cb - (mcs (mj_hd x.2.2.1)).1) (sb - (mcs (mj_hd x.2.2.1)).2)
    | .invokespecial _ => match x.2.2.1 with
      | [] => mj_a1 st fun _ st => mj_cat st ≤ 8 ∧ mj_x mcs C full Q K n rest L st G M cb sb
      | y :: _ => mj_pop (mj_h1 x.2.2.1) [] st fun As st => mj_a1 st fun a st => mj_is G a (mj_h2 x.2.2.1 + 1) fun _ _ => mj_cat st ≤ 8 ∧ (mcs y).1 ≤ cb ∧ (mcs y).2 ≤ sb ∧ C y (.inr (.inr (some a)) :: As) G M fun r G M => mj_x mcs C full Q K n rest L (mj_ret r st) G M (cb - (mcs y).1) (sb - (mcs y).2)
    | .ireturn => mj_i1 st fun z st => st = [] ∧ (x.2.2.2 = 1 → z = 0 ∨ z = 1) ∧ Q (some (.inl z)) G M
    | .ldc_w _ => mj_x mcs C full Q K n rest L (.inl x.2.2.2 :: st) G M cb sb
    | .idiv => mj_dv st (fun x y => x / y) fun st => mj_x mcs C full Q K n rest L st G M cb sb
    | .irem => mj_dv st (fun x y => x - x / y * y) fun st => mj_x mcs C full Q K n rest L st G M cb sb
    | .lor => mj_ll st (fun x y => x ||| y) fun st => mj_x mcs C full Q K n rest L st G M cb sb
    | .land => mj_ll st (fun x y => x &&& y) fun st => mj_x mcs C full Q K n rest L st G M cb sb
    | .lshl => mj_ls st (fun x y => x <<< y) fun st => mj_x mcs C full Q K n rest L st G M cb sb
    | .lshr => mj_ls st (fun x y => x >>> y) fun st => mj_x mcs C full Q K n rest L st G M cb sb
    | .lcmp => mj_l1 st fun y st => mj_l1 st fun w st => ∀ z, mj_in z → z = (lg_cmp w y).toInt → mj_x mcs C full Q K n rest L (.inl z :: st) G M cb sb
    | .i2l => mj_i1 st fun z st => mj_x mcs C full Q K n rest L (.inr (.inl (Int32.ofInt z).toInt64) :: st) G M cb sb
    | .l2i => mj_l1 st fun w st => ∀ z, mj_in z → z = w.toInt32.toInt → mj_x mcs C full Q K n rest L (.inl z :: st) G M cb sb
    | .if_acmp c _ => mj_r1 st fun y st => mj_r1 st fun z st => mj_br (mj_rc c z y) (mj_x mcs C full Q K n (full.drop (mj_hd x.2.2.1)) L st G M cb sb) (mj_x mcs C full Q K n rest L st G M cb sb)
    | .getstatic _ => x.2.2.1 ≠ [] ∧ ∀ a, G a = mj_wt (mj_hd x.2.2.1) → mj_x mcs C full Q K n rest L (.inr (.inr (some a)) :: st) G M cb sb
    | .areturn => mj_r1 st fun z st => st = [] ∧ Q (some (.inr (.inr z))) G M
    | .return_ => st = [] ∧ Q none G M
    | _ => False
abbrev mj_S : Type := List mj_E → mj_L → List mj_V → mj_G → mj_M → Nat → Nat → Prop
/-- it comes to an end with Q: the least of what is closed under the machine's step -/
def mj_W (mcs : Nat → Nat × Nat) (C : mj_C) (full : List mj_E) (Q : mj_P) : mj_S := fun rest L st G M cb sb => ∀ K : mj_S, (∀ rest L st G M cb sb, mj_x mcs C full Q K 1 rest L st G M cb sb → K rest L st G M cb sb) → K rest L st G M cb sb
end
section
/-! ===== the small machine and the machine: heaps, locals, the judgement ===== -/
theorem mj_ti {z : Int} (h : mj_in z) : (Int32.ofInt z).toInt = z := by
  obtain ⟨h1, h2⟩ := h
  rw [Int32.toInt_ofInt]
  exact Int.bmod_eq_of_le (by simp [Int32.size]; omega) (by simp [Int32.size]; omega)
theorem mj_it (x : Int32) : Int32.ofInt x.toInt = x := Int32.ofInt_toInt x
theorem mj_rng (x : Int32) : mj_in x.toInt := ⟨by have := Int32.le_toInt x; simp at this; omega, by have := Int32.toInt_lt x; simp at this; omega⟩
theorem mj_lt {x y : Int} (hx : mj_in x) (hy : mj_in y) : Int32.ofInt x < Int32.ofInt y ↔ x < y := by rw [Int32.lt_iff_toInt_lt, mj_ti hx, mj_ti hy]
theorem mj_le {x y : Int} (hx : mj_in x) (hy : mj_in y) : Int32.ofInt x ≤ Int32.ofInt y ↔ x ≤ y := by rw [Int32.le_iff_toInt_le, mj_ti hx, mj_ti hy]
theorem mj_eq {x y : Int} (hx : mj_in x) (hy : mj_in y) : Int32.ofInt x = Int32.ofInt y ↔ x = y := ⟨fun h => by rw [← mj_ti hx, ← mj_ti hy, h], fun h => by rw [h]⟩
theorem mj_nn {z : Int} (hz : mj_in z) (h : 0 ≤ z) : ¬ Int32.ofInt z < 0 := by
  rw [Int32.lt_iff_toInt_lt, mj_ti hz]; simp; omega
theorem mj_nat {z : Int} (hz : mj_in z) : (Int32.ofInt z).toNatClampNeg = z.toNat := by
  show (Int32.ofInt z).toInt.toNat = _
  rw [mj_ti hz]
/-! the locals -/
def mj_asc : Nat → mj_L → List (Nat × Value)
  | _, [] => []
  | i, none :: t => mj_asc (i + 1) t
  | i, some v :: t => (i, mj_val v) :: mj_asc (i + 1) t
theorem mj_asc_of : ∀ (L : mj_L) (i j : Nat) (v : mj_V), mj_nt L j = some v → (i + j, mj_val v) ∈ mj_asc i L
  | [], _, _, _, h => by simp [mj_nt] at h
  | none :: t, i, 0, v, h => by simp [mj_nt] at h
  | none :: t, i, j + 1, v, h => by
    have := mj_asc_of t (i + 1) j v h
    rw [show i + 1 + j = i + (j + 1) by omega] at this
    exact this
  | some w :: t, i, 0, v, h => by
    have e : w = v := Option.some.inj h
    subst e
    exact List.mem_cons_self
  | some w :: t, i, j + 1, v, h => by
    have := mj_asc_of t (i + 1) j v h
    rw [show i + 1 + j = i + (j + 1) by omega] at this
    exact List.mem_cons_of_mem _ this
theorem mj_of_asc : ∀ (L : mj_L) (i : Nat) (q : Nat × Value), q ∈ mj_asc i L → ∃ (j : Nat) (v : mj_V), q = (i + j, mj_val v) ∧ mj_nt L j = some v
  | [], _, _, h => by simp [mj_asc] at h
  | none :: t, i, q, h => by
    obtain ⟨j, v, h1, h2⟩ := mj_of_asc t (i + 1) q h
    exact ⟨j + 1, v, by rw [h1, show i + 1 + j = i + (j + 1) by omega], h2⟩
  | some w :: t, i, q, h => by
    rcases List.mem_cons.mp h with h | h
    · exact ⟨0, w, h, rfl⟩
    · obtain ⟨j, v, h1, h2⟩ := mj_of_asc t (i + 1) q h
      exact ⟨j + 1, v, by rw [h1, show i + 1 + j = i + (j + 1) by omega], h2⟩
theorem mj_nt_set : ∀ (L : mj_L) (i j : Nat) (x : Option mj_V), mj_nt (L.set i x) j = if j = i ∧ i < L.length then x else mj_nt L j
  | [], i, j, x => by simp [mj_nt]
  | y :: t, 0, 0, x => by simp [mj_nt]
  | y :: t, 0, j + 1, x => by simp [mj_nt]
  | y :: t, i + 1, 0, x => by simp [mj_nt]
  | y :: t, i + 1, j + 1, x => by
    show mj_nt (t.set i x) j = _
    rw [mj_nt_set t i j x]
    simp [mj_nt]
theorem mj_nt_mem : ∀ (L : mj_L) (j : Nat) (v : mj_V), mj_nt L j = some v → some v ∈ L
  | [], _, _, h => by simp [mj_nt] at h
  | y :: t, 0, v, h => by
    have e : y = some v := h
    rw [e]; exact List.mem_cons_self
  | y :: t, j + 1, v, h => List.mem_cons_of_mem _ (mj_nt_mem t j v h)
def mj_LO (ls : Array Slot) (nL : Nat) (L : mj_L) : Prop := lv_has ls nL (mj_asc 0 L) ∧ L.length = nL ∧ ∀ j v, mj_nt L j = some v → mj_ok v
theorem mj_LO.at {ls : Array Slot} {nL : Nat} {L : mj_L} (h : mj_LO ls nL L) {i : Nat} {v : mj_V} (hv : mj_nt L i = some v) : ls[i]? = some (.val (mj_val v)) := by
  have := h.1.2.2 _ (mj_asc_of L 0 i v hv)
  simpa using this
theorem mj_cat2 (v : mj_V) : ((mj_val v).category == 2) = true ↔ ∃ w, v = .inr (.inl w) := by
  rcases v with z | w | r
  · simp [mj_val, Value.category]
  · simp [mj_val, Value.category]
  · cases r <;> simp [mj_val, va_rf, Value.category]
theorem mj_kl_len (L : mj_L) (i : Nat) : (mj_kl L i).length = L.length := by
  unfold mj_kl
  cases i with
  | zero => rfl
  | succ j =>
    dsimp only
    split <;> simp
theorem mj_kl_nt {L : mj_L} {i j : Nat} {v : mj_V} (h : mj_nt (mj_kl L i) j = some v) : mj_nt L j = some v ∧ ¬ (j + 1 = i ∧ ∃ w, v = .inr (.inl w)) := by
  unfold mj_kl at h
  cases i with
  | zero => exact ⟨h, fun q => by omega⟩
  | succ k =>
    dsimp only at h
    split at h
    · rename_i w hw
      rw [mj_nt_set] at h
      split at h
      · cases h
      · rename_i hn
        refine ⟨h, fun q => ?_⟩
        have e : j = k := by omega
        subst e
        have hl : ¬ j < L.length := fun z => hn ⟨rfl, z⟩
        have : ∀ (L : mj_L) (j : Nat), ¬ j < L.length → mj_nt L j = none := by
          intro L
          induction L with
          | nil => intro j _; rfl
          | cons y t ih =>
            intro j hj
            cases j with
            | zero => simp at hj
            | succ j => exact ih j (by simp at hj; omega)
        rw [this L j hl] at h
        cases h
    · rename_i hw
      refine ⟨h, fun q => ?_⟩
      obtain ⟨q1, w, q2⟩ := q
      have e : j = k := by omega
      subst e
      exact hw w (by rw [h, q2])
theorem mj_LO.st1 {ls ls' : Array Slot} {nL i : Nat} {L : mj_L} {v : mj_V} (h : mj_LO ls nL L) (hi : i < nL) (hv : mj_ok v)
    (h' : lv_has ls' nL ((i, mj_val v) :: (mj_asc 0 L).filter (fun q => !(q.1 == i) && !(q.1 + 1 == i && q.2.category == 2)))) : mj_LO ls' nL (mj_s1 L i v) := by
  refine ⟨⟨h'.1, h'.2.1, fun q hq => h'.2.2 q ?_⟩, ?_, ?_⟩
  · obtain ⟨j, w, rfl, hw⟩ := mj_of_asc _ _ _ hq
    unfold mj_s1 at hw
    rw [mj_nt_set] at hw
    split at hw
    · rename_i hc
      have e : v = w := Option.some.inj hw
      rw [e, hc.1]; simp
    · rename_i hc
      have hj : j ≠ i := fun q => hc ⟨q, by rw [mj_kl_len, h.2.1]; exact hi⟩
      obtain ⟨h1, h2⟩ := mj_kl_nt hw
      refine List.mem_cons_of_mem _ (List.mem_filter.mpr ⟨mj_asc_of L 0 j w h1, ?_⟩)
      have e1 : (0 + j == i) = false := by simp; exact hj
      rw [Bool.and_eq_true]
      refine ⟨by simp; exact hj, ?_⟩
      rw [Bool.not_eq_true', Bool.and_eq_false_iff]
      by_cases hji : j + 1 = i
      · right
        have := mt (fun q => (⟨hji, (mj_cat2 w).mp q⟩ : j + 1 = i ∧ ∃ w', w = .inr (.inl w'))) h2
        simpa using this
      · left
        simp; exact hji
  · unfold mj_s1; rw [List.length_set, mj_kl_len]; exact h.2.1
  · intro j w hw
    unfold mj_s1 at hw
    rw [mj_nt_set] at hw
    split at hw
    · have e : v = w := Option.some.inj hw
      rw [← e]; exact hv
    · exact h.2.2 j w (mj_kl_nt hw).1
theorem mj_LO.st2 {ls ls' : Array Slot} {nL i : Nat} {L : mj_L} {v : mj_V} (h : mj_LO ls nL L) (hi : i + 1 < nL) (hv : mj_ok v)
    (h' : lv_has ls' nL ((i, mj_val v) :: (mj_asc 0 L).filter (fun q => !(q.1 == i) && (!(q.1 == i + 1) && !(q.1 + 1 == i && q.2.category == 2))))) : mj_LO ls' nL (mj_s2 L i v) := by
  refine ⟨⟨h'.1, h'.2.1, fun q hq => h'.2.2 q ?_⟩, ?_, ?_⟩
  · obtain ⟨j, w, rfl, hw⟩ := mj_of_asc _ _ _ hq
    unfold mj_s2 at hw
    rw [mj_nt_set] at hw
    split at hw
    · cases hw
    · rename_i hc0
      have hj1 : j ≠ i + 1 := fun q => hc0 ⟨q, by rw [List.length_set, mj_kl_len, h.2.1]; exact hi⟩
      rw [mj_nt_set] at hw
      split at hw
      · rename_i hc
        have e : v = w := Option.some.inj hw
        rw [e, hc.1]; simp
      · rename_i hc
        have hj : j ≠ i := fun q => hc ⟨q, by rw [mj_kl_len, h.2.1]; omega⟩
        obtain ⟨h1, h2⟩ := mj_kl_nt hw
        refine List.mem_cons_of_mem _ (List.mem_filter.mpr ⟨mj_asc_of L 0 j w h1, ?_⟩)
        rw [Bool.and_eq_true, Bool.and_eq_true]
        refine ⟨by simp; exact hj, by simp; exact hj1, ?_⟩
        rw [Bool.not_eq_true', Bool.and_eq_false_iff]
        by_cases hji : j + 1 = i
        · right
          have := mt (fun q => (⟨hji, (mj_cat2 w).mp q⟩ : j + 1 = i ∧ ∃ w', w = .inr (.inl w'))) h2
          simpa using this
        · left
          simp; exact hji
  · unfold mj_s2; rw [List.length_set, List.length_set, mj_kl_len]; exact h.2.1
  · intro j w hw
    unfold mj_s2 at hw
    rw [mj_nt_set] at hw
    split at hw
    · cases hw
    · rw [mj_nt_set] at hw
      split at hw
      · have e : v = w := Option.some.inj hw
        rw [← e]; exact hv
      · exact h.2.2 j w (mj_kl_nt hw).1
/-! the heap -/
theorem mj_bare (vm : Vm) (comp : ClassId) : (vm.bare.classes.findIdx? fun (x : Class) => match x.kind with | .array component _ => component == comp | _ => false) = (vm.classes.findIdx? fun (x : Class) => match x.kind with | .array component _ => component == comp | _ => false) := by
  simp only [Vm.bare, Array.findIdx?_map]
  rfl
theorem mj_aoa {t : FieldType} {u U : State} (hvm : u.vm.Alike U.vm) (h : (Cond.arrayOver (.array t)).before #[] u = true) : (Cond.arrayOver (.array t)).before #[] U = true := by
  obtain ⟨comp, c, k, h1, h2, h3, h4, h5⟩ := arrayOverA_spec h
  obtain ⟨k', hk', he⟩ := hvm.2.2 _ _ h3
  have hi : (U.vm.classes.findIdx? fun (x : Class) => match x.kind with | .array component _ => component == comp | _ => false) = some c := by
    rw [← mj_bare]
    first | rw [hvm.bare_eq] | rw [← hvm.bare_eq]
    rw [mj_bare]
    exact h2
  have hkind : k'.kind = .array comp (.array t) := by rw [he]; exact h4
  have f1 : U.vm.findClass (FieldType.array t).toString = some comp := by rw [hvm.findClass]; exact h1
  have f2 : U.vm.findClass ("[" ++ (FieldType.array t).toString) = some c := by rw [hvm.findClass]; exact h5
  unfold Cond.before Cond.holds
  simp only [Cond.value]
  rw [f1, Option.bind_some]
  refine (congrArg (fun o : Option Nat => (o.bind (fun c => (U.vm.classes[c]?).map fun (k : Class) => match k.kind with | .array _ ty => decide (ty = FieldType.array t) && decide (U.vm.findClass ("[" ++ (FieldType.array t).toString) = some c) | _ => false) == some true)) hi).trans ?_
  simp [hk', hkind, f2]
def mj_cn (j : Nat) : String := match j with
  | 5 => "RentRiver$Word"
  | _ => "RentRiver$State"
def mj_K (D : va_G) (dA : Nat → ClassId) (U : State) : Prop :=
  (∀ (ci : Nat) (q : vw_C), vwCl[ci]? = some q → u_Kn U q.1 q.2.1 q.2.2 (D.1 ci) (D.2 ci)) ∧ (∀ j : Nat, j < 7 → U.vm.findClass ("[" ++ (mj_at j).toString) = some (dA j) ∧ ArrOfT U (dA j) (mj_at j)) ∧
  (Cond.arrayOver (.array .int)).before #[] U = true ∧ ∀ j : Nat, j = 5 ∨ j = 6 → va_AO (mj_cn j) U ∧ va_RA U (dA j) (.object (mj_cn j))
theorem mj_K.moved {D : va_G} {dA : Nat → ClassId} {u U : State} (hvm : u.vm.Alike U.vm) (h : mj_K D dA u) : mj_K D dA U :=
  ⟨fun ci q hq => u_Kn_moved hvm (h.1 ci q hq), fun j hj => ⟨by rw [hvm.findClass]; exact (h.2.1 j hj).1, arrOfT_moved hvm (h.2.1 j hj).2⟩, mj_aoa hvm h.2.2.1, fun j hj => ⟨(h.2.2.2 j hj).1.moved hvm, (h.2.2.2 j hj).2.moved hvm⟩⟩
/-- the words' addresses and tags, and the list of all -/
def mj_HW (dA : Nat → ClassId) (G : mj_G) : Prop := (∀ k, k < 24 → G (dA (100 + k)) = (900050 + 1000 * k, 0)) ∧ (∀ a t n, G a = (t, n) → t % 1000 = 50 → ∃ k, k < 24 ∧ t = 900050 + 1000 * k ∧ a = dA (100 + k)) ∧ G (dA 99) = (900105, 24)
/-- the words in the heap, and the statics that hold them -/
def mj_EW (dA : Nat → ClassId) (B : Nat) (U : State) (H : Heap) : Prop := va_En RX9 "LRentRiver$Word;" mj_wn [(RX9, "what", "I", mj_ww.map Int32.ofInt)] (fun k => dA (100 + k)) (fun q => B ≤ q) U H ∧ va_Ef 24 RX9 "code" "J" (fun k => .long (mj_wc.getD k 0)) (fun k => dA (100 + k)) (fun q => B ≤ q) U H ∧ va_Z RX9 "ALL" "[LRentRiver$Word;" (.ref (dA 99)) (fun q => B ≤ q) U H
theorem mj_EW.go {dA : Nat → ClassId} {B : Nat} {s U : State} {H : Heap} {locs : List Loc} (h : mj_EW dA B s s.heap) (hS : va_S (fun q => B ≤ q) s.heap H locs) (hU : U.heap = H) (hv : s.vm.Alike U.vm) : mj_EW dA B U U.heap := by
  rw [hU]
  exact ⟨(h.1.kept hS.2.1).moved hv, (h.2.1.kept hS.2.1).moved hv, (h.2.2.kept hS.2.1).moved hv⟩
theorem mj_HW.add {dA : Nat → ClassId} {G G' : mj_G} {N : Nat} (h : mj_HW dA G) (hN : ∀ x, N ≤ x → G x = (0, 0)) (h1 : ∀ x, x < N → G' x = G x) (h2 : ∀ x t n, N ≤ x → G' x = (t, n) → t % 1000 ≠ 50) : mj_HW dA G' := by
  have lt : ∀ x t n, G x = (t, n) → t ≠ 0 → x < N := fun x t n hx ht => by
    rcases Nat.lt_or_ge x N with q | q
    · exact q
    · have := hN x q
      rw [hx] at this
      exact absurd (Prod.mk.inj this).1 ht
  refine ⟨fun k hk => ?_, fun a t n ha ht => ?_, ?_⟩
  · have e := h.1 k hk
    rw [h1 _ (lt _ _ _ e (by omega))]; exact e
  · rcases Nat.lt_or_ge a N with q | q
    · rw [h1 a q] at ha; exact h.2.1 a t n ha ht
    · exact absurd ht (h2 a t n q ha)
  · have e := h.2.2
    rw [h1 _ (lt _ _ _ e (by omega))]; exact e
def mj_H (D : va_G) (dA : Nat → ClassId) (B : Nat) (G : mj_G) (M : mj_M) (H : Heap) : Prop :=
  (∀ a k, mj_in (M.1 a k)) ∧ ((∀ x, H.size ≤ x → G x = (0, 0)) ∧ mj_HW dA G) ∧ ∀ a t n, G a = (t, n) → t ≠ 0 → (t < 900000 → B ≤ a) ∧
    (∀ (ci : Nat) (r : vw_C), t % 1000 = ci + 1 → vwCl[ci]? = some r → t_OB a (D.1 ci) r.2.2 (D.2 ci) H (fun k => mj_sv (mj_so ci k) M a k)) ∧
    (∀ j : Nat, t % 1000 = 100 + j → H[a]? = some (arrV (dA j) n (fun k => mj_sv (mj_as j) M a k)))
def mj_Q (D : va_G) (dA : Nat → ClassId) (B : Nat) (Q : mj_P) : Array Value → State → Outcome → State → Prop := fun _ st o t =>
  ∃ (r : Option mj_V) (G : mj_G) (M : mj_M), o = .returned (r.map mj_val) ∧ Q r G M ∧ (∀ v, r = some v → mj_ok v) ∧ mj_H D dA B G M t.heap ∧ mj_K D dA t ∧ va_F (fun q => B ≤ q) st t
/-- what is fixed while a method runs -/
def mj_X (p : Program) (l : Launch) (e : Env) (R : Room) (s : State) (m : MethodId) (args : Array Value) (below : List Frame) (meth : Method) (c : Code) (own : String) (cc : ByteArray) (ret : Option FieldType) (D : va_G) (dA : Nat → ClassId) (B nL mc ms : Nat) (Q : mj_P) : Prop :=
  (p.tables.exec = Jvm.exec ∧ c.code = cc ∧ c.maxLocals = nL ∧ meth.sig.returnType = ret ∧ s.vm.findClass own = some m.cls) ∧ (∀ w ∈ mj_tb, w.before args s = true) ∧ meth.locks = false ∧ mj_K D dA s ∧ (B ≤ s.heap.size ∧ mj_EW dA B s s.heap) ∧ (1 ≤ R.frames ∧ 100 ≤ R.locals ∧ mc ≤ R.cells ∧ ms ≤ R.slots)
def mj_J {p : Program} {l : Launch} {e : Env} {R : Room} {s : State} {m : MethodId} {args : Array Value} {below : List Frame} {meth : Method} {c : Code} {own : String} {cc : ByteArray} {ret : Option FieldType} {D : va_G} {dA : Nat → ClassId} {B nL mc ms : Nat} {Q : mj_P}
    (_ : mj_X p l e R s m args below meth c own cc ret D dA B nL mc ms Q) (pc : Nat) (L : mj_L) (st : List mj_V) (G : mj_G) (M : mj_M) (cb sb : Nat) : Prop :=
  ∀ (H : Heap) (locs : List Loc) (ls : Array Slot) (cells slots : Nat), mj_H D dA B G M H → va_S (fun q => B ≤ q) s.heap H locs → mj_LO ls nL L → (∀ v ∈ st, mj_ok v) → cells + cb ≤ mc → slots + sb ≤ ms →
    W p l e R s m args below meth c H locs cells slots (MQ below (mj_Q D dA B Q) args s mc ms (fun q => B ≤ q)) (F0 m pc ls (st.map mj_val))
theorem mj_cons {st : List mj_V} {v : mj_V} (h : ∀ w ∈ st, mj_ok w) (hv : mj_ok v) : ∀ w ∈ v :: st, mj_ok w := fun w hw => by
  rcases List.mem_cons.mp hw with rfl | q
  · exact hv
  · exact h w q
theorem mj_tl {st : List mj_V} {v : mj_V} (h : ∀ w ∈ v :: st, mj_ok w) : ∀ w ∈ st, mj_ok w := fun w hw => h w (List.mem_cons_of_mem _ hw)
theorem mj_head {st : List mj_V} {v : mj_V} (h : ∀ w ∈ v :: st, mj_ok w) : mj_ok v := h v List.mem_cons_self
end
section
/-! ===== the plain instructions ===== -/
section MJO
variable {p : Program} {l : Launch} {e : Env} {R : Room} {s : State} {m : MethodId} {args : Array Value} {below : List Frame} {meth : Method} {c : Code} {own : String} {cc : ByteArray} {ret : Option FieldType} {D : va_G} {dA : Nat → ClassId} {B nL mc ms : Nat} {Q : mj_P}
variable {pc : Nat} {L : mj_L} {st : List mj_V} {G : mj_G} {M : mj_M} {cb sb : Nat}
theorem mj_o_iload_n (X : mj_X p l e R s m args below meth c own cc ret D dA B nL mc ms Q) {k : Fin 4} {z : Int} (hd : decode cc pc = .ok (.iload_n k, 1)) (h : mj_nt L k.val = some (.inl z)) (kk : mj_J X (pc + 1) L (.inl z :: st) G M cb sb) : mj_J X pc L st G M cb sb := by
  intro H locs ls cells slots hH hS hL hst hc hs
  exact lv_iload_n X.1.1 X.1.2.1 hd rfl (hL.at h) (kk H locs ls cells slots hH hS hL (mj_cons hst (hL.2.2 _ _ h)) hc hs)
theorem mj_o_iload (X : mj_X p l e R s m args below meth c own cc ret D dA B nL mc ms Q) {k : Nat} {z : Int} (hd : decode cc pc = .ok (.iload k, 2)) (h : mj_nt L k = some (.inl z)) (kk : mj_J X (pc + 2) L (.inl z :: st) G M cb sb) : mj_J X pc L st G M cb sb := by
  intro H locs ls cells slots hH hS hL hst hc hs
  exact lv_iload X.1.1 X.1.2.1 hd (hL.at h) (kk H locs ls cells slots hH hS hL (mj_cons hst (hL.2.2 _ _ h)) hc hs)
theorem mj_o_lload_n (X : mj_X p l e R s m args below meth c own cc ret D dA B nL mc ms Q) {k : Fin 4} {z : Int64} (hd : decode cc pc = .ok (.lload_n k, 1)) (h : mj_nt L k.val = some (.inr (.inl z))) (kk : mj_J X (pc + 1) L (.inr (.inl z) :: st) G M cb sb) : mj_J X pc L st G M cb sb := by
  intro H locs ls cells slots hH hS hL hst hc hs
  exact lv_lload_n X.1.1 X.1.2.1 hd rfl (hL.at h) (kk H locs ls cells slots hH hS hL (mj_cons hst (hL.2.2 _ _ h)) hc hs)
theorem mj_o_lload (X : mj_X p l e R s m args below meth c own cc ret D dA B nL mc ms Q) {k : Nat} {z : Int64} (hd : decode cc pc = .ok (.lload k, 2)) (h : mj_nt L k = some (.inr (.inl z))) (kk : mj_J X (pc + 2) L (.inr (.inl z) :: st) G M cb sb) : mj_J X pc L st G M cb sb := by
  intro H locs ls cells slots hH hS hL hst hc hs
  exact lv_lload X.1.1 X.1.2.1 hd (hL.at h) (kk H locs ls cells slots hH hS hL (mj_cons hst (hL.2.2 _ _ h)) hc hs)
theorem mj_o_aload_n (X : mj_X p l e R s m args below meth c own cc ret D dA B nL mc ms Q) {k : Fin 4} {z : Option Nat} (hd : decode cc pc = .ok (.aload_n k, 1)) (h : mj_nt L k.val = some (.inr (.inr z))) (kk : mj_J X (pc + 1) L (.inr (.inr z) :: st) G M cb sb) : mj_J X pc L st G M cb sb := by
  intro H locs ls cells slots hH hS hL hst hc hs
  have g := kk H locs ls cells slots hH hS hL (mj_cons hst (hL.2.2 _ _ h)) hc hs
  cases z with
  | none => exact lv_aload_nN X.1.1 X.1.2.1 hd rfl (hL.at h) g
  | some a => exact lv_aload_n X.1.1 X.1.2.1 hd rfl (hL.at h) g
theorem mj_o_aload (X : mj_X p l e R s m args below meth c own cc ret D dA B nL mc ms Q) {k : Nat} {z : Option Nat} (hd : decode cc pc = .ok (.aload k, 2)) (h : mj_nt L k = some (.inr (.inr z))) (kk : mj_J X (pc + 2) L (.inr (.inr z) :: st) G M cb sb) : mj_J X pc L st G M cb sb := by
  intro H locs ls cells slots hH hS hL hst hc hs
  have g := kk H locs ls cells slots hH hS hL (mj_cons hst (hL.2.2 _ _ h)) hc hs
  cases z with
  | none => exact lv_aloadN X.1.1 X.1.2.1 hd (hL.at h) g
  | some a => exact lv_aload X.1.1 X.1.2.1 hd (hL.at h) g
theorem mj_o_istore_n (X : mj_X p l e R s m args below meth c own cc ret D dA B nL mc ms Q) {k : Fin 4} {z : Int} (hd : decode cc pc = .ok (.istore_n k, 1)) (hn : k.val < nL) (kk : mj_J X (pc + 1) (mj_s1 L k.val (.inl z)) st G M cb sb) : mj_J X pc L (.inl z :: st) G M cb sb := by
  intro H locs ls cells slots hH hS hL hst hc hs
  exact lv_istore_n X.1.1 X.1.2.1 hd rfl hL.1 hn rfl (fun ls' hl' => kk H locs ls' cells slots hH hS (hL.st1 hn (mj_head hst) hl') (mj_tl hst) hc hs)
theorem mj_o_istore (X : mj_X p l e R s m args below meth c own cc ret D dA B nL mc ms Q) {k : Nat} {z : Int} (hd : decode cc pc = .ok (.istore k, 2)) (hn : k < nL) (kk : mj_J X (pc + 2) (mj_s1 L k (.inl z)) st G M cb sb) : mj_J X pc L (.inl z :: st) G M cb sb := by
  intro H locs ls cells slots hH hS hL hst hc hs
  exact lv_istore X.1.1 X.1.2.1 hd hL.1 hn rfl (fun ls' hl' => kk H locs ls' cells slots hH hS (hL.st1 hn (mj_head hst) hl') (mj_tl hst) hc hs)
theorem mj_o_lstore_n (X : mj_X p l e R s m args below meth c own cc ret D dA B nL mc ms Q) {k : Fin 4} {z : Int64} (hd : decode cc pc = .ok (.lstore_n k, 1)) (hn : k.val + 1 < nL) (kk : mj_J X (pc + 1) (mj_s2 L k.val (.inr (.inl z))) st G M cb sb) : mj_J X pc L (.inr (.inl z) :: st) G M cb sb := by
  intro H locs ls cells slots hH hS hL hst hc hs
  exact lv_lstore_n X.1.1 X.1.2.1 hd rfl hL.1 hn rfl (fun ls' hl' => kk H locs ls' cells slots hH hS (hL.st2 hn (mj_head hst) hl') (mj_tl hst) hc hs)
theorem mj_o_lstore (X : mj_X p l e R s m args below meth c own cc ret D dA B nL mc ms Q) {k : Nat} {z : Int64} (hd : decode cc pc = .ok (.lstore k, 2)) (hn : k + 1 < nL) (kk : mj_J X (pc + 2) (mj_s2 L k (.inr (.inl z))) st G M cb sb) : mj_J X pc L (.inr (.inl z) :: st) G M cb sb := by
  intro H locs ls cells slots hH hS hL hst hc hs
  exact lv_lstore X.1.1 X.1.2.1 hd hL.1 hn rfl (fun ls' hl' => kk H locs ls' cells slots hH hS (hL.st2 hn (mj_head hst) hl') (mj_tl hst) hc hs)
theorem mj_o_astore_n (X : mj_X p l e R s m args below meth c own cc ret D dA B nL mc ms Q) {k : Fin 4} {z : Option Nat} (hd : decode cc pc = .ok (.astore_n k, 1)) (hn : k.val < nL) (kk : mj_J X (pc + 1) (mj_s1 L k.val (.inr (.inr z))) st G M cb sb) : mj_J X pc L (.inr (.inr z) :: st) G M cb sb := by
  intro H locs ls cells slots hH hS hL hst hc hs
  cases z with
  | none => exact lv_astore_nN X.1.1 X.1.2.1 hd rfl hL.1 hn rfl (fun ls' hl' => kk H locs ls' cells slots hH hS (hL.st1 (v := .inr (.inr none)) hn trivial hl') (mj_tl hst) hc hs)
  | some a => exact lv_astore_n X.1.1 X.1.2.1 hd rfl hL.1 hn rfl (fun ls' hl' => kk H locs ls' cells slots hH hS (hL.st1 (v := .inr (.inr (some a))) hn trivial hl') (mj_tl hst) hc hs)
theorem mj_o_astore (X : mj_X p l e R s m args below meth c own cc ret D dA B nL mc ms Q) {k : Nat} {z : Option Nat} (hd : decode cc pc = .ok (.astore k, 2)) (hn : k < nL) (kk : mj_J X (pc + 2) (mj_s1 L k (.inr (.inr z))) st G M cb sb) : mj_J X pc L (.inr (.inr z) :: st) G M cb sb := by
  intro H locs ls cells slots hH hS hL hst hc hs
  cases z with
  | none => exact lv_astoreN X.1.1 X.1.2.1 hd hL.1 hn rfl (fun ls' hl' => kk H locs ls' cells slots hH hS (hL.st1 (v := .inr (.inr none)) hn trivial hl') (mj_tl hst) hc hs)
  | some a => exact lv_astore X.1.1 X.1.2.1 hd hL.1 hn rfl (fun ls' hl' => kk H locs ls' cells slots hH hS (hL.st1 (v := .inr (.inr (some a))) hn trivial hl') (mj_tl hst) hc hs)
theorem mj_o_iinc (X : mj_X p l e R s m args below meth c own cc ret D dA B nL mc ms Q) {k : Nat} {n z : Int} (hd : decode cc pc = .ok (.iinc k n, 3)) (h : mj_nt L k = some (.inl z)) (hn : k < nL) (hin : mj_in (z + n)) (kk : mj_J X (pc + 3) (mj_s1 L k (.inl (z + n))) st G M cb sb) : mj_J X pc L st G M cb sb := by
  intro H locs ls cells slots hH hS hL hst hc hs
  have hm := mj_asc_of L 0 k _ h
  rw [Nat.zero_add] at hm
  obtain ⟨i, hi⟩ := List.getElem?_of_mem hm
  exact lv_iinc (v := Int32.ofInt (z + n)) X.1.1 X.1.2.1 hd hL.1 hi (Int32.ofInt_add z n).symm hn rfl (fun ls' hl' => kk H locs ls' cells slots hH hS (hL.st1 (v := .inl (z + n)) hn hin hl') hst hc hs)
theorem mj_o_iconst (X : mj_X p l e R s m args below meth c own cc ret D dA B nL mc ms Q) {z : Int} (hd : decode cc pc = .ok (.iconst z, 1)) (hz : mj_in z)  (kk : mj_J X (pc + 1) L (.inl z :: st) G M cb sb) : mj_J X pc L st G M cb sb := by
  intro H locs ls cells slots hH hS hL hst hc hs
  exact lv_iconst X.1.1 X.1.2.1 hd rfl (kk H locs ls cells slots hH hS hL (mj_cons hst hz) hc hs)
theorem mj_o_bipush (X : mj_X p l e R s m args below meth c own cc ret D dA B nL mc ms Q) {z : Int} (hd : decode cc pc = .ok (.bipush z, 2)) (hz : mj_in z) (hv : (Int8.ofInt z).toInt32 = Int32.ofInt z) (kk : mj_J X (pc + 2) L (.inl z :: st) G M cb sb) : mj_J X pc L st G M cb sb := by
  intro H locs ls cells slots hH hS hL hst hc hs
  exact lv_bipush X.1.1 X.1.2.1 hd hv (kk H locs ls cells slots hH hS hL (mj_cons hst hz) hc hs)
theorem mj_o_sipush (X : mj_X p l e R s m args below meth c own cc ret D dA B nL mc ms Q) {z : Int} (hd : decode cc pc = .ok (.sipush z, 3)) (hz : mj_in z) (hv : (Int16.ofInt z).toInt32 = Int32.ofInt z) (kk : mj_J X (pc + 3) L (.inl z :: st) G M cb sb) : mj_J X pc L st G M cb sb := by
  intro H locs ls cells slots hH hS hL hst hc hs
  exact lv_sipush X.1.1 X.1.2.1 hd hv (kk H locs ls cells slots hH hS hL (mj_cons hst hz) hc hs)
theorem mj_o_ldc (X : mj_X p l e R s m args below meth c own cc ret D dA B nL mc ms Q) {i : Nat} {z : Int} (hd : decode cc pc = .ok (.ldc i, 2)) (hz : mj_in z) (hw : Cond.constant own i (Int32.ofInt z) ∈ mj_tb) (kk : mj_J X (pc + 2) L (.inl z :: st) G M cb sb) : mj_J X pc L st G M cb sb := by
  intro H locs ls cells slots hH hS hL hst hc hs
  exact W.ldc X.1.1 X.1.2.1 X.1.2.2.2.2 (X.2.1 _ hw) rfl hd (kk H locs ls cells slots hH hS hL (mj_cons hst hz) hc hs)
theorem mj_o_ldc2 (X : mj_X p l e R s m args below meth c own cc ret D dA B nL mc ms Q) {i : Nat} {z : Int64} (hd : decode cc pc = .ok (.ldc2_w i, 3)) (hw : Cond.constantLong own i z ∈ mj_tb) (kk : mj_J X (pc + 3) L (.inr (.inl z) :: st) G M cb sb) : mj_J X pc L st G M cb sb := by
  intro H locs ls cells slots hH hS hL hst hc hs
  exact W.ldc2 X.1.1 X.1.2.1 X.1.2.2.2.2 (X.2.1 _ hw) rfl hd (kk H locs ls cells slots hH hS hL (mj_cons hst trivial) hc hs)
theorem mj_o_lconst (X : mj_X p l e R s m args below meth c own cc ret D dA B nL mc ms Q) {k : Fin 2} (hd : decode cc pc = .ok (.lconst k, 1)) (kk : mj_J X (pc + 1) L (.inr (.inl (Int64.ofNat k.val)) :: st) G M cb sb) : mj_J X pc L st G M cb sb := by
  intro H locs ls cells slots hH hS hL hst hc hs
  exact lv_lconst X.1.1 X.1.2.1 hd rfl (kk H locs ls cells slots hH hS hL (mj_cons hst trivial) hc hs)
theorem mj_o_null (X : mj_X p l e R s m args below meth c own cc ret D dA B nL mc ms Q) (hd : decode cc pc = .ok (.aconst_null, 1)) (kk : mj_J X (pc + 1) L (.inr (.inr none) :: st) G M cb sb) : mj_J X pc L st G M cb sb := by
  intro H locs ls cells slots hH hS hL hst hc hs
  exact lv_null X.1.1 X.1.2.1 hd (kk H locs ls cells slots hH hS hL (mj_cons hst trivial) hc hs)
theorem mj_o_iadd (X : mj_X p l e R s m args below meth c own cc ret D dA B nL mc ms Q) (hd : decode cc pc = .ok (.iadd, 1)) {x y : Int} (kk : (mj_in (x + y) ∧ mj_J X (pc + 1) L (.inl (x + y) :: st) G M cb sb) ∨ ∀ z, mj_in z → z = (Int32.ofInt x + Int32.ofInt y).toInt → mj_J X (pc + 1) L (.inl z :: st) G M cb sb) : mj_J X pc L (.inl y :: .inl x :: st) G M cb sb := by
  intro H locs ls cells slots hH hS hL hst hc hs
  refine lv_iadd X.1.1 X.1.2.1 hd ?_
  rcases kk with ⟨hi, kk⟩ | kk
  · have g := kk H locs ls cells slots hH hS hL (mj_cons (mj_tl (mj_tl hst)) hi) hc hs
    rw [← Int32.ofInt_add]
    exact g
  · have g := kk _ (mj_rng _) rfl H locs ls cells slots hH hS hL (mj_cons (mj_tl (mj_tl hst)) (mj_rng _)) hc hs
    simp only [List.map_cons, mj_val, mj_it] at g
    exact g
theorem mj_o_isub (X : mj_X p l e R s m args below meth c own cc ret D dA B nL mc ms Q) (hd : decode cc pc = .ok (.isub, 1)) {x y : Int} (kk : (mj_in (x - y) ∧ mj_J X (pc + 1) L (.inl (x - y) :: st) G M cb sb) ∨ ∀ z, mj_in z → z = (Int32.ofInt x - Int32.ofInt y).toInt → mj_J X (pc + 1) L (.inl z :: st) G M cb sb) : mj_J X pc L (.inl y :: .inl x :: st) G M cb sb := by
  intro H locs ls cells slots hH hS hL hst hc hs
  refine lv_isub X.1.1 X.1.2.1 hd ?_
  rcases kk with ⟨hi, kk⟩ | kk
  · have g := kk H locs ls cells slots hH hS hL (mj_cons (mj_tl (mj_tl hst)) hi) hc hs
    rw [← Int32.ofInt_sub]
    exact g
  · have g := kk _ (mj_rng _) rfl H locs ls cells slots hH hS hL (mj_cons (mj_tl (mj_tl hst)) (mj_rng _)) hc hs
    simp only [List.map_cons, mj_val, mj_it] at g
    exact g
theorem mj_o_imul (X : mj_X p l e R s m args below meth c own cc ret D dA B nL mc ms Q) (hd : decode cc pc = .ok (.imul, 1)) {x y : Int} (kk : (mj_in (x * y) ∧ mj_J X (pc + 1) L (.inl (x * y) :: st) G M cb sb) ∨ ∀ z, mj_in z → z = (Int32.ofInt x * Int32.ofInt y).toInt → mj_J X (pc + 1) L (.inl z :: st) G M cb sb) : mj_J X pc L (.inl y :: .inl x :: st) G M cb sb := by
  intro H locs ls cells slots hH hS hL hst hc hs
  refine lv_imul X.1.1 X.1.2.1 hd ?_
  rcases kk with ⟨hi, kk⟩ | kk
  · have g := kk H locs ls cells slots hH hS hL (mj_cons (mj_tl (mj_tl hst)) hi) hc hs
    rw [← Int32.ofInt_mul]
    exact g
  · have g := kk _ (mj_rng _) rfl H locs ls cells slots hH hS hL (mj_cons (mj_tl (mj_tl hst)) (mj_rng _)) hc hs
    simp only [List.map_cons, mj_val, mj_it] at g
    exact g
theorem mj_o_iand (X : mj_X p l e R s m args below meth c own cc ret D dA B nL mc ms Q) (hd : decode cc pc = .ok (.iand, 1)) {x y : Int} (kk : ∀ z, mj_in z → z = (Int32.ofInt x &&& Int32.ofInt y).toInt → mj_J X (pc + 1) L (.inl z :: st) G M cb sb) : mj_J X pc L (.inl y :: .inl x :: st) G M cb sb := by
  intro H locs ls cells slots hH hS hL hst hc hs
  refine lv_iand X.1.1 X.1.2.1 hd ?_
  have g := kk _ (mj_rng _) rfl H locs ls cells slots hH hS hL (mj_cons (mj_tl (mj_tl hst)) (mj_rng _)) hc hs
  simp only [List.map_cons, mj_val, mj_it] at g
  exact g
theorem mj_o_ior (X : mj_X p l e R s m args below meth c own cc ret D dA B nL mc ms Q) (hd : decode cc pc = .ok (.ior, 1)) {x y : Int} (kk : ∀ z, mj_in z → z = (Int32.ofInt x ||| Int32.ofInt y).toInt → mj_J X (pc + 1) L (.inl z :: st) G M cb sb) : mj_J X pc L (.inl y :: .inl x :: st) G M cb sb := by
  intro H locs ls cells slots hH hS hL hst hc hs
  refine lv_ior X.1.1 X.1.2.1 hd ?_
  have g := kk _ (mj_rng _) rfl H locs ls cells slots hH hS hL (mj_cons (mj_tl (mj_tl hst)) (mj_rng _)) hc hs
  simp only [List.map_cons, mj_val, mj_it] at g
  exact g
theorem mj_o_ishl (X : mj_X p l e R s m args below meth c own cc ret D dA B nL mc ms Q) (hd : decode cc pc = .ok (.ishl, 1)) {x y : Int} (kk : ∀ z, mj_in z → z = (Int32.ofInt x <<< (Int32.ofInt y &&& 31)).toInt → mj_J X (pc + 1) L (.inl z :: st) G M cb sb) : mj_J X pc L (.inl y :: .inl x :: st) G M cb sb := by
  intro H locs ls cells slots hH hS hL hst hc hs
  refine lv_ishl X.1.1 X.1.2.1 hd ?_
  have g := kk _ (mj_rng _) rfl H locs ls cells slots hH hS hL (mj_cons (mj_tl (mj_tl hst)) (mj_rng _)) hc hs
  simp only [List.map_cons, mj_val, mj_it] at g
  exact g
theorem mj_o_ishr (X : mj_X p l e R s m args below meth c own cc ret D dA B nL mc ms Q) (hd : decode cc pc = .ok (.ishr, 1)) {x y : Int} (kk : ∀ z, mj_in z → z = (Int32.ofInt x >>> (Int32.ofInt y &&& 31)).toInt → mj_J X (pc + 1) L (.inl z :: st) G M cb sb) : mj_J X pc L (.inl y :: .inl x :: st) G M cb sb := by
  intro H locs ls cells slots hH hS hL hst hc hs
  refine lv_ishr X.1.1 X.1.2.1 hd ?_
  have g := kk _ (mj_rng _) rfl H locs ls cells slots hH hS hL (mj_cons (mj_tl (mj_tl hst)) (mj_rng _)) hc hs
  simp only [List.map_cons, mj_val, mj_it] at g
  exact g
theorem mj_o_iushr (X : mj_X p l e R s m args below meth c own cc ret D dA B nL mc ms Q) (hd : decode cc pc = .ok (.iushr, 1)) {x y : Int} (kk : ∀ z, mj_in z → z = (((Int32.ofInt x).toUInt32 >>> ((Int32.ofInt y).toUInt32 &&& Int32.toUInt32 31)).toInt32).toInt → mj_J X (pc + 1) L (.inl z :: st) G M cb sb) : mj_J X pc L (.inl y :: .inl x :: st) G M cb sb := by
  intro H locs ls cells slots hH hS hL hst hc hs
  refine lv_iushr X.1.1 X.1.2.1 hd rfl ?_
  have g := kk _ (mj_rng _) rfl H locs ls cells slots hH hS hL (mj_cons (mj_tl (mj_tl hst)) (mj_rng _)) hc hs
  simp only [List.map_cons, mj_val, mj_it] at g
  exact g
theorem mj_o_ineg (X : mj_X p l e R s m args below meth c own cc ret D dA B nL mc ms Q) (hd : decode cc pc = .ok (.ineg, 1)) {x : Int} (kk : ∀ z, mj_in z → z = (-(Int32.ofInt x)).toInt → mj_J X (pc + 1) L (.inl z :: st) G M cb sb) : mj_J X pc L (.inl x :: st) G M cb sb := by
  intro H locs ls cells slots hH hS hL hst hc hs
  refine lv_ineg X.1.1 X.1.2.1 hd ?_
  have g := kk _ (mj_rng _) rfl H locs ls cells slots hH hS hL (mj_cons (mj_tl hst) (mj_rng _)) hc hs
  simp only [List.map_cons, mj_val, mj_it] at g
  exact g
theorem mj_o_i2b (X : mj_X p l e R s m args below meth c own cc ret D dA B nL mc ms Q) (hd : decode cc pc = .ok (.i2b, 1)) {x : Int} (kk : ∀ z, mj_in z → z = ((Int32.ofInt x).toInt8.toInt32).toInt → mj_J X (pc + 1) L (.inl z :: st) G M cb sb) : mj_J X pc L (.inl x :: st) G M cb sb := by
  intro H locs ls cells slots hH hS hL hst hc hs
  refine lv_i2b X.1.1 X.1.2.1 hd rfl ?_
  have g := kk _ (mj_rng _) rfl H locs ls cells slots hH hS hL (mj_cons (mj_tl hst) (mj_rng _)) hc hs
  simp only [List.map_cons, mj_val, mj_it] at g
  exact g
theorem mj_c1_cat {v : mj_V} (h : ∀ w, v ≠ .inr (.inl w)) : (mj_val v).category = 1 := by
  rcases v with z | w | r
  · rfl
  · exact absurd rfl (h w)
  · cases r <;> rfl
theorem mj_o_dup (X : mj_X p l e R s m args below meth c own cc ret D dA B nL mc ms Q) {v : mj_V} (hd : decode cc pc = .ok (.dup, 1)) (hv : ∀ w, v ≠ .inr (.inl w)) (kk : mj_J X (pc + 1) L (v :: v :: st) G M cb sb) : mj_J X pc L (v :: st) G M cb sb := by
  intro H locs ls cells slots hH hS hL hst hc hs
  exact lv_dup X.1.1 X.1.2.1 hd (mj_c1_cat hv) (kk H locs ls cells slots hH hS hL (mj_cons hst (mj_head hst)) hc hs)
theorem mj_o_dup2 (X : mj_X p l e R s m args below meth c own cc ret D dA B nL mc ms Q) {v w : mj_V} (hd : decode cc pc = .ok (.dup2, 1)) (hv : ∀ x, v ≠ .inr (.inl x)) (hw : ∀ x, w ≠ .inr (.inl x)) (kk : mj_J X (pc + 1) L (v :: w :: v :: w :: st) G M cb sb) : mj_J X pc L (v :: w :: st) G M cb sb := by
  intro H locs ls cells slots hH hS hL hst hc hs
  exact lv_dup2_11 X.1.1 X.1.2.1 hd (mj_c1_cat hv) (mj_c1_cat hw) (kk H locs ls cells slots hH hS hL (mj_cons (mj_cons hst (mj_head (mj_tl hst))) (mj_head hst)) hc hs)
theorem mj_o_pop (X : mj_X p l e R s m args below meth c own cc ret D dA B nL mc ms Q) {v : mj_V} (hd : decode cc pc = .ok (.pop, 1)) (hv : ∀ w, v ≠ .inr (.inl w)) (kk : mj_J X (pc + 1) L st G M cb sb) : mj_J X pc L (v :: st) G M cb sb := by
  intro H locs ls cells slots hH hS hL hst hc hs
  exact lv_pop X.1.1 X.1.2.1 hd (mj_c1_cat hv) (kk H locs ls cells slots hH hS hL (mj_tl hst) hc hs)
theorem mj_o_icmp_eq (X : mj_X p l e R s m args below meth c own cc ret D dA B nL mc ms Q) {off : Int} {tgt : Nat} (hd : decode cc pc = .ok (.if_icmp .eq off, 3)) (ht : (pc : Int) + off = (tgt : Int)) {x y : Int} (kt : x = y → mj_J X tgt L st G M cb sb) (kf : ¬ (x = y) → mj_J X (pc + 3) L st G M cb sb) : mj_J X pc L (.inl y :: .inl x :: st) G M cb sb := by
  intro H locs ls cells slots hH hS hL hst hc hs
  have hy : mj_in y := mj_head hst
  have hx : mj_in x := mj_head (mj_tl hst)
  exact lv_icmp_eq X.1.1 X.1.2.1 hd ht (fun q => kt ((mj_eq hx hy).mp q) H locs ls cells slots hH hS hL (mj_tl (mj_tl hst)) hc hs) (fun q => kf (fun z => q ((mj_eq hx hy).mpr z)) H locs ls cells slots hH hS hL (mj_tl (mj_tl hst)) hc hs)
theorem mj_o_if_eq (X : mj_X p l e R s m args below meth c own cc ret D dA B nL mc ms Q) {off : Int} {tgt : Nat} (hd : decode cc pc = .ok (.ifCond .eq off, 3)) (ht : (pc : Int) + off = (tgt : Int)) {x : Int} (kt : x = 0 → mj_J X tgt L st G M cb sb) (kf : ¬ (x = 0) → mj_J X (pc + 3) L st G M cb sb) : mj_J X pc L (.inl x :: st) G M cb sb := by
  intro H locs ls cells slots hH hS hL hst hc hs
  have hy : mj_in 0 := ⟨by decide, by decide⟩
  have hx : mj_in x := mj_head hst
  exact lv_if_eq X.1.1 X.1.2.1 hd ht (fun q => kt ((mj_eq hx hy).mp q) H locs ls cells slots hH hS hL (mj_tl hst) hc hs) (fun q => kf (fun z => q ((mj_eq hx hy).mpr z)) H locs ls cells slots hH hS hL (mj_tl hst) hc hs)
theorem mj_o_icmp_ne (X : mj_X p l e R s m args below meth c own cc ret D dA B nL mc ms Q) {off : Int} {tgt : Nat} (hd : decode cc pc = .ok (.if_icmp .ne off, 3)) (ht : (pc : Int) + off = (tgt : Int)) {x y : Int} (kt : x ≠ y → mj_J X tgt L st G M cb sb) (kf : ¬ (x ≠ y) → mj_J X (pc + 3) L st G M cb sb) : mj_J X pc L (.inl y :: .inl x :: st) G M cb sb := by
  intro H locs ls cells slots hH hS hL hst hc hs
  have hy : mj_in y := mj_head hst
  have hx : mj_in x := mj_head (mj_tl hst)
  exact lv_icmp_ne X.1.1 X.1.2.1 hd ht (fun q => kt (fun z => q ((mj_eq hx hy).mpr z)) H locs ls cells slots hH hS hL (mj_tl (mj_tl hst)) hc hs) (fun q => kf (fun z => z ((mj_eq hx hy).mp q)) H locs ls cells slots hH hS hL (mj_tl (mj_tl hst)) hc hs)
theorem mj_o_if_ne (X : mj_X p l e R s m args below meth c own cc ret D dA B nL mc ms Q) {off : Int} {tgt : Nat} (hd : decode cc pc = .ok (.ifCond .ne off, 3)) (ht : (pc : Int) + off = (tgt : Int)) {x : Int} (kt : x ≠ 0 → mj_J X tgt L st G M cb sb) (kf : ¬ (x ≠ 0) → mj_J X (pc + 3) L st G M cb sb) : mj_J X pc L (.inl x :: st) G M cb sb := by
  intro H locs ls cells slots hH hS hL hst hc hs
  have hy : mj_in 0 := ⟨by decide, by decide⟩
  have hx : mj_in x := mj_head hst
  exact lv_if_ne X.1.1 X.1.2.1 hd ht (fun q => kt (fun z => q ((mj_eq hx hy).mpr z)) H locs ls cells slots hH hS hL (mj_tl hst) hc hs) (fun q => kf (fun z => z ((mj_eq hx hy).mp q)) H locs ls cells slots hH hS hL (mj_tl hst) hc hs)
theorem mj_o_icmp_lt (X : mj_X p l e R s m args below meth c own cc ret D dA B nL mc ms Q) {off : Int} {tgt : Nat} (hd : decode cc pc = .ok (.if_icmp .lt off, 3)) (ht : (pc : Int) + off = (tgt : Int)) {x y : Int} (kt : x < y → mj_J X tgt L st G M cb sb) (kf : ¬ (x < y) → mj_J X (pc + 3) L st G M cb sb) : mj_J X pc L (.inl y :: .inl x :: st) G M cb sb := by
  intro H locs ls cells slots hH hS hL hst hc hs
  have hy : mj_in y := mj_head hst
  have hx : mj_in x := mj_head (mj_tl hst)
  exact lv_icmp_lt X.1.1 X.1.2.1 hd ht (fun q => kt ((mj_lt hx hy).mp q) H locs ls cells slots hH hS hL (mj_tl (mj_tl hst)) hc hs) (fun q => kf (fun z => q ((mj_lt hx hy).mpr z)) H locs ls cells slots hH hS hL (mj_tl (mj_tl hst)) hc hs)
theorem mj_o_if_lt (X : mj_X p l e R s m args below meth c own cc ret D dA B nL mc ms Q) {off : Int} {tgt : Nat} (hd : decode cc pc = .ok (.ifCond .lt off, 3)) (ht : (pc : Int) + off = (tgt : Int)) {x : Int} (kt : x < 0 → mj_J X tgt L st G M cb sb) (kf : ¬ (x < 0) → mj_J X (pc + 3) L st G M cb sb) : mj_J X pc L (.inl x :: st) G M cb sb := by
  intro H locs ls cells slots hH hS hL hst hc hs
  have hy : mj_in 0 := ⟨by decide, by decide⟩
  have hx : mj_in x := mj_head hst
  exact lv_if_lt X.1.1 X.1.2.1 hd ht (fun q => kt ((mj_lt hx hy).mp q) H locs ls cells slots hH hS hL (mj_tl hst) hc hs) (fun q => kf (fun z => q ((mj_lt hx hy).mpr z)) H locs ls cells slots hH hS hL (mj_tl hst) hc hs)
theorem mj_o_icmp_ge (X : mj_X p l e R s m args below meth c own cc ret D dA B nL mc ms Q) {off : Int} {tgt : Nat} (hd : decode cc pc = .ok (.if_icmp .ge off, 3)) (ht : (pc : Int) + off = (tgt : Int)) {x y : Int} (kt : y ≤ x → mj_J X tgt L st G M cb sb) (kf : ¬ (y ≤ x) → mj_J X (pc + 3) L st G M cb sb) : mj_J X pc L (.inl y :: .inl x :: st) G M cb sb := by
  intro H locs ls cells slots hH hS hL hst hc hs
  have hy : mj_in y := mj_head hst
  have hx : mj_in x := mj_head (mj_tl hst)
  exact lv_icmp_ge X.1.1 X.1.2.1 hd ht (fun q => kt ((mj_le hy hx).mp q) H locs ls cells slots hH hS hL (mj_tl (mj_tl hst)) hc hs) (fun q => kf (fun z => q ((mj_le hy hx).mpr z)) H locs ls cells slots hH hS hL (mj_tl (mj_tl hst)) hc hs)
theorem mj_o_if_ge (X : mj_X p l e R s m args below meth c own cc ret D dA B nL mc ms Q) {off : Int} {tgt : Nat} (hd : decode cc pc = .ok (.ifCond .ge off, 3)) (ht : (pc : Int) + off = (tgt : Int)) {x : Int} (kt : 0 ≤ x → mj_J X tgt L st G M cb sb) (kf : ¬ (0 ≤ x) → mj_J X (pc + 3) L st G M cb sb) : mj_J X pc L (.inl x :: st) G M cb sb := by
  intro H locs ls cells slots hH hS hL hst hc hs
  have hy : mj_in 0 := ⟨by decide, by decide⟩
  have hx : mj_in x := mj_head hst
  exact lv_if_ge X.1.1 X.1.2.1 hd ht (fun q => kt ((mj_le hy hx).mp q) H locs ls cells slots hH hS hL (mj_tl hst) hc hs) (fun q => kf (fun z => q ((mj_le hy hx).mpr z)) H locs ls cells slots hH hS hL (mj_tl hst) hc hs)
theorem mj_o_icmp_gt (X : mj_X p l e R s m args below meth c own cc ret D dA B nL mc ms Q) {off : Int} {tgt : Nat} (hd : decode cc pc = .ok (.if_icmp .gt off, 3)) (ht : (pc : Int) + off = (tgt : Int)) {x y : Int} (kt : y < x → mj_J X tgt L st G M cb sb) (kf : ¬ (y < x) → mj_J X (pc + 3) L st G M cb sb) : mj_J X pc L (.inl y :: .inl x :: st) G M cb sb := by
  intro H locs ls cells slots hH hS hL hst hc hs
  have hy : mj_in y := mj_head hst
  have hx : mj_in x := mj_head (mj_tl hst)
  exact lv_icmp_gt X.1.1 X.1.2.1 hd ht (fun q => kt ((mj_lt hy hx).mp q) H locs ls cells slots hH hS hL (mj_tl (mj_tl hst)) hc hs) (fun q => kf (fun z => q ((mj_lt hy hx).mpr z)) H locs ls cells slots hH hS hL (mj_tl (mj_tl hst)) hc hs)
theorem mj_o_if_gt (X : mj_X p l e R s m args below meth c own cc ret D dA B nL mc ms Q) {off : Int} {tgt : Nat} (hd : decode cc pc = .ok (.ifCond .gt off, 3)) (ht : (pc : Int) + off = (tgt : Int)) {x : Int} (kt : 0 < x → mj_J X tgt L st G M cb sb) (kf : ¬ (0 < x) → mj_J X (pc + 3) L st G M cb sb) : mj_J X pc L (.inl x :: st) G M cb sb := by
  intro H locs ls cells slots hH hS hL hst hc hs
  have hy : mj_in 0 := ⟨by decide, by decide⟩
  have hx : mj_in x := mj_head hst
  exact lv_if_gt X.1.1 X.1.2.1 hd ht (fun q => kt ((mj_lt hy hx).mp q) H locs ls cells slots hH hS hL (mj_tl hst) hc hs) (fun q => kf (fun z => q ((mj_lt hy hx).mpr z)) H locs ls cells slots hH hS hL (mj_tl hst) hc hs)
theorem mj_o_icmp_le (X : mj_X p l e R s m args below meth c own cc ret D dA B nL mc ms Q) {off : Int} {tgt : Nat} (hd : decode cc pc = .ok (.if_icmp .le off, 3)) (ht : (pc : Int) + off = (tgt : Int)) {x y : Int} (kt : x ≤ y → mj_J X tgt L st G M cb sb) (kf : ¬ (x ≤ y) → mj_J X (pc + 3) L st G M cb sb) : mj_J X pc L (.inl y :: .inl x :: st) G M cb sb := by
  intro H locs ls cells slots hH hS hL hst hc hs
  have hy : mj_in y := mj_head hst
  have hx : mj_in x := mj_head (mj_tl hst)
  exact lv_icmp_le X.1.1 X.1.2.1 hd ht (fun q => kt ((mj_le hx hy).mp q) H locs ls cells slots hH hS hL (mj_tl (mj_tl hst)) hc hs) (fun q => kf (fun z => q ((mj_le hx hy).mpr z)) H locs ls cells slots hH hS hL (mj_tl (mj_tl hst)) hc hs)
theorem mj_o_if_le (X : mj_X p l e R s m args below meth c own cc ret D dA B nL mc ms Q) {off : Int} {tgt : Nat} (hd : decode cc pc = .ok (.ifCond .le off, 3)) (ht : (pc : Int) + off = (tgt : Int)) {x : Int} (kt : x ≤ 0 → mj_J X tgt L st G M cb sb) (kf : ¬ (x ≤ 0) → mj_J X (pc + 3) L st G M cb sb) : mj_J X pc L (.inl x :: st) G M cb sb := by
  intro H locs ls cells slots hH hS hL hst hc hs
  have hy : mj_in 0 := ⟨by decide, by decide⟩
  have hx : mj_in x := mj_head hst
  exact lv_if_le X.1.1 X.1.2.1 hd ht (fun q => kt ((mj_le hx hy).mp q) H locs ls cells slots hH hS hL (mj_tl hst) hc hs) (fun q => kf (fun z => q ((mj_le hx hy).mpr z)) H locs ls cells slots hH hS hL (mj_tl hst) hc hs)
theorem mj_o_goto (X : mj_X p l e R s m args below meth c own cc ret D dA B nL mc ms Q) {off : Int} {tgt : Nat} (hd : decode cc pc = .ok (.goto off, 3)) (ht : (pc : Int) + off = (tgt : Int)) (kk : mj_J X tgt L st G M cb sb) : mj_J X pc L st G M cb sb := by
  intro H locs ls cells slots hH hS hL hst hc hs
  exact lv_goto X.1.1 X.1.2.1 hd ht (kk H locs ls cells slots hH hS hL hst hc hs)
theorem mj_o_ifnull (X : mj_X p l e R s m args below meth c own cc ret D dA B nL mc ms Q) {off : Int} {tgt : Nat} (hd : decode cc pc = .ok (.ifnull off, 3)) (ht : (pc : Int) + off = (tgt : Int)) {z : Option Nat} (kt : z = none → mj_J X tgt L st G M cb sb) (kf : ¬ (z = none) → mj_J X (pc + 3) L st G M cb sb) : mj_J X pc L (.inr (.inr z) :: st) G M cb sb := by
  intro H locs ls cells slots hH hS hL hst hc hs
  cases z with
  | none => exact lv_ifnullN X.1.1 X.1.2.1 hd ht (kt rfl H locs ls cells slots hH hS hL (mj_tl hst) hc hs)
  | some a => exact lv_ifnull X.1.1 X.1.2.1 hd (kf (fun q => by cases q) H locs ls cells slots hH hS hL (mj_tl hst) hc hs)
theorem mj_o_ifnonnull (X : mj_X p l e R s m args below meth c own cc ret D dA B nL mc ms Q) {off : Int} {tgt : Nat} (hd : decode cc pc = .ok (.ifnonnull off, 3)) (ht : (pc : Int) + off = (tgt : Int)) {z : Option Nat} (kt : z ≠ none → mj_J X tgt L st G M cb sb) (kf : ¬ (z ≠ none) → mj_J X (pc + 3) L st G M cb sb) : mj_J X pc L (.inr (.inr z) :: st) G M cb sb := by
  intro H locs ls cells slots hH hS hL hst hc hs
  cases z with
  | none => exact lv_ifnonnullN X.1.1 X.1.2.1 hd (kf (fun q => q rfl) H locs ls cells slots hH hS hL (mj_tl hst) hc hs)
  | some a => exact lv_ifnonnull X.1.1 X.1.2.1 hd ht (kt (fun q => by cases q) H locs ls cells slots hH hS hL (mj_tl hst) hc hs)
end MJO
end
section
/-! ===== fields and arrays ===== -/
/-- M' is M but for one slot, which holds v -/
def mj_u (so : Nat) (M : mj_M) (a k : Nat) (v : mj_V) (M' : mj_M) : Prop :=
  (∀ so' x j, ¬ (x = a ∧ j = k) → mj_sv so' M' x j = mj_sv so' M x j) ∧ mj_sv so M' a k = mj_val v ∧ ∀ x j, mj_in (M'.1 x j)
theorem mj_u0 {M : mj_M} {a k : Nat} {z : Int} (hM : ∀ x j, mj_in (M.1 x j)) (hz : mj_in z) : mj_u 0 M a k (.inl z) (mj_p0 M a k z) := by
  refine ⟨fun so' x j h => ?_, ?_, fun x j => ?_⟩
  · unfold mj_sv mj_p0
    dsimp only
    rw [if_neg h]
  · simp [mj_sv, mj_p0, mj_val]
  · unfold mj_p0
    dsimp only
    split
    · exact hz
    · exact hM x j
theorem mj_u1 {M : mj_M} {a k : Nat} {z : Int64} (hM : ∀ x j, mj_in (M.1 x j)) : mj_u 1 M a k (.inr (.inl z)) (mj_p1 M a k z) := by
  refine ⟨fun so' x j h => ?_, ?_, hM⟩
  · unfold mj_sv mj_p1
    dsimp only
    rw [if_neg h]
  · simp [mj_sv, mj_p1, mj_val]
theorem mj_u2 {M : mj_M} {a k : Nat} {z : Option Nat} (hM : ∀ x j, mj_in (M.1 x j)) : mj_u 2 M a k (.inr (.inr z)) (mj_p2 M a k z) := by
  refine ⟨fun so' x j h => ?_, ?_, hM⟩
  · unfold mj_sv mj_p2
    dsimp only
    rw [if_neg h]
  · simp [mj_sv, mj_p2, mj_val]
theorem mj_H.set {D : va_G} {dA : Nat → ClassId} {B : Nat} {G : mj_G} {M M' : mj_M} {H H' : Heap} {a t n : Nat} (h : mj_H D dA B G M H) (hG : G a = (t, n)) (hz : H'.size = H.size) (ho : ∀ q : Nat, q ≠ a → H'[q]? = H[q]?) (hR : ∀ x j, mj_in (M'.1 x j))
    (hM : ∀ so x j, x ≠ a → mj_sv so M' x j = mj_sv so M x j)
    (h1 : ∀ (ci : Nat) (r : vw_C), t % 1000 = ci + 1 → vwCl[ci]? = some r → t_OB a (D.1 ci) r.2.2 (D.2 ci) H' (fun k => mj_sv (mj_so ci k) M' a k))
    (h2 : ∀ j : Nat, t % 1000 = 100 + j → H'[a]? = some (arrV (dA j) n (fun k => mj_sv (mj_as j) M' a k))) : mj_H D dA B G M' H' := by
  refine ⟨hR, ⟨fun x hx => h.2.1.1 x (by rw [← hz]; exact hx), h.2.1.2⟩, fun x t' n' hx ht => ?_⟩
  obtain ⟨hB, g1, g2⟩ := h.2.2 x t' n' hx ht
  refine ⟨hB, ?_, ?_⟩
  · intro ci r e1 e2
    by_cases hxa : x = a
    · subst hxa
      obtain ⟨rfl, rfl⟩ := Prod.mk.inj (hG.symm.trans hx)
      exact h1 ci r e1 e2
    · exact ((g1 ci r e1 e2).kept (ho x hxa)).to (fun k _ => (hM _ x k hxa).symm)
  · intro j e1
    by_cases hxa : x = a
    · subst hxa
      obtain ⟨rfl, rfl⟩ := Prod.mk.inj (hG.symm.trans hx)
      exact h2 j e1
    · rw [ho x hxa, g2 j e1]
      congr 2
      funext k
      exact (hM _ x k hxa).symm
theorem mj_cl100 {t ci j : Nat} {r : vw_C} (h1 : t % 1000 = ci + 1) (h2 : t % 1000 = 100 + j) (hr : vwCl[ci]? = some r) : False := by
  have := (List.getElem?_eq_some_iff.mp hr).1
  have hl : vwCl.length = 12 := rfl
  omega
theorem mj_cl50 {t ci : Nat} {r : vw_C} (h1 : t % 1000 = ci + 1) (hr : vwCl[ci]? = some r) : t % 1000 ≠ 50 := by
  have := (List.getElem?_eq_some_iff.mp hr).1
  have hl : vwCl.length = 12 := rfl
  omega
section MJH
variable {p : Program} {l : Launch} {e : Env} {R : Room} {s : State} {m : MethodId} {args : Array Value} {below : List Frame} {meth : Method} {c : Code} {own : String} {cc : ByteArray} {ret : Option FieldType} {D : va_G} {dA : Nat → ClassId} {B nL mc ms : Nat} {Q : mj_P}
variable {pc : Nat} {L : mj_L} {st : List mj_V} {G : mj_G} {M : mj_M} {cb sb : Nat}
theorem mj_ne {t k : Nat} (h : t % 1000 = k + 1) : t ≠ 0 := fun q => by rw [q] at h; simp at h
theorem mj_ne1 {t k : Nat} (h : t % 1000 = 100 + k) : t ≠ 0 := fun q => by rw [q] at h; simp at h; omega
theorem mj_o_get (X : mj_X p l e R s m args below meth c own cc ret D dA B nL mc ms Q) {i ci fk a t n : Nat} {r : vw_C} {v : mj_V} (hd : decode cc pc = .ok (.getfield i, 3)) (hr : vwCl[ci]? = some r) (hk : fk < r.2.2) (hlay : ∀ w ∈ u_ws r.1 r.2.1 r.2.2, w ∈ mj_tb) (hlink : Cond.fieldLink own i (r.2.1 fk).1 (r.2.1 fk).2.1 (r.2.1 fk).2.2.1 ∈ mj_tb)
    (hG : G a = (t, n)) (ht : t % 1000 = ci + 1) (hv : (∀ x j, mj_in (M.1 x j)) → mj_val v = mj_sv (mj_so ci fk) M a fk ∧ mj_ok v) (kk : mj_J X (pc + 3) L (v :: st) G M cb sb) : mj_J X pc L (.inr (.inr (some a)) :: st) G M cb sb := by
  intro H locs ls cells slots hH hS hL hst hc hs
  obtain ⟨-, g1, -⟩ := hH.2.2 a t n hG (mj_ne ht)
  obtain ⟨cell, q1, q2, q3, q4⟩ := g1 ci r ht hr
  obtain ⟨hSl, hfc, kC, hkC, hkind⟩ := X.2.2.2.1.1 ci r hr
  obtain ⟨cf, kf, fi, f, hi, hsl⟩ := hSl fk hk
  obtain ⟨e1, e2⟩ := hv hH.1
  refine W.getf X.1.1 X.1.2.1 X.1.2.2.2.2 (X.2.1 _ hlink) hi (u_facts hfc hkC (u_lays X.2.1 hlay hk) hi).1 q1 (by rw [q3]; exact fun h => by cases h) (v := mj_val v) (by rw [hsl, q4 fk hk, e1]) rfl rfl hd ?_
  exact kk H locs ls cells slots hH hS hL (mj_cons (mj_tl hst) e2) hc hs
theorem mj_vaK {U : State} (h : mj_K D dA U) : va_K D vwCl [] U := ⟨h.1, fun k q hq => by simp at hq⟩
theorem mj_o_put (X : mj_X p l e R s m args below meth c own cc ret D dA B nL mc ms Q) {i ci fk a t n : Nat} {r : vw_C} {v : mj_V} {M' : mj_M} {ty : Nat → FieldType} (hd : decode cc pc = .ok (.putfield i, 3)) (hr : vwCl[ci]? = some r) (hk : fk < r.2.2) (hlay : ∀ w ∈ u_ws r.1 r.2.1 r.2.2, w ∈ mj_tb) (hlink : Cond.fieldLink own i (r.2.1 fk).1 (r.2.1 fk).2.1 (r.2.1 fk).2.2.1 ∈ mj_tb)
    (hty : ∀ k, k < r.2.2 → parseFieldDescriptor (r.2.1 k).2.2.1 = some (ty k)) (hnm : ∀ x, x < r.2.2 → ∀ y, y < r.2.2 → x ≠ y → (r.2.1 x).2.1 ≠ (r.2.1 y).2.1) (hfin : (r.2.1 fk).2.2.2 = false ∨ (meth.name = "<init>" ∧ (r.2.1 fk).1 = own))
    (hG : G a = (t, n)) (ht : t % 1000 = ci + 1) (hw9 : t < 900000) (hn : narrow (ty fk) (mj_val v) = mj_val v) (hfit : fits (ty fk) (mj_val v) = true) (hu : (∀ x j, mj_in (M.1 x j)) → mj_ok v → mj_u (mj_so ci fk) M a fk v M') (kk : mj_J X (pc + 3) L st G M' cb sb) : mj_J X pc L (v :: .inr (.inr (some a)) :: st) G M cb sb := by
  intro H locs ls cells slots hH hS hL hst hc hs
  have hap := va_apart (own := own) X.2.1 hlay ty hty hnm (mj_vaK X.2.2.2.1) hr
  obtain ⟨hB, g1, -⟩ := hH.2.2 a t n hG (mj_ne ht)
  obtain ⟨cell, q1, q2, q3, q4⟩ := g1 ci r ht hr
  obtain ⟨hSl, hfc, kC, hkC, hkind⟩ := X.2.2.2.1.1 ci r hr
  obtain ⟨cf, kf, fi, f, hi, hsl⟩ := hSl fk hk
  obtain ⟨u1, u2, u3⟩ := hu hH.1 (mj_head hst)
  have hst' := (u_facts hfc hkC (u_lays X.2.1 hlay hk) hi).1
  have key : ∀ H' : Heap, H'[a]? = some (cell.setSlot f.slot (mj_val v)) → H'.size = H.size → (∀ q, q ≠ a → H'[q]? = H[q]?) → W p l e R s m args below meth c H' (locs ++ [⟨a, f.slot⟩]) cells slots (MQ below (mj_Q D dA B Q) args s mc ms (fun q => B ≤ q)) (F0 m (pc + 3) ls (st.map mj_val)) := by
    intro H' w1 w2 w3
    rw [hsl] at w1 ⊢
    refine kk H' _ ls cells slots (hH.set hG w2 w3 u3 (fun so x j hx => u1 so x j (fun q => hx q.1)) ?_ ?_) (hS.put w2 w3 (hB hw9)) hL (mj_tl (mj_tl hst)) hc hs
    · intro ci' r' e1 e2
      have e3 : ci' = ci := by omega
      subst e3
      obtain rfl : r' = r := Option.some.inj (e2.symm.trans hr)
      refine t_OB.to (V := updV (fun k => mj_sv (mj_so ci' k) M a k) fk (mj_val v)) ⟨_, w1, q2, q3, t_set q4 hap hk (mj_val v)⟩ (fun k _ => ?_)
      by_cases hkf : k = fk
      · subst hkf
        rw [u2]; simp [updV]
      · rw [u1 _ a k (fun q => hkf q.2)]; simp [updV, hkf]
    · intro j e1
      exact (mj_cl100 ht e1 hr).elim
  rcases hfin with hfin | ⟨hin2, hdecl⟩
  · have hlay1 := X.2.1 _ (hlay _ (u_in_lay hk))
    unfold u_lay at hlay1
    rw [if_neg (by rw [hfin]; decide)] at hlay1
    have h6 := u_store hfc hkC hkind hlay1 hi (hty fk hk) hn hfit
    exact W.putK X.1.1 X.1.2.1 (f := f) ⟨X.1.2.2.2.2, X.2.1 _ hlink, ⟨_, _, _, hi⟩, hst'⟩ (by rw [q2]; exact h6) q1 q3 (by rw [hsl]; exact k2_hasslot (q4 fk hk)) rfl rfl hd key
  · cases hb2 : (r.2.1 fk).2.2.2 with
    | false =>
      have hlay1 := X.2.1 _ (hlay _ (u_in_lay hk))
      unfold u_lay at hlay1
      rw [if_neg (by rw [hb2]; decide)] at hlay1
      have h6 := u_store hfc hkC hkind hlay1 hi (hty fk hk) hn hfit
      exact W.putK X.1.1 X.1.2.1 (f := f) ⟨X.1.2.2.2.2, X.2.1 _ hlink, ⟨_, _, _, hi⟩, hst'⟩ (by rw [q2]; exact h6) q1 q3 (by rw [hsl]; exact k2_hasslot (q4 fk hk)) rfl rfl hd key
    | true =>
      have hlay1 := X.2.1 _ (hlay _ (u_in_lay hk))
      unfold u_lay at hlay1
      rw [if_pos hb2] at hlay1
      have hcf : m.cls = cf := by
        obtain ⟨_, _, c', _, _, _, -, -, hf', -, -, -, hown2, -⟩ := Cond.laysFinal_spec hlay1
        have e1 : c' = cf := by have := hi.symm.trans hf'; simp at this; exact this.1.symm
        rw [hdecl] at hown2
        rw [← e1]; exact Option.some.inj (X.1.2.2.2.2.symm.trans hown2)
      have h6 := u_fits hfc hkC hkind (Or.inr hlay1) hi (hty fk hk) hn hfit
      exact W.putFinK X.1.1 X.1.2.1 X.1.2.2.2.2 (X.2.1 _ hlink) hi hst' hcf hin2 (by rw [q2]; exact h6) q1 q3 (by rw [hsl]; exact k2_hasslot (q4 fk hk)) rfl rfl hd key
theorem mj_idx {i : Int} {n : Nat} (hi : mj_in i) (h0 : 0 ≤ i) (h1 : i < n) : ¬ (Int32.ofInt i < 0 ∨ n ≤ (Int32.ofInt i).toNatClampNeg) := by
  rintro (q | q)
  · exact mj_nn hi h0 q
  · rw [mj_nat hi] at q; omega
theorem mj_arr (X : mj_X p l e R s m args below meth c own cc ret D dA B nL mc ms Q) {H : Heap} {a t n j : Nat} (hj : j < 7) (hH : mj_H D dA B G M H) (hG : G a = (t, n)) (ht : t % 1000 = 100 + j) : (t < 900000 → B ≤ a) ∧ H[a]? = some (arrV (dA j) n (fun k => mj_sv (mj_as j) M a k)) ∧ s.isArrayOf (arrV (dA j) n (fun k => mj_sv (mj_as j) M a k)) (mj_at j) := by
  obtain ⟨hB, -, g2⟩ := hH.2.2 a t n hG (mj_ne1 ht)
  exact ⟨hB, g2 j ht, (X.2.2.2.1.2.1 j hj).2 _ _⟩
theorem mj_H.ast {H H' : Heap} {a t n j k : Nat} {v : mj_V} {M' : mj_M} (hH : mj_H D dA B G M H) (hG : G a = (t, n)) (ht : t % 1000 = 100 + j) (hu : mj_u (mj_as j) M a k v M') (w1 : H'[a]? = some ((arrV (dA j) n (fun k => mj_sv (mj_as j) M a k)).setSlot k (mj_val v))) (w2 : H'.size = H.size) (w3 : ∀ q, q ≠ a → H'[q]? = H[q]?) : mj_H D dA B G M' H' := by
  obtain ⟨u1, u2, u3⟩ := hu
  refine hH.set hG w2 w3 u3 (fun so x j hx => u1 so x j (fun q => hx q.1)) ?_ ?_
  · intro ci r e1 e2
    exact (mj_cl100 e1 ht e2).elim
  · intro j' e1
    have e3 : j' = j := by omega
    subst e3
    rw [w1, arrV_store]
    congr 2
    funext q
    by_cases hq : q = k
    · subst hq
      rw [u2]; simp [updV]
    · rw [u1 _ a q (fun z => hq z.2)]; simp [updV, hq]
theorem mj_o_iaload (X : mj_X p l e R s m args below meth c own cc ret D dA B nL mc ms Q) {a t n : Nat} {i : Int} (hd : decode cc pc = .ok (.iaload, 1)) (hG : G a = (t, n)) (ht : t % 1000 = 100 + 0) (h0 : 0 ≤ i) (h1 : i < n) (kk : mj_J X (pc + 1) L (.inl (M.1 a i.toNat) :: st) G M cb sb) : mj_J X pc L (.inl i :: .inr (.inr (some a)) :: st) G M cb sb := by
  intro H locs ls cells slots hH hS hL hst hc hs
  have hi : mj_in i := mj_head hst
  obtain ⟨-, q1, q2⟩ := mj_arr X (by decide) hH hG ht
  refine W.iald X.1.1 X.1.2.1 (v := mj_val (.inl (M.1 a i.toNat))) q1 q2 (fun q => by cases q) (by rw [arrV_size]; exact mj_idx hi h0 h1) (by rw [mj_nat hi, arrV_read _ _ (by omega)]; rfl) rfl rfl hd ?_
  exact kk H locs ls cells slots hH hS hL (mj_cons (mj_tl (mj_tl hst)) (hH.1 a i.toNat)) hc hs
theorem mj_o_baload (X : mj_X p l e R s m args below meth c own cc ret D dA B nL mc ms Q) {a t n : Nat} {i : Int} (hd : decode cc pc = .ok (.baload, 1)) (hG : G a = (t, n)) (ht : t % 1000 = 100 + 1) (h0 : 0 ≤ i) (h1 : i < n) (kk : mj_J X (pc + 1) L (.inl (M.1 a i.toNat) :: st) G M cb sb) : mj_J X pc L (.inl i :: .inr (.inr (some a)) :: st) G M cb sb := by
  intro H locs ls cells slots hH hS hL hst hc hs
  have hi : mj_in i := mj_head hst
  obtain ⟨-, q1, q2⟩ := mj_arr X (by decide) hH hG ht
  refine W.bald X.1.1 X.1.2.1 (v := mj_val (.inl (M.1 a i.toNat))) q1 q2 (fun q => by cases q) (by rw [arrV_size]; exact mj_idx hi h0 h1) (by rw [mj_nat hi, arrV_read _ _ (by omega)]; rfl) rfl rfl hd ?_
  exact kk H locs ls cells slots hH hS hL (mj_cons (mj_tl (mj_tl hst)) (hH.1 a i.toNat)) hc hs
theorem mj_o_zaload (X : mj_X p l e R s m args below meth c own cc ret D dA B nL mc ms Q) {a t n : Nat} {i : Int} (hd : decode cc pc = .ok (.baload, 1)) (hG : G a = (t, n)) (ht : t % 1000 = 100 + 2) (h0 : 0 ≤ i) (h1 : i < n) (kk : mj_J X (pc + 1) L (.inl (M.1 a i.toNat) :: st) G M cb sb) : mj_J X pc L (.inl i :: .inr (.inr (some a)) :: st) G M cb sb := by
  intro H locs ls cells slots hH hS hL hst hc hs
  have hi : mj_in i := mj_head hst
  obtain ⟨-, q1, q2⟩ := mj_arr X (by decide) hH hG ht
  refine W.zald X.1.1 X.1.2.1 (v := mj_val (.inl (M.1 a i.toNat))) q1 q2 (fun q => by cases q) (by rw [arrV_size]; exact mj_idx hi h0 h1) (by rw [mj_nat hi, arrV_read _ _ (by omega)]; rfl) rfl rfl hd ?_
  exact kk H locs ls cells slots hH hS hL (mj_cons (mj_tl (mj_tl hst)) (hH.1 a i.toNat)) hc hs
theorem mj_o_laload (X : mj_X p l e R s m args below meth c own cc ret D dA B nL mc ms Q) {a t n : Nat} {i : Int} (hd : decode cc pc = .ok (.laload, 1)) (hG : G a = (t, n)) (ht : t % 1000 = 100 + 3) (h0 : 0 ≤ i) (h1 : i < n) (kk : mj_J X (pc + 1) L (.inr (.inl (M.2.1 a i.toNat)) :: st) G M cb sb) : mj_J X pc L (.inl i :: .inr (.inr (some a)) :: st) G M cb sb := by
  intro H locs ls cells slots hH hS hL hst hc hs
  have hi : mj_in i := mj_head hst
  obtain ⟨-, q1, q2⟩ := mj_arr X (by decide) hH hG ht
  refine W.lald X.1.1 X.1.2.1 (v := mj_val (.inr (.inl (M.2.1 a i.toNat)))) q1 q2 (fun q => by cases q) (by rw [arrV_size]; exact mj_idx hi h0 h1) (by rw [mj_nat hi, arrV_read _ _ (by omega)]; rfl) rfl rfl hd ?_
  exact kk H locs ls cells slots hH hS hL (mj_cons (mj_tl (mj_tl hst)) trivial) hc hs
theorem mj_o_aaload (X : mj_X p l e R s m args below meth c own cc ret D dA B nL mc ms Q) {a t n j : Nat} {i : Int} (hd : decode cc pc = .ok (.aaload, 1)) (hG : G a = (t, n)) (ht : t % 1000 = 100 + j) (hj : j < 7) (hr : (mj_at j).isReference = true) (hso : mj_as j = 2) (h0 : 0 ≤ i) (h1 : i < n) (kk : mj_rf (M.2.2 a i.toNat) fun v => mj_J X (pc + 1) L (v :: st) G M cb sb) : mj_J X pc L (.inl i :: .inr (.inr (some a)) :: st) G M cb sb := by
  intro H locs ls cells slots hH hS hL hst hc hs
  have hi : mj_in i := mj_head hst
  obtain ⟨-, q1, q2⟩ := mj_arr X hj hH hG ht
  refine W.aald X.1.1 X.1.2.1 (v := mj_val (.inr (.inr (M.2.2 a i.toNat)))) q1 q2 hr (fun q => by cases q) (by rw [arrV_size]; exact mj_idx hi h0 h1) (by rw [mj_nat hi, arrV_read _ _ (by omega), hso]; rfl) rfl rfl hd ?_
  cases hm : M.2.2 a i.toNat with
  | none => exact kk.2 hm H locs ls cells slots hH hS hL (mj_cons (mj_tl (mj_tl hst)) trivial) hc hs
  | some b => exact kk.1 b hm H locs ls cells slots hH hS hL (mj_cons (mj_tl (mj_tl hst)) trivial) hc hs
theorem mj_o_iastore (X : mj_X p l e R s m args below meth c own cc ret D dA B nL mc ms Q) {a t n : Nat} {i : Int} {z : Int} (hd : decode cc pc = .ok (.iastore, 1)) (hG : G a = (t, n)) (ht : t % 1000 = 100 + 0) (hw9 : t < 900000) (h0 : 0 ≤ i) (h1 : i < n) (kk : mj_J X (pc + 1) L st G (mj_p0 M a i.toNat z) cb sb) : mj_J X pc L (.inl z :: .inl i :: .inr (.inr (some a)) :: st) G M cb sb := by
  intro H locs ls cells slots hH hS hL hst hc hs
  have hi : mj_in i := mj_head (mj_tl hst)
  obtain ⟨hB, q1, q2⟩ := mj_arr X (by decide) hH hG ht
  refine W.iast X.1.1 X.1.2.1 q1 q2 (fun q => by cases q) (by rw [arrV_size]; exact mj_idx hi h0 h1) rfl rfl hd (fun H' w1 w2 w3 => ?_)
  · rw [mj_nat hi] at w1 ⊢
    exact kk H' _ ls cells slots (hH.ast (v := .inl z) hG ht (mj_u0 hH.1 (mj_head hst)) w1 w2 w3) (hS.put w2 w3 (hB hw9)) hL (mj_tl (mj_tl (mj_tl hst))) hc hs
theorem mj_o_bastore (X : mj_X p l e R s m args below meth c own cc ret D dA B nL mc ms Q) {a t n : Nat} {i : Int} {z : Int} (hd : decode cc pc = .ok (.bastore, 1)) (hG : G a = (t, n)) (ht : t % 1000 = 100 + 1) (hw9 : t < 900000) (h0 : 0 ≤ i) (h1 : i < n) (kk : mj_J X (pc + 1) L st G (mj_p0 M a i.toNat (mj_nb z)) cb sb) : mj_J X pc L (.inl z :: .inl i :: .inr (.inr (some a)) :: st) G M cb sb := by
  intro H locs ls cells slots hH hS hL hst hc hs
  have hi : mj_in i := mj_head (mj_tl hst)
  obtain ⟨hB, q1, q2⟩ := mj_arr X (by decide) hH hG ht
  refine W.bast X.1.1 X.1.2.1 q1 q2 (fun q => by cases q) (by rw [arrV_size]; exact mj_idx hi h0 h1) rfl rfl hd (fun H' w1 w2 w3 => ?_)
  · rw [mj_nat hi] at w1 ⊢
    have e : narrow .byte (.int (Int32.ofInt z)) = mj_val (.inl (mj_nb z)) := by
      show Value.int (Int32.ofInt z).toInt8.toInt32 = Value.int (Int32.ofInt (Int32.ofInt z).toInt8.toInt32.toInt)
      rw [mj_it]
    rw [e] at w1
    exact kk H' _ ls cells slots (hH.ast (v := .inl (mj_nb z)) hG ht (mj_u0 hH.1 (mj_rng _)) w1 w2 w3) (hS.put w2 w3 (hB hw9)) hL (mj_tl (mj_tl (mj_tl hst))) hc hs
theorem mj_o_zastore (X : mj_X p l e R s m args below meth c own cc ret D dA B nL mc ms Q) {a t n : Nat} {i : Int} {z : Int} (hd : decode cc pc = .ok (.bastore, 1)) (hG : G a = (t, n)) (ht : t % 1000 = 100 + 2) (hz : z = 0 ∨ z = 1) (hw9 : t < 900000) (h0 : 0 ≤ i) (h1 : i < n) (kk : mj_J X (pc + 1) L st G (mj_p0 M a i.toNat z) cb sb) : mj_J X pc L (.inl z :: .inl i :: .inr (.inr (some a)) :: st) G M cb sb := by
  intro H locs ls cells slots hH hS hL hst hc hs
  have hi : mj_in i := mj_head (mj_tl hst)
  obtain ⟨hB, q1, q2⟩ := mj_arr X (by decide) hH hG ht
  refine W.zast X.1.1 X.1.2.1 q1 q2 (fun q => by cases q) (by rw [arrV_size]; exact mj_idx hi h0 h1) rfl rfl hd (fun H' w1 w2 w3 => ?_)
  · rw [mj_nat hi] at w1 ⊢
    have e : narrow .boolean (.int (Int32.ofInt z)) = mj_val (.inl z) := by rcases hz with rfl | rfl <;> rfl
    rw [e] at w1
    exact kk H' _ ls cells slots (hH.ast (v := .inl z) hG ht (mj_u0 hH.1 (mj_head hst)) w1 w2 w3) (hS.put w2 w3 (hB hw9)) hL (mj_tl (mj_tl (mj_tl hst))) hc hs
theorem mj_o_lastore (X : mj_X p l e R s m args below meth c own cc ret D dA B nL mc ms Q) {a t n : Nat} {i : Int} {z : Int64} (hd : decode cc pc = .ok (.lastore, 1)) (hG : G a = (t, n)) (ht : t % 1000 = 100 + 3) (hw9 : t < 900000) (h0 : 0 ≤ i) (h1 : i < n) (kk : mj_J X (pc + 1) L st G (mj_p1 M a i.toNat z) cb sb) : mj_J X pc L (.inr (.inl z) :: .inl i :: .inr (.inr (some a)) :: st) G M cb sb := by
  intro H locs ls cells slots hH hS hL hst hc hs
  have hi : mj_in i := mj_head (mj_tl hst)
  obtain ⟨hB, q1, q2⟩ := mj_arr X (by decide) hH hG ht
  refine W.last X.1.1 X.1.2.1 q1 q2 (fun q => by cases q) (by rw [arrV_size]; exact mj_idx hi h0 h1) rfl rfl hd (fun H' w1 w2 w3 => ?_)
  · rw [mj_nat hi] at w1 ⊢
    exact kk H' _ ls cells slots (hH.ast (v := .inr (.inl z)) hG ht (mj_u1 hH.1) w1 w2 w3) (hS.put w2 w3 (hB hw9)) hL (mj_tl (mj_tl (mj_tl hst))) hc hs
theorem mj_o_alen (X : mj_X p l e R s m args below meth c own cc ret D dA B nL mc ms Q) {a t n j : Nat} (hd : decode cc pc = .ok (.arraylength, 1)) (hG : G a = (t, n)) (ht : t % 1000 = 100 + j) (hj : j < 7) (hn : mj_in n) (kk : mj_J X (pc + 1) L (.inl (n : Int) :: st) G M cb sb) : mj_J X pc L (.inr (.inr (some a)) :: st) G M cb sb := by
  intro H locs ls cells slots hH hS hL hst hc hs
  obtain ⟨-, q1, q2⟩ := mj_arr X hj hH hG ht
  refine W.alen (n := Int32.ofInt n) X.1.1 X.1.2.1 q1 q2 (by rw [arrV_size]; rfl) rfl rfl hd ?_
  exact kk H locs ls cells slots hH hS hL (mj_cons (mj_tl hst) hn) hc hs
theorem mj_fin (X : mj_X p l e R s m args below meth c own cc ret D dA B nL mc ms Q) {H : Heap} {locs : List Loc} {r : Option mj_V} (hH : mj_H D dA B G M H) (hS : va_S (fun q => B ≤ q) s.heap H locs) (hr : ∀ v, r = some v → mj_ok v) (kk : Q r G M) : ∀ t : State, t.heap = H → s.WarmedH t.vm → mj_Q D dA B Q args s (.returned (r.map mj_val)) t := by
  intro t ht hW
  exact ⟨r, G, M, rfl, kk, hr, by rw [ht]; exact hH, mj_K.moved hW.alike X.2.2.2.1, hS.F ht⟩
theorem mj_o_return (X : mj_X p l e R s m args below meth c own cc ret D dA B nL mc ms Q) (hd : decode cc pc = .ok (.return_, 1)) (hr : ret = none) (kk : Q none G M) : mj_J X pc L [] G M cb sb := by
  intro H locs ls cells slots hH hS hL hst hc hs
  refine W.widen (k := mc) (n := ms) (by omega) (by omega) ?_
  exact W.vret X.1.1 X.1.2.1 (X.1.2.2.2.1.trans hr) (mj_fin X hH hS (fun v q => by cases q) kk) hS.2.2 hd X.2.2.1
theorem mj_o_ireturn (X : mj_X p l e R s m args below meth c own cc ret D dA B nL mc ms Q) {z : Int} (hd : decode cc pc = .ok (.ireturn, 1)) (hr : ret = some .int ∨ (ret = some .boolean ∧ (z = 0 ∨ z = 1))) (kk : Q (some (.inl z)) G M) : mj_J X pc L [.inl z] G M cb sb := by
  intro H locs ls cells slots hH hS hL hst hc hs
  refine W.widen (k := mc) (n := ms) (by omega) (by omega) ?_
  have hz : mj_in z := mj_head hst
  have hq := mj_fin X hH hS (r := some (.inl z)) (fun v q => by cases q; exact hz) kk
  rcases hr with hr | ⟨hr, h2⟩
  · exact W.iret X.1.1 X.1.2.1 (X.1.2.2.2.1.trans hr) hq hS.2.2 hd X.2.2.1
  · exact W.zret X.1.1 X.1.2.1 (X.1.2.2.2.1.trans hr) (by rcases h2 with rfl | rfl <;> rfl) hq hS.2.2 hd X.2.2.1
end MJH
end
section
/-! ===== new cells, calls ===== -/
theorem mj_good {ws : List Cond} (h : ∀ w ∈ ws, w ∈ mj_tb) : GoodIn mj_tb ws := fun w hw => ⟨h w hw, (mj_tb_good w (h w hw)).2⟩
theorem mj_sv_z {so : Nat} {M : mj_M} {a x j : Nat} (h : x ≠ a) : mj_sv so (mj_z M a) x j = mj_sv so M x j := by
  unfold mj_sv mj_z
  dsimp only
  rw [if_neg h, if_neg h, if_neg h]
theorem mj_sv_z0 {M : mj_M} {a j : Nat} (ty : FieldType) (h : ty ≠ .float ∧ ty ≠ .double) : mj_sv (mj_fs ty) (mj_z M a) a j = defaultValue ty := by
  unfold mj_sv mj_z
  cases ty <;> simp [mj_fs, defaultValue, va_rf] at h ⊢
theorem mj_H.push1 {D : va_G} {dA : Nat → ClassId} {B : Nat} {G : mj_G} {M : mj_M} {H H' : Heap} {t n : Nat} (h : mj_H D dA B G M H) (hB : B ≤ H.size) (w2 : H'.size = H.size + 1) (w3 : ∀ q : Nat, q < H.size → H'[q]? = H[q]?)
    (h1 : ∀ (ci : Nat) (r : vw_C), t % 1000 = ci + 1 → vwCl[ci]? = some r → t_OB H.size (D.1 ci) r.2.2 (D.2 ci) H' (fun k => mj_sv (mj_so ci k) (mj_z M H.size) H.size k))
    (h50 : t % 1000 ≠ 50) (h2 : ∀ j : Nat, t % 1000 = 100 + j → H'[H.size]? = some (arrV (dA j) n (fun k => mj_sv (mj_as j) (mj_z M H.size) H.size k))) : mj_H D dA B (mj_g G H.size t n) (mj_z M H.size) H' := by
  refine ⟨fun a k => ?_, ?_, fun x t' n' hx ht => ?_⟩
  · unfold mj_z
    dsimp only
    split
    · exact ⟨by decide, by decide⟩
    · exact h.1 a k
  · refine ⟨fun x hx => ?_, h.2.1.2.add (N := H.size) h.2.1.1 (fun x hx => if_neg (by omega)) (fun x t' n' hx hx2 => ?_)⟩
    · unfold mj_g
      rw [if_neg (by omega)]
      exact h.2.1.1 x (by omega)
    · unfold mj_g at hx2
      split at hx2
      · rw [← (Prod.mk.inj hx2).1]; exact h50
      · rw [h.2.1.1 x hx] at hx2; rw [← (Prod.mk.inj hx2).1]; decide
  · unfold mj_g at hx
    split at hx
    · rename_i hxa
      subst hxa
      obtain ⟨rfl, rfl⟩ := Prod.mk.inj hx
      exact ⟨fun _ => hB, h1, h2⟩
    · rename_i hxa
      have hlt : x < H.size := by
        rcases Nat.lt_or_ge x H.size with q | q
        · exact q
        · have := h.2.1.1 x q
          rw [hx] at this
          exact absurd (Prod.mk.inj this).1 ht
      obtain ⟨hB', g1, g2⟩ := h.2.2 x t' n' hx ht
      refine ⟨hB', fun ci r e1 e2 => ((g1 ci r e1 e2).kept (w3 x hlt)).to (fun k _ => (mj_sv_z hxa).symm), fun j e1 => ?_⟩
      rw [w3 x hlt, g2 j e1]
      congr 2
      funext k
      exact (mj_sv_z hxa).symm
theorem mj_S_up {A : Nat → Prop} {H0 H H' : Heap} {locs : List Loc} (hS : va_S A H0 H locs) (w2 : H.size ≤ H'.size) (w3 : ∀ q : Nat, q < H.size → H'[q]? = H[q]?) : va_S A H0 H' locs :=
  ⟨Nat.le_trans hS.1 w2, fun q h1 h2 => by rw [w3 q (Nat.lt_of_lt_of_le h1 hS.1)]; exact hS.2.1 q h1 h2, hS.2.2⟩
def mj_Pc (D : va_G) (dA : Nat → ClassId) (B : Nat) (av : List mj_V) (G : mj_G) (M : mj_M) : Array Value → State → Prop := va_Pc (av.map mj_val) (fun U => mj_H D dA B G M U.heap ∧ mj_K D dA U ∧ (∀ v ∈ av, mj_ok v) ∧ (B ≤ U.heap.size ∧ mj_EW dA B U U.heap))
def mj_rm (d : Nat) (q : Nat × Nat) : Room := { frames := d, cells := q.1, slots := q.2, locals := 100 * d + 100 }
theorem mj_blind {D : va_G} {dA : Nat → ClassId} {B : Nat} {av : List mj_V} {G : mj_G} {M : mj_M} : FrameBlind (mj_Pc D dA B av G M) := by
  intro a U g mk q
  obtain ⟨q0, q1, q2, q3, q4⟩ := q
  exact ⟨q0, q1, mj_K.moved (u := U) (U := U.calling g mk a) (Vm.Alike.refl U.vm) q2, q3, q4.1, q4.2.1.moved (u := U) (U := U.calling g mk a) (Vm.Alike.refl U.vm), q4.2.2.1.moved (u := U) (U := U.calling g mk a) (Vm.Alike.refl U.vm), q4.2.2.2.moved (u := U) (U := U.calling g mk a) (Vm.Alike.refl U.vm)⟩
theorem mj_map_ret (r : Option mj_V) (st : List mj_V) : (r.map mj_val).toList ++ st.map mj_val = (mj_ret r st).map mj_val := by
  cases r <;> rfl
theorem mj_cat_eq : ∀ st : List mj_V, ((st.map mj_val).map fun v => v.category).sum = mj_cat st
  | [] => rfl
  | v :: t => by
    have ih := mj_cat_eq t
    rcases v with z | w | r
    · simp only [List.map_cons, List.sum_cons, ih]; rfl
    · simp only [List.map_cons, List.sum_cons, ih]; rfl
    · cases r <;> (simp only [List.map_cons, List.sum_cons, ih]; rfl)
section MJC
variable {p : Program} {l : Launch} {e : Env} {R : Room} {s : State} {m : MethodId} {args : Array Value} {below : List Frame} {meth : Method} {c : Code} {own : String} {cc : ByteArray} {ret : Option FieldType} {D : va_G} {dA : Nat → ClassId} {B nL mc ms : Nat} {Q : mj_P}
variable {pc : Nat} {L : mj_L} {st : List mj_V} {G : mj_G} {M : mj_M} {cb sb : Nat}
theorem mj_o_new (X : mj_X p l e R s m args below meth c own cc ret D dA B nL mc ms Q) {i ci N t : Nat} {r : vw_C} (hd : decode cc pc = .ok (.new i, 3)) (hr : vwCl[ci]? = some r) (hlay : ∀ w ∈ u_ws r.1 r.2.1 r.2.2, w ∈ mj_tb) (hty : ∀ k, k < r.2.2 → parseFieldDescriptor (r.2.1 k).2.2.1 = some (mj_ty ci k)) (hnf : ∀ k, k < r.2.2 → mj_ty ci k ≠ .float ∧ mj_ty ci k ≠ .double)
    (hw1 : Cond.classLink own i r.1 ∈ mj_tb) (hw2 : Cond.instantiable r.1 N ∈ mj_tb) (hw3 : Cond.initialized r.1 ∈ mj_tb) (ht : t % 1000 = ci + 1) (h1 : 1 ≤ cb) (h2 : N ≤ sb)
    (kk : ∀ a, (∀ x, a ≤ x → G x = (0, 0)) → mj_J X (pc + 3) L (.inr (.inr (some a)) :: st) (mj_g G a t 0) (mj_z M a) (cb - 1) (sb - N)) : mj_J X pc L st G M cb sb := by
  intro H locs ls cells slots hH hS hL hst hc hs
  obtain ⟨hSl, hfc, -⟩ := id (X.2.2.2.1.1 ci r hr)
  have hm1 : mc ≤ R.cells := X.2.2.2.2.2.2.2.1
  have hm2 : ms ≤ R.slots := X.2.2.2.2.2.2.2.2
  refine W.newcK X.1.1 X.1.2.1 X.1.2.2.2.2 (X.2.1 _ hw1) (X.2.1 _ hw2) (X.2.1 _ hw3) rfl hd (by omega) (by omega) hfc rfl (fun H' kC hkC w1 w2 w3 => ?_)
  refine kk H.size hH.2.1.1 H' locs ls (cells + 1) (slots + N) (hH.push1 (Nat.le_trans X.2.2.2.2.1.1 hS.1) w2 w3 ?_ (mj_cl50 ht hr) ?_) (mj_S_up hS (by omega) w3) hL (mj_cons hst trivial) (by omega) (by omega)
  · intro ci' r' e1 e2
    have e3 : ci' = ci := by omega
    subst e3
    obtain rfl : r' = r := Option.some.inj (e2.symm.trans hr)
    exact (u_born (mj_ty ci') X.2.1 hlay (X.2.2.2.1.1 ci' r' hr) hkC w1 hty).to (fun k hk => (mj_sv_z0 _ (hnf k hk)).symm)
  · intro j e1
    exact (mj_cl100 ht e1 hr).elim
theorem mj_o_newarray (X : mj_X p l e R s m args below meth c own cc ret D dA B nL mc ms Q) {aty : ArrayType} {j t : Nat} {z : Int} (hd : decode cc pc = .ok (.newarray aty, 2)) (hj : j < 4) (hja : newarray.typeOf aty = mj_at j) (hw : Cond.arrayClass (mj_at j) ∈ mj_tb) (ht : t % 1000 = 100 + j) (h0 : 0 ≤ z) (h9 : z ≤ 100000) (h1 : 1 ≤ cb) (h2 : z.toNat ≤ sb)
    (kk : ∀ a, (∀ x, a ≤ x → G x = (0, 0)) → mj_J X (pc + 2) L (.inr (.inr (some a)) :: st) (mj_g G a t z.toNat) (mj_z M a) (cb - 1) (sb - z.toNat)) : mj_J X pc L (.inl z :: st) G M cb sb := by
  intro H locs ls cells slots hH hS hL hst hc hs
  have hz : mj_in z := mj_head hst
  have hm1 : mc ≤ R.cells := X.2.2.2.2.2.2.2.1
  have hm2 : ms ≤ R.slots := X.2.2.2.2.2.2.2.2
  refine W.newa X.1.1 X.1.2.1 (by rw [hja]; exact X.2.1 _ hw) rfl hd rfl (mj_nn hz h0) (by rw [mj_nat hz, hja]; rcases (show j = 0 ∨ j = 1 ∨ j = 2 ∨ j = 3 by omega) with rfl | rfl | rfl | rfl <;> (simp only [mj_at, componentBytes]; omega)) (by omega) (by rw [mj_nat hz]; omega) (fun cA kA comp f1 f2 f3 => ?_)
  rw [hja] at f1
  have hcA : cA = dA j := Option.some.inj (f1.symm.trans (X.2.2.2.1.2.1 j (by omega)).1)
  subst hcA
  rw [mj_nat hz, hja, arrV_new]
  refine kk H.size hH.2.1.1 _ locs ls (cells + 1) (slots + z.toNat) (hH.push1 (Nat.le_trans X.2.2.2.2.1.1 hS.1) (by simp) (fun q hq => by simp [Array.getElem?_push, Nat.ne_of_lt hq]) ?_ (by omega) ?_) (mj_S_up hS (by simp) (fun q hq => by simp [Array.getElem?_push, Nat.ne_of_lt hq])) hL (mj_cons (mj_tl hst) trivial) (by omega) (by omega)
  · intro ci r e1 e2
    exact (mj_cl100 e1 ht e2).elim
  · intro j' e1
    have e3 : j' = j := by omega
    subst e3
    rw [Array.getElem?_push, if_pos rfl]
    congr 2
    funext k
    exact (mj_sv_z0 _ (by rcases (show j' = 0 ∨ j' = 1 ∨ j' = 2 ∨ j' = 3 by omega) with rfl | rfl | rfl | rfl <;> (constructor <;> decide))).symm
/-- behind a call -/
theorem mj_after (X : mj_X p l e R s m args below meth c own cc ret D dA B nL mc ms Q) {H : Heap} {locs : List Loc} {ls : Array Slot} {cells slots mc' ms' : Nat} {st0 : List Value} {a : Array Value} {Q2 : mj_P} (hr : va_Run p l e R s m args below meth c H locs cells slots mc' ms' (F0 m pc ls st0) (st.map mj_val) (mj_Q D dA B Q2 a) (fun q => B ≤ q))
    (hS : va_S (fun q => B ≤ q) s.heap H locs) (hL : mj_LO ls nL L) (hst : ∀ v ∈ st, mj_ok v) (hc : cells + cb ≤ mc) (hs : slots + sb ≤ ms) (h1 : mc' ≤ cb) (h2 : ms' ≤ sb) (kk : ∀ r G M, Q2 r G M → mj_J X (pc + 3) L (mj_ret r st) G M (cb - mc') (sb - ms')) :
    W p l e R s m args below meth c H locs cells slots (MQ below (mj_Q D dA B Q) args s mc ms (fun q => B ≤ q)) (F0 m pc ls st0) := by
  intro T hT XS
  obtain ⟨v, st₀, t, T', L', h0, X', hL', e1, e2, ⟨r, G', M', hv, hq, hok, hH', hK', hz, hk⟩, stp⟩ := hr T hT XS
  obtain rfl : v = r.map mj_val := Outcome.returned.inj hv
  rw [h0] at hz hk
  have hS' : va_S (fun q => B ≤ q) s.heap T'.heap (locs ++ L') := ⟨Nat.le_trans hS.1 (by rw [e1]; exact hz), fun q h1 h2 => by rw [e1, hk q (Nat.lt_of_lt_of_le h1 hS.1) h2]; exact hS.2.1 q h1 h2, fun q hq => by
      rcases List.mem_append.mp hq with h | h
      · exact hS.2.2 q h
      · exact hL' q h⟩
  have hok' : ∀ v ∈ mj_ret r st, mj_ok v := by
    cases r with
    | none => exact hst
    | some v => exact mj_cons hst (hok v rfl)
  obtain ⟨t2, a1, b1⟩ := kk r G' M' hq T'.heap (locs ++ L') ls (cells + mc') (slots + ms') (by rw [e1]; exact hH') hS' hL hok' (by omega) (by omega) T' rfl X'
  refine ⟨t2, stp t2 ?_, b1⟩
  rw [← mj_map_ret] at a1
  exact a1
theorem mj_o_callV (X : mj_X p l e R s m args below meth c own cc ret D dA B nL mc ms Q) {i a t n N ci d maxL mc' ms' : Nat} {y : MethodName} {bytes : ByteArray} {rt : Option FieldType} {As : List mj_V} {Q2 : mj_P} {r : vw_C} (hd : decode cc pc = .ok (.invokevirtual i, 3))
    (hM : Met l y (.code y bytes maxL rt :: mj_tb) (mj_rm d (mc', ms')) (mj_Pc D dA B (.inr (.inr (some a)) :: As) G M) (mj_Q D dA B Q2) mc' ms' (fun q => B ≤ q)) (hR : d + 1 ≤ R.frames ∧ 8 + (maxL + 11) + (100 * d + 100) ≤ R.locals)
    (hr : vwCl[ci]? = some r) (hy : y.cls = r.1) (hy2 : y.cls ≠ "java/lang/invoke/MethodHandle" ∧ y.cls ≠ "java/lang/invoke/VarHandle" ∧ (parseMethodDescriptor y.desc).map (fun d => d.parameters.length) = some N) (hN : As.length = N)
    (hw1 : Cond.methodLink own i y ∈ mj_tb) (hw2 : Cond.instanceMethod y ∈ mj_tb) (hw3 : Cond.selects r.1 y y ∈ mj_tb) (hw4 : Cond.initialized r.1 ∈ mj_tb) (hw5 : Cond.code y bytes maxL rt ∈ mj_tb)
    (hG : G a = (t, n)) (ht : t % 1000 = ci + 1) (h8 : mj_cat st ≤ 8) (h1 : mc' ≤ cb) (h2 : ms' ≤ sb) (kk : ∀ r G M, Q2 r G M → mj_J X (pc + 3) L (mj_ret r st) G M (cb - mc') (sb - ms')) : mj_J X pc L (As.reverse ++ .inr (.inr (some a)) :: st) G M cb sb := by
  intro H locs ls cells slots hH hS hL hst hc hs
  have hm1 : mc ≤ R.cells := X.2.2.2.2.2.2.2.1
  have hm2 : ms ≤ R.slots := X.2.2.2.2.2.2.2.2
  obtain ⟨-, g1, -⟩ := hH.2.2 a t n hG (mj_ne ht)
  obtain ⟨cell, q1, q2, q3, q4⟩ := g1 ci r ht hr
  obtain ⟨hSl, hfc, -⟩ := id (X.2.2.2.1.1 ci r hr)
  have hstA : ∀ v ∈ As, mj_ok v := fun v hv => hst v (List.mem_append_left _ (List.mem_reverse.mpr hv))
  have hst' : ∀ v ∈ st, mj_ok v := fun v hv => hst v (List.mem_append_right _ (List.mem_cons_of_mem _ hv))
  have hgood : GoodIn mj_tb (wsV own i r.1 y (.code y bytes maxL rt :: mj_tb)) := mj_good fun w hw => by
    simp only [wsV, List.cons_append, List.nil_append, List.mem_cons] at hw
    rcases hw with rfl | rfl | rfl | rfl | rfl | hw
    · exact hw1
    · exact hw2
    · exact hw3
    · exact hw4
    · exact hw5
    · exact hw
  refine mj_after X (va_runV (As := As.map mj_val) (rest := st.map mj_val) (b := a) ⟨X.1.1, X.1.2.1, X.1.2.2.1, X.1.2.2.2.2, X.2.1⟩ hM (cwV N X.2.1 hgood rfl rfl rfl ⟨hy, hy2⟩ hR) ⟨mj_blind, ⟨cell, q1, by rw [q3]; rfl, by rw [q2]; exact hfc⟩, fun U hU hW => ⟨rfl, by rw [hU]; exact hH, mj_K.moved hW.alike X.2.2.2.1, mj_cons hstA trivial, ⟨by rw [hU]; exact Nat.le_trans X.2.2.2.2.1.1 hS.1, X.2.2.2.2.1.2.go hS hU hW.alike⟩⟩⟩ rfl (by rw [List.length_map]; exact hN) hL.1.1 (by simp [List.map_append, List.map_reverse, mj_val, va_rf]) (by rw [mj_cat_eq]; show 2 * 0 + mj_cat st ≤ 8; omega) hd ⟨by omega, by omega⟩) hS hL hst' hc hs h1 h2 kk
theorem mj_o_callS (X : mj_X p l e R s m args below meth c own cc ret D dA B nL mc ms Q) {i N d maxL mc' ms' : Nat} {y : MethodName} {bytes : ByteArray} {rt : Option FieldType} {As : List mj_V} {Q2 : mj_P} (hd : decode cc pc = .ok (.invokestatic i, 3))
    (hM : Met l y (.code y bytes maxL rt :: mj_tb) (mj_rm d (mc', ms')) (mj_Pc D dA B As G M) (mj_Q D dA B Q2) mc' ms' (fun q => B ≤ q)) (hR : d + 1 ≤ R.frames ∧ 8 + (maxL + 11) + (100 * d + 100) ≤ R.locals)
    (hy2 : y.cls ≠ "java/lang/invoke/MethodHandle" ∧ y.cls ≠ "java/lang/invoke/VarHandle" ∧ (parseMethodDescriptor y.desc).map (fun d => d.parameters.length) = some N) (hN : As.length = N)
    (hw1 : Cond.methodLink own i y ∈ mj_tb) (hw2 : Cond.static y ∈ mj_tb) (hw4 : Cond.initialized y.cls ∈ mj_tb) (hw5 : Cond.code y bytes maxL rt ∈ mj_tb)
    (h8 : mj_cat st ≤ 8) (h1 : mc' ≤ cb) (h2 : ms' ≤ sb) (kk : ∀ r G M, Q2 r G M → mj_J X (pc + 3) L (mj_ret r st) G M (cb - mc') (sb - ms')) : mj_J X pc L (As.reverse ++ st) G M cb sb := by
  intro H locs ls cells slots hH hS hL hst hc hs
  have hm1 : mc ≤ R.cells := X.2.2.2.2.2.2.2.1
  have hm2 : ms ≤ R.slots := X.2.2.2.2.2.2.2.2
  have hstA : ∀ v ∈ As, mj_ok v := fun v hv => hst v (List.mem_append_left _ (List.mem_reverse.mpr hv))
  have hst' : ∀ v ∈ st, mj_ok v := fun v hv => hst v (List.mem_append_right _ hv)
  have hgood : GoodIn mj_tb (va_wsS own i y (.code y bytes maxL rt :: mj_tb)) := mj_good fun w hw => by
    simp only [va_wsS, List.cons_append, List.nil_append, List.mem_cons] at hw
    rcases hw with rfl | rfl | rfl | rfl | hw
    · exact hw1
    · exact hw2
    · exact hw4
    · exact hw5
    · exact hw
  refine mj_after X (va_runS (As := As.map mj_val) (rest := st.map mj_val) ⟨X.1.1, X.1.2.1, X.1.2.2.1, X.1.2.2.2.2, X.2.1⟩ hM (va_cwS N X.2.1 hgood rfl rfl rfl hy2 hR) ⟨mj_blind, fun U hU hW => ⟨rfl, by rw [hU]; exact hH, mj_K.moved hW.alike X.2.2.2.1, hstA, ⟨by rw [hU]; exact Nat.le_trans X.2.2.2.2.1.1 hS.1, X.2.2.2.2.1.2.go hS hU hW.alike⟩⟩⟩ rfl (by rw [List.length_map]; exact hN) hL.1.1 (by simp [List.map_append, List.map_reverse]) (by rw [mj_cat_eq]; show 2 * 0 + mj_cat st ≤ 8; omega) hd ⟨by omega, by omega⟩) hS hL hst' hc hs h1 h2 kk
theorem mj_o_callI (X : mj_X p l e R s m args below meth c own cc ret D dA B nL mc ms Q) {i a N d maxL mc' ms' : Nat} {y : MethodName} {bytes : ByteArray} {As : List mj_V} {Q2 : mj_P} (hd : decode cc pc = .ok (.invokespecial i, 3))
    (hM : Met l y (.code y bytes maxL none :: mj_tb) (mj_rm d (mc', ms')) (mj_Pc D dA B (.inr (.inr (some a)) :: As) G M) (mj_Q D dA B Q2) mc' ms' (fun q => B ≤ q)) (hR : d + 1 ≤ R.frames ∧ 8 + (maxL + 11) + (100 * d + 100) ≤ R.locals) (hn : y.name = "<init>")
    (hy2 : y.cls ≠ "java/lang/invoke/MethodHandle" ∧ y.cls ≠ "java/lang/invoke/VarHandle" ∧ (parseMethodDescriptor y.desc).map (fun d => d.parameters.length) = some N) (hN : As.length = N)
    (hw1 : Cond.methodLink own i y ∈ mj_tb) (hw2 : Cond.instanceMethod y ∈ mj_tb) (hw4 : Cond.initialized y.cls ∈ mj_tb) (hw5 : Cond.code y bytes maxL none ∈ mj_tb)
    (h8 : mj_cat st ≤ 8) (h1 : mc' ≤ cb) (h2 : ms' ≤ sb) (kk : ∀ r G M, Q2 r G M → mj_J X (pc + 3) L (mj_ret r st) G M (cb - mc') (sb - ms')) : mj_J X pc L (As.reverse ++ .inr (.inr (some a)) :: st) G M cb sb := by
  intro H locs ls cells slots hH hS hL hst hc hs
  have hm1 : mc ≤ R.cells := X.2.2.2.2.2.2.2.1
  have hm2 : ms ≤ R.slots := X.2.2.2.2.2.2.2.2
  have hstA : ∀ v ∈ As, mj_ok v := fun v hv => hst v (List.mem_append_left _ (List.mem_reverse.mpr hv))
  have hst' : ∀ v ∈ st, mj_ok v := fun v hv => hst v (List.mem_append_right _ (List.mem_cons_of_mem _ hv))
  have hgood : GoodIn mj_tb (.code y bytes maxL none :: mj_tb) := mj_good fun w hw => by
    rcases List.mem_cons.mp hw with rfl | hw
    · exact hw5
    · exact hw
  refine mj_after X (va_runI (As := As.map mj_val) (rest := st.map mj_val) (b := a) ⟨X.1.1, X.1.2.1, X.1.2.2.1, X.1.2.2.2.2, X.2.1⟩ hM (cwI N X.2.1 hgood rfl rfl rfl (X.2.1 _ hw4) (X.2.1 _ hw1) (X.2.1 _ hw2) hn hy2 hR) ⟨mj_blind, fun U hU hW => ⟨rfl, by rw [hU]; exact hH, mj_K.moved hW.alike X.2.2.2.1, mj_cons hstA trivial, ⟨by rw [hU]; exact Nat.le_trans X.2.2.2.2.1.1 hS.1, X.2.2.2.2.1.2.go hS hU hW.alike⟩⟩⟩ rfl (by rw [List.length_map]; exact hN) hL.1.1 (by simp [List.map_append, List.map_reverse, mj_val, va_rf]) (by rw [mj_cat_eq]; show 2 * 0 + mj_cat st ≤ 8; omega) hd ⟨by omega, by omega⟩) hS hL hst' hc hs h1 h2 kk
theorem mj_o_objInit (X : mj_X p l e R s m args below meth c own cc ret D dA B nL mc ms Q) {i a : Nat} (hd : decode cc pc = .ok (.invokespecial i, 3)) (hw1 : Cond.methodLink own i objectInit ∈ mj_tb) (hw2 : Cond.instanceMethod objectInit ∈ mj_tb) (hw3 : Cond.code objectInit ⟨#[0xb1]⟩ 1 none ∈ mj_tb) (h8 : mj_cat st ≤ 8)
    (kk : mj_J X (pc + 3) L st G M cb sb) : mj_J X pc L (.inr (.inr (some a)) :: st) G M cb sb := by
  intro H locs ls cells slots hH hS hL hst hc hs
  have hm1 : 1 ≤ R.frames := X.2.2.2.2.2.1
  have hm2 : 100 ≤ R.locals := X.2.2.2.2.2.2.1
  exact W.objInit X.1.1 X.1.2.1 X.1.2.2.2.2 (X.2.1 _ hw1) (X.2.1 _ hw2) (X.2.1 _ hw3) rfl (hL.1.1.trans X.1.2.2.1.symm) rfl hd hm1 (by rw [mj_cat_eq]; show 2 * 0 + mj_cat st + 12 ≤ _; omega) (kk H locs ls cells slots hH hS hL (mj_tl hst) hc hs)
end MJC
end
section
/-! ===== new int[n][k] ===== -/
theorem mj_outer (c : ClassId) (N h0 : Nat) : ∀ i : Nat, Jvm.Free.Multi.outerC c N h0 i = arrV c N (fun j => va_rf (if j < i then some (h0 + 1 + j) else none))
  | 0 => by
    show ({ cls := c, slots := Array.replicate N .null, vm := .none } : Cell) = _
    rw [arrV_new]
    refine congrArg (arrV c N) (funext fun j => ?_)
    simp [va_rf]
  | i + 1 => by
    show (Jvm.Free.Multi.outerC c N h0 i).setSlot i (.ref (h0 + 1 + i)) = _
    rw [mj_outer c N h0 i, arrV_store]
    refine congrArg (arrV c N) (funext fun j => ?_)
    by_cases e : j = i
    · subst e
      simp [updV, va_rf]
    · by_cases h : j < i
      · simp [updV, e, h, Nat.lt_succ_of_lt h]
      · simp [updV, e, h, show ¬ j < i + 1 by omega]
theorem mj_sv_zz {so : Nat} {M : mj_M} {a n x j : Nat} (h : ¬ (a ≤ x ∧ x ≤ a + n)) : mj_sv so (mj_zz M a n) x j = mj_sv so M x j := by
  unfold mj_sv mj_zz
  dsimp only
  rw [if_neg h, if_neg h, if_neg (fun q => h ⟨by omega, by omega⟩), if_neg h]
theorem mj_o_mna {p : Program} {l : Launch} {e : Env} {R : Room} {s : State} {m : MethodId} {args : Array Value} {below : List Frame} {meth : Method} {c : Code} {own : String} {cc : ByteArray} {ret : Option FieldType} {D : va_G} {dA : Nat → ClassId} {B nL mc ms : Nat} {Q : mj_P}
    {pc : Nat} {L : mj_L} {st : List mj_V} {G : mj_G} {M : mj_M} {cb sb : Nat} (X : mj_X p l e R s m args below meth c own cc ret D dA B nL mc ms Q) {i t t2 : Nat} {z y : Int} (hd : decode cc pc = .ok (.multianewarray i 2, 4))
    (hw1 : Cond.classLink own i ("[" ++ (FieldType.array .int).toString) ∈ mj_tb) (hw3 : Cond.arrayClass .int ∈ mj_tb) (ht : t % 1000 = 104) (ht2 : t2 % 1000 = 100) (h0 : 0 ≤ z) (h9 : z ≤ 1000) (y0 : 0 ≤ y) (y9 : y ≤ 1000) (h1 : 1 + y.toNat ≤ cb) (h2 : y.toNat + y.toNat * z.toNat ≤ sb)
    (kk : ∀ a, (∀ x, a ≤ x → G x = (0, 0)) → mj_J X (pc + 4) L (.inr (.inr (some a)) :: st) (mj_gg G a t y.toNat t2 z.toNat) (mj_zz M a y.toNat) (cb - (1 + y.toNat)) (sb - (y.toNat + y.toNat * z.toNat))) : mj_J X pc L (.inl z :: .inl y :: st) G M cb sb := by
  intro H locs ls cells slots hH hS hL hst hc hs
  have hz : mj_in z := mj_head hst
  have hy : mj_in y := mj_head (mj_tl hst)
  have hm1 : mc ≤ R.cells := X.2.2.2.2.2.2.2.1
  have hm2 : ms ≤ R.slots := X.2.2.2.2.2.2.2.2
  intro T hT Xs
  have ez := mj_nat hz
  have ey := mj_nat hy
  obtain ⟨vm₁, cA, comp, -, fA, fC, -, -, X', step⟩ := Xs.multianewarray2F (ty := .int) X.1.1 X.1.2.2.2.2 (X.2.1 _ hw1) X.2.2.2.1.2.2.1 (X.2.1 _ hw3) (g := F0 m pc ls (.int (Int32.ofInt z) :: .int (Int32.ofInt y) :: st.map mj_val)) rfl (by rw [X.1.2.1]; exact hd) rfl (mj_nn hy y0) (mj_nn hz h0)
    (by rw [ey]; omega) (by rw [ez]; simp only [componentBytes]; omega) (by rw [ez]; omega) rfl rfl (by rw [ey]; omega) (by rw [ey, ez]; omega)
  rw [ey, ez] at X' step
  obtain rfl : cA = dA 4 := Option.some.inj (fA.symm.trans (X.2.2.2.1.2.1 4 (by decide)).1)
  obtain rfl : comp = dA 0 := Option.some.inj (fC.symm.trans (X.2.2.2.1.2.1 0 (by decide)).1)
  have hTh : (T.setVm vm₁).heap = H := hT
  obtain ⟨f1, f2, -, -⟩ := Jvm.Free.Multi.fill_facts (T.setVm vm₁) (dA 4) (dA 0) y.toNat z.toNat (defaultValue .int) y.toNat
  have hold : ∀ x : Nat, x < H.size → (Jvm.Free.Multi.fill (T.setVm vm₁) (dA 4) (dA 0) y.toNat z.toNat (defaultValue .int) y.toNat).heap[x]? = H[x]? := fun x hx => by
    have := Jvm.Free.Multi.fill_old (T.setVm vm₁) (dA 4) (dA 0) y.toNat z.toNat (defaultValue .int) (a := x) (by rw [hTh]; exact hx) y.toNat
    rw [hTh] at this
    exact this
  have hrow : ∀ j : Nat, j < y.toNat → (Jvm.Free.Multi.fill (T.setVm vm₁) (dA 4) (dA 0) y.toNat z.toNat (defaultValue .int) y.toNat).heap[H.size + 1 + j]? = some (arrV (dA 0) z.toNat (fun _ => .int 0)) := fun j hj => by
    have := Jvm.Free.Multi.fill_inner (T.setVm vm₁) (dA 4) (dA 0) y.toNat z.toNat (defaultValue .int) y.toNat j hj
    rw [hTh] at this
    rw [this]
    exact congrArg some (arrV_new _ _ _)
  rw [hTh] at f1 f2
  rw [mj_outer] at f2
  generalize Jvm.Free.Multi.fill (T.setVm vm₁) (dA 4) (dA 0) y.toNat z.toNat (defaultValue .int) y.toNat = F at X' step f1 f2 hold hrow
  have hB : B ≤ H.size := Nat.le_trans X.2.2.2.2.1.1 hS.1
  have hH' : mj_H D dA B (mj_gg G H.size t y.toNat t2 z.toNat) (mj_zz M H.size y.toNat) F.heap := by
    refine ⟨fun a k => ?_, ?_, fun x t' n' hx ht' => ?_⟩
    · unfold mj_zz
      dsimp only
      split
      · exact ⟨by decide, by decide⟩
      · exact hH.1 a k
    · refine ⟨fun x hx => ?_, hH.2.1.2.add (N := H.size) hH.2.1.1 (fun x hx => ?_) (fun x t' n' hx hx2 => ?_)⟩
      · unfold mj_gg
        rw [if_neg (by omega), if_neg (by omega)]
        exact hH.2.1.1 x (by omega)
      · unfold mj_gg
        rw [if_neg (by omega), if_neg (by omega)]
      · unfold mj_gg at hx2
        split at hx2
        · rw [← (Prod.mk.inj hx2).1, ht]; decide
        · split at hx2
          · rw [← (Prod.mk.inj hx2).1, ht2]; decide
          · rw [hH.2.1.1 x hx] at hx2; rw [← (Prod.mk.inj hx2).1]; decide
    · unfold mj_gg at hx
      split at hx
      · rename_i hxa
        subst hxa
        obtain ⟨rfl, rfl⟩ := Prod.mk.inj hx
        refine ⟨fun _ => hB, fun ci r e1 e2 => (mj_cl100 e1 (show t % 1000 = 100 + 4 from ht) e2).elim, fun j e1 => ?_⟩
        have e3 : j = 4 := by omega
        subst e3
        rw [f2]
        refine congrArg (fun f => some (arrV (dA 4) y.toNat f)) (funext fun k => ?_)
        simp [mj_sv, mj_as, mj_at, mj_fs, mj_zz]
      · split at hx
        · rename_i hxa hxb
          obtain ⟨rfl, rfl⟩ := Prod.mk.inj hx
          refine ⟨fun _ => by omega, fun ci r e1 e2 => (mj_cl100 e1 (show t2 % 1000 = 100 + 0 from ht2) e2).elim, fun j e1 => ?_⟩
          have e3 : j = 0 := by omega
          subst e3
          have := hrow (x - (H.size + 1)) (by omega)
          rw [show H.size + 1 + (x - (H.size + 1)) = x by omega] at this
          rw [this]
          refine congrArg (fun f => some (arrV (dA 0) z.toNat f)) (funext fun k => ?_)
          have hc : H.size ≤ x ∧ x ≤ H.size + y.toNat := ⟨by omega, by omega⟩
          simp only [mj_sv, mj_as, mj_at, mj_fs, mj_zz, if_pos hc]
          rfl
        · rename_i hxa hxb
          have hlt : x < H.size := by
            rcases Nat.lt_or_ge x H.size with q | q
            · exact q
            · have := hH.2.1.1 x q
              rw [hx] at this
              exact absurd (Prod.mk.inj this).1 ht'
          obtain ⟨hB', g1, g2⟩ := hH.2.2 x t' n' hx ht'
          refine ⟨hB', fun ci r e1 e2 => ((g1 ci r e1 e2).kept (hold x hlt)).to (fun k _ => (mj_sv_zz (by omega)).symm), fun j e1 => ?_⟩
          rw [hold x hlt, g2 j e1]
          refine congrArg (fun f => some (arrV (dA j) n' f)) (funext fun k => ?_)
          exact (mj_sv_zz (by omega)).symm
  obtain ⟨tt, a1, b1⟩ := kk H.size hH.2.1.1 F.heap locs ls (cells + 1 + y.toNat) (slots + y.toNat + y.toNat * z.toNat) hH' (mj_S_up hS (by omega) hold) hL (mj_cons (mj_tl (mj_tl hst)) trivial) (by omega) (by omega) F rfl X'
  refine ⟨tt, step tt ?_, b1⟩
  have e9 : T.heap.size = H.size := by rw [hT]
  rw [e9]
  exact a1
end
section
/-! ===== arrays of references, switches, Math and the copying of arrays ===== -/
theorem mj_at_o {j : Nat} (h : j = 5 ∨ j = 6) : mj_at j = .object (mj_cn j) := by rcases h with rfl | rfl <;> rfl
theorem mj_as_o {j : Nat} (h : j = 5 ∨ j = 6) : mj_as j = 2 := by rcases h with rfl | rfl <;> rfl
theorem mj_asg (vm : Vm) (c : ClassId) : vm.assignable c c = true := by
  have h : ∀ n, vm.assignableAux (n + 1) c c = true := fun n => by
    unfold Vm.assignableAux
    simp
  exact h 255
section MJB
variable {p : Program} {l : Launch} {e : Env} {R : Room} {s : State} {m : MethodId} {args : Array Value} {below : List Frame} {meth : Method} {c : Code} {own : String} {cc : ByteArray} {ret : Option FieldType} {D : va_G} {dA : Nat → ClassId} {B nL mc ms : Nat} {Q : mj_P}
variable {pc : Nat} {L : mj_L} {st : List mj_V} {G : mj_G} {M : mj_M} {cb sb : Nat}
theorem mj_o_anew (X : mj_X p l e R s m args below meth c own cc ret D dA B nL mc ms Q) {i j t : Nat} {z : Int} (hd : decode cc pc = .ok (.anewarray i, 3)) (hj : j = 5 ∨ j = 6) (hw : Cond.classLink own i (mj_cn j) ∈ mj_tb) (ht : t % 1000 = 100 + j) (h0 : 0 ≤ z) (h9 : z ≤ 100000) (h1 : 1 ≤ cb) (h2 : z.toNat ≤ sb)
    (kk : ∀ a, (∀ x, a ≤ x → G x = (0, 0)) → mj_J X (pc + 3) L (.inr (.inr (some a)) :: st) (mj_g G a t z.toNat) (mj_z M a) (cb - 1) (sb - z.toNat)) : mj_J X pc L (.inl z :: st) G M cb sb := by
  intro H locs ls cells slots hH hS hL hst hc hs
  have hz : mj_in z := mj_head hst
  have hm1 : mc ≤ R.cells := X.2.2.2.2.2.2.2.1
  have hm2 : ms ≤ R.slots := X.2.2.2.2.2.2.2.2
  refine W.anew X.1.1 X.1.2.1 X.1.2.2.2.2 (X.2.1 _ hw) ((X.2.2.2.1.2.2.2 j hj).1.use) rfl hd rfl (mj_nn hz h0) (by rw [mj_nat hz]; omega) (by omega) (by rw [mj_nat hz]; omega) (fun cA kA comp f1 f2 f3 f4 => ?_)
  have f1 : s.vm.findClass ("[" ++ (mj_at j).toString) = some cA := by rw [mj_at_o hj]; exact f1
  have hcA : cA = dA j := Option.some.inj (f1.symm.trans (X.2.2.2.1.2.1 j (by omega)).1)
  subst hcA
  rw [mj_nat hz, arrV_new]
  refine kk H.size hH.2.1.1 _ locs ls (cells + 1) (slots + z.toNat) (hH.push1 (Nat.le_trans X.2.2.2.2.1.1 hS.1) (by simp) (fun q hq => by simp [Array.getElem?_push, Nat.ne_of_lt hq]) ?_ (by omega) ?_) (mj_S_up hS (by simp) (fun q hq => by simp [Array.getElem?_push, Nat.ne_of_lt hq])) hL (mj_cons (mj_tl hst) trivial) (by omega) (by omega)
  · intro ci r e1 e2
    exact (mj_cl100 e1 ht e2).elim
  · intro j' e1
    have e3 : j' = j := by omega
    subst e3
    rw [Array.getElem?_push, if_pos rfl]
    congr 2
    funext k
    have := mj_sv_z0 (M := M) (a := H.size) (j := k) (mj_at j') (by rw [mj_at_o hj]; constructor <;> (intro q; cases q))
    rw [show mj_as j' = mj_fs (mj_at j') from rfl, this, mj_at_o hj]
    rfl
theorem mj_o_aastore (X : mj_X p l e R s m args below meth c own cc ret D dA B nL mc ms Q) {a t n j : Nat} {i : Int} {z : Option Nat} (hd : decode cc pc = .ok (.aastore, 1)) (hj : j = 5 ∨ j = 6) (hG : G a = (t, n)) (ht : t % 1000 = 100 + j) (hw9 : t < 900000) (h0 : 0 ≤ i) (h1 : i < n) (hb : ∀ b, z = some b → (j = 6 ∧ ∃ t' n', G b = (t', n') ∧ t' % 1000 = 7) ∨ (j = 5 ∧ ∃ t' n', G b = (t', n') ∧ t' % 1000 = 50))
    (kk : mj_J X (pc + 1) L st G (mj_p2 M a i.toNat z) cb sb) : mj_J X pc L (.inr (.inr z) :: .inl i :: .inr (.inr (some a)) :: st) G M cb sb := by
  intro H locs ls cells slots hH hS hL hst hc hs
  have hi : mj_in i := mj_head (mj_tl hst)
  obtain ⟨hB, q1, q2⟩ := mj_arr X (by omega) hH hG ht
  have go : ∀ H' : Heap, H'[a]? = some ((arrV (dA j) n (fun k => mj_sv (mj_as j) M a k)).setSlot i.toNat (mj_val (.inr (.inr z)))) → H'.size = H.size → (∀ q, q ≠ a → H'[q]? = H[q]?) → W p l e R s m args below meth c H' (locs ++ [⟨a, i.toNat⟩]) cells slots (MQ below (mj_Q D dA B Q) args s mc ms (fun q => B ≤ q)) (F0 m (pc + 1) ls (st.map mj_val)) := by
    intro H' w1 w2 w3
    exact kk H' _ ls cells slots (hH.ast (v := .inr (.inr z)) hG ht (by rw [mj_as_o hj]; exact mj_u2 hH.1) w1 w2 w3) (hS.put w2 w3 (hB hw9)) hL (mj_tl (mj_tl (mj_tl hst))) hc hs
  cases z with
  | none =>
    rw [mj_at_o hj] at q2
    refine va_WaastN X.1.1 X.1.2.1 q1 q2 (fun q => by cases q) (by rw [arrV_size]; exact mj_idx hi h0 h1) rfl rfl hd (fun H' w1 w2 w3 => ?_)
    rw [mj_nat hi] at w1 ⊢
    exact go H' w1 w2 w3
  | some b =>
    rcases hb b rfl with ⟨rfl, t', n', hGb, htb⟩ | ⟨rfl, t', n', hGb, htb⟩
    rotate_left
    · obtain ⟨kw, hkw, -, rfl⟩ := hH.2.1.2.2.1 b t' n' hGb htb
      obtain ⟨cellV, c1, c3, c2⟩ := va_recvE X.2.2.2.2.1.2.1 (i := kw) hkw hS
      obtain ⟨kA, comp, k1, k2, k3, -⟩ := (X.2.2.2.1.2.2.2 5 (Or.inl rfl)).2
      have hcomp : comp = cellV.cls := Option.some.inj (k3.symm.trans c2)
      subst hcomp
      obtain ⟨kC, hkC, -⟩ := Vm.findClass_spec c2
      refine W.aast X.1.1 X.1.2.1 q1 (fun q h => by cases h) (fun h => by cases h) k1 k2 rfl hkC ⟨mj_nn hi h0, by rw [arrV_size, mj_nat hi]; omega⟩ c1 (fun q h => by rw [h] at c3; cases c3) hkC (mj_asg _ _) rfl rfl hd (fun H' w1 w2 w3 => ?_)
      rw [mj_nat hi] at w1 ⊢
      exact go H' w1 w2 w3
    obtain ⟨-, g1, -⟩ := hH.2.2 b t' n' hGb (mj_ne (k := 6) htb)
    obtain ⟨cellV, c1, c2, c3, -⟩ := g1 6 (RX6, TX6, 4) htb rfl
    have hcls := (X.2.2.2.1.1 6 (RX6, TX6, 4) rfl).2
    obtain ⟨kA, comp, k1, k2, k3, -⟩ := (X.2.2.2.1.2.2.2 6 (Or.inr rfl)).2
    have hcomp : comp = D.1 6 := Option.some.inj (k3.symm.trans hcls.1)
    subst hcomp
    obtain ⟨kC, hkC, -⟩ := hcls.2
    refine W.aast X.1.1 X.1.2.1 q1 (fun q h => by cases h) (fun h => by cases h) k1 k2 rfl hkC ⟨mj_nn hi h0, by rw [arrV_size, mj_nat hi]; omega⟩ c1 (fun q h => by rw [c3] at h; cases h) (by rw [c2]; exact hkC) (by rw [c2]; exact va_assign hcls) rfl rfl hd (fun H' w1 w2 w3 => ?_)
    rw [mj_nat hi] at w1 ⊢
    exact go H' w1 w2 w3
theorem mj_o_switch (X : mj_X p l e R s m args below meth c own cc ret D dA B nL mc ms Q) {df lo hi : Int} {offs : Array Int} {len tg : Nat} {tgs : List Nat} {z : Int} {pcs : Nat → Nat} (hd : decode cc pc = .ok (.tableswitch df lo hi offs, len)) (h0 : (pc : Int) + df = (pcs tg : Int)) (hn : (tgs.length : Int) = hi - lo + 1) (ho : ∀ (k t : Nat), tgs[k]? = some t → ∃ o, offs[k]? = some o ∧ (pc : Int) + o = (pcs t : Int))
    (kd : z < lo ∨ hi < z → mj_J X (pcs tg) L st G M cb sb) (ks : ∀ (k t : Nat), tgs[k]? = some t → z = lo + k → mj_J X (pcs t) L st G M cb sb) : mj_J X pc L (.inl z :: st) G M cb sb := by
  intro H locs ls cells slots hH hS hL hst hc hs
  have hz : mj_in z := mj_head hst
  have ez := mj_ti hz
  by_cases hq : z < lo ∨ hi < z
  · exact lv_tableOut X.1.1 X.1.2.1 hd (by rw [ez]; exact hq) h0 (kd hq H locs ls cells slots hH hS hL (mj_tl hst) hc hs)
  · have hlt : (z - lo).toNat < tgs.length := by omega
    obtain ⟨o, o1, o2⟩ := ho (z - lo).toNat tgs[(z - lo).toNat] (List.getElem?_eq_getElem hlt)
    exact lv_tableIn X.1.1 X.1.2.1 hd (by rw [ez]; omega) (by rw [ez]; omega) (by rw [ez]; exact o1) o2 (ks _ _ (List.getElem?_eq_getElem hlt) (by omega) H locs ls cells slots hH hS hL (mj_tl hst) hc hs)
theorem mj_o_max (X : mj_X p l e R s m args below meth c own cc ret D dA B nL mc ms Q) {i : Nat} {x y : Int} (hd : decode cc pc = .ok (.invokestatic i, 3)) (hw1 : Cond.methodLink own i Lib.Math.max.name ∈ mj_tb) (hw2 : Cond.static Lib.Math.max.name ∈ mj_tb) (hw3 : Cond.initialized "java/lang/Math" ∈ mj_tb) (hw4 : Cond.code Lib.Math.max.name Lib.Math.max.code 2 (some .int) ∈ mj_tb) (h8 : mj_cat st ≤ 8)
    (kk : ∀ z, (x < y → z = y) → (¬ x < y → z = x) → mj_J X (pc + 3) L (.inl z :: st) G M cb sb) : mj_J X pc L (.inl y :: .inl x :: st) G M cb sb := by
  intro H locs ls cells slots hH hS hL hst hc hs
  have hy : mj_in y := mj_head hst
  have hx : mj_in x := mj_head (mj_tl hst)
  have hm : 1 ≤ R.frames ∧ 100 ≤ R.locals ∧ mc ≤ R.cells ∧ ms ≤ R.slots := X.2.2.2.2.2
  refine va_mmax X.1.1 X.1.2.1 (X.1.2.2.1.trans hL.1.1.symm) X.1.2.2.2.2 (X.2.1 _ hw1) (X.2.1 _ hw2) (X.2.1 _ hw3) (X.2.1 _ hw4) hm.1 (by rw [mj_cat_eq]; omega) (by omega) (by omega) hd ?_
  by_cases q : x < y
  · rw [if_pos ((mj_lt hx hy).mpr q)]
    exact kk y (fun _ => rfl) (fun z => absurd q z) H locs ls cells slots hH hS hL (mj_cons (mj_tl (mj_tl hst)) hy) hc hs
  · rw [if_neg (fun z => q ((mj_lt hx hy).mp z))]
    exact kk x (fun z => absurd z q) (fun _ => rfl) H locs ls cells slots hH hS hL (mj_cons (mj_tl (mj_tl hst)) hx) hc hs
theorem mj_o_min (X : mj_X p l e R s m args below meth c own cc ret D dA B nL mc ms Q) {i : Nat} {x y : Int} (hd : decode cc pc = .ok (.invokestatic i, 3)) (hw1 : Cond.methodLink own i Lib.Math.min.name ∈ mj_tb) (hw2 : Cond.static Lib.Math.min.name ∈ mj_tb) (hw3 : Cond.initialized "java/lang/Math" ∈ mj_tb) (hw4 : Cond.code Lib.Math.min.name Lib.Math.min.code 2 (some .int) ∈ mj_tb) (h8 : mj_cat st ≤ 8)
    (kk : ∀ z, (y < x → z = y) → (¬ y < x → z = x) → mj_J X (pc + 3) L (.inl z :: st) G M cb sb) : mj_J X pc L (.inl y :: .inl x :: st) G M cb sb := by
  intro H locs ls cells slots hH hS hL hst hc hs
  have hy : mj_in y := mj_head hst
  have hx : mj_in x := mj_head (mj_tl hst)
  have hm : 1 ≤ R.frames ∧ 100 ≤ R.locals ∧ mc ≤ R.cells ∧ ms ≤ R.slots := X.2.2.2.2.2
  refine va_mmin X.1.1 X.1.2.1 (X.1.2.2.1.trans hL.1.1.symm) X.1.2.2.2.2 (X.2.1 _ hw1) (X.2.1 _ hw2) (X.2.1 _ hw3) (X.2.1 _ hw4) hm.1 (by rw [mj_cat_eq]; omega) (by omega) (by omega) hd ?_
  by_cases q : y < x
  · rw [if_pos ((mj_lt hy hx).mpr q)]
    exact kk y (fun _ => rfl) (fun z => absurd q z) H locs ls cells slots hH hS hL (mj_cons (mj_tl (mj_tl hst)) hy) hc hs
  · rw [if_neg (fun z => q ((mj_lt hy hx).mp z))]
    exact kk x (fun z => absurd z q) (fun _ => rfl) H locs ls cells slots hH hS hL (mj_cons (mj_tl (mj_tl hst)) hx) hc hs
theorem mj_o_abs (X : mj_X p l e R s m args below meth c own cc ret D dA B nL mc ms Q) {i : Nat} {x : Int} (hd : decode cc pc = .ok (.invokestatic i, 3)) (hw1 : Cond.methodLink own i Lib.Math.abs.name ∈ mj_tb) (hw2 : Cond.static Lib.Math.abs.name ∈ mj_tb) (hw3 : Cond.initialized "java/lang/Math" ∈ mj_tb) (hw4 : Cond.code Lib.Math.abs.name Lib.Math.abs.code 1 (some .int) ∈ mj_tb) (h8 : mj_cat st ≤ 8)
    (kk : ∀ z, mj_in z → (0 ≤ x → z = x) → (x < 0 → x ≠ -2147483648 → z = -x) → mj_J X (pc + 3) L (.inl z :: st) G M cb sb) : mj_J X pc L (.inl x :: st) G M cb sb := by
  intro H locs ls cells slots hH hS hL hst hc hs
  have hx : mj_in x := mj_head hst
  have hm : 1 ≤ R.frames ∧ 100 ≤ R.locals ∧ mc ≤ R.cells ∧ ms ≤ R.slots := X.2.2.2.2.2
  have h0 : mj_in 0 := ⟨by decide, by decide⟩
  refine va_mabs X.1.1 X.1.2.1 (X.1.2.2.1.trans hL.1.1.symm) X.1.2.2.2.2 (X.2.1 _ hw1) (X.2.1 _ hw2) (X.2.1 _ hw3) (X.2.1 _ hw4) hm.1 (by rw [mj_cat_eq]; omega) (by omega) (by omega) hd ?_
  by_cases q : 0 ≤ x
  · rw [if_pos (show (0 : Int32) ≤ Int32.ofInt x from (mj_le h0 hx).mpr q)]
    exact kk x hx (fun _ => rfl) (fun z => absurd z (by omega)) H locs ls cells slots hH hS hL (mj_cons (mj_tl hst) hx) hc hs
  · rw [if_neg (show ¬ (0 : Int32) ≤ Int32.ofInt x from fun z => q ((mj_le h0 hx).mp z))]
    have e1 : (0 : Int32) - Int32.ofInt x = Int32.ofInt (0 - x) := (Int32.ofInt_sub 0 x).symm
    have g := kk _ (mj_rng ((0 : Int32) - Int32.ofInt x)) (fun z => absurd z q) (fun h1 h2 => by
      rw [e1, mj_ti (show mj_in (0 - x) from ⟨by have := hx.2; omega, by have := hx.1; omega⟩)]; omega) H locs ls cells slots hH hS hL (mj_cons (mj_tl hst) (mj_rng _)) hc hs
    simp only [List.map_cons, mj_val, mj_it] at g
    exact g
theorem mj_sv_cp0 {so : Nat} {M : mj_M} {a b sp dp n x j : Nat} (h : x ≠ b) : mj_sv so (mj_cp0 M a b sp dp n) x j = mj_sv so M x j := by
  unfold mj_sv mj_cp0
  dsimp only
  rw [if_neg (fun q => h q.1)]
theorem mj_sv_cp1 {so : Nat} {M : mj_M} {a b sp dp n x j : Nat} (h : x ≠ b) : mj_sv so (mj_cp1 M a b sp dp n) x j = mj_sv so M x j := by
  unfold mj_sv mj_cp1
  dsimp only
  rw [if_neg (fun q => h q.1)]
theorem mj_cp0_at {M : mj_M} {a b sp dp n k : Nat} : mj_sv 0 (mj_cp0 M a b sp dp n) b k = if dp ≤ k ∧ k < dp + n then mj_sv 0 M a (sp + (k - dp)) else mj_sv 0 M b k := by
  unfold mj_sv mj_cp0
  dsimp only
  by_cases h : dp ≤ k ∧ k < dp + n
  · rw [if_pos ⟨rfl, h⟩, if_pos h]; rfl
  · rw [if_neg (fun q => h q.2), if_neg h]
theorem mj_o_copy0 (X : mj_X p l e R s m args below meth c own cc ret D dA B nL mc ms Q) {i a b ta na tb nb : Nat} {sp dp n : Int} (hd : decode cc pc = .ok (.invokestatic i, 3)) (hw1 : Cond.methodLink own i arraycopyName ∈ mj_tb) (hw2 : Cond.native arraycopyName ∈ mj_tb) (hw3 : Cond.static arraycopyName ∈ mj_tb) (hw4 : Cond.initialized "java/lang/System" ∈ mj_tb) (h8 : mj_cat st ≤ 8)
    (hGa : G a = (ta, na)) (hta : ta % 1000 = 100 + 0) (hGb : G b = (tb, nb)) (htb : tb % 1000 = 100 + 0) (hw9 : tb < 900000) (h1 : 0 ≤ sp) (h2 : 0 ≤ dp) (h3 : 0 ≤ n) (h4 : sp + n ≤ na) (h5 : dp + n ≤ nb)
    (kk : mj_J X (pc + 3) L st G (mj_cp0 M a b sp.toNat dp.toNat n.toNat) cb sb) : mj_J X pc L (.inl n :: .inl dp :: .inr (.inr (some b)) :: .inl sp :: .inr (.inr (some a)) :: st) G M cb sb := by
  intro H locs ls cells slots hH hS hL hst hc hs
  have hn : mj_in n := mj_head hst
  have hdp : mj_in dp := mj_head (mj_tl hst)
  have hsp : mj_in sp := mj_head (mj_tl (mj_tl (mj_tl hst)))
  have hm : 1 ≤ R.frames ∧ 100 ≤ R.locals ∧ mc ≤ R.cells ∧ ms ≤ R.slots := X.2.2.2.2.2
  obtain ⟨-, qa1, qa2⟩ := mj_arr X (by decide) hH hGa hta
  obtain ⟨hB, qb1, qb2⟩ := mj_arr X (by decide) hH hGb htb
  obtain ⟨-, k0, hk0, cm0, hkk0⟩ := qa2
  obtain ⟨-, k1, hk1, cm1, hkk1⟩ := qb2
  have en := mj_nat hn
  have ed := mj_nat hdp
  have es := mj_nat hsp
  have e5 : nativeFrameWords "java/lang/System" "arraycopy" 5 ≤ 50 := by decide
  intro T hT XS
  obtain ⟨vm', X', step⟩ := XS.arraycopy X.1.1 X.1.2.2.2.2 (X.2.1 _ hw1) (X.2.1 _ hw2) (X.2.1 _ hw3) (X.2.1 _ hw4) (src := a) (dst := b) (cs := arrV (dA 0) na (fun k => mj_sv (mj_as 0) M a k)) (cd := arrV (dA 0) nb (fun k => mj_sv (mj_as 0) M b k)) (srcPos := Int32.ofInt sp) (destPos := Int32.ofInt dp) (n := Int32.ofInt n) (by rw [hT]; exact qa1) (by rw [hT]; exact qb1)
    (fun _ h => by cases h) (fun _ h => by cases h) (fun h => by cases h) (fun h => by cases h) hk0 hk1 hkk0 hkk1 (by simp [mj_at, refKind]) (mj_nn hsp h1) (mj_nn hdp h2) (mj_nn hn h3)
    (by rw [mj_ti hsp, mj_ti hn, arrV_size]; omega) (by rw [mj_ti hdp, mj_ti hn, arrV_size]; omega)
    (fun vm₁ _ i hi => by
      have e : (arrV (dA 0) na (fun k => mj_sv (mj_as 0) M a k)).slots.getD ((Int32.ofInt sp).toNatClampNeg + i) .null = mj_sv (mj_as 0) M a ((Int32.ofInt sp).toNatClampNeg + i) := by
        rw [Array.getD_eq_getD_getElem?, arrV_read _ _ (by rw [es]; rw [en] at hi; omega)]
        rfl
      refine ⟨?_, ?_⟩
      · rw [e]; rfl
      · rw [e]; exact trivial)
    (g := F0 m pc ls (.int (Int32.ofInt n) :: .int (Int32.ofInt dp) :: .ref b :: .int (Int32.ofInt sp) :: .ref a :: st.map mj_val)) rfl (hL.1.1.trans X.1.2.2.1.symm) (rest := st.map mj_val) rfl (by rw [X.1.2.1]; exact hd) hm.1 (by rw [mj_cat_eq]; show 2 * 0 + _ + _ ≤ _; omega)
  have ec : copied (arrV (dA 0) na (fun k => mj_sv (mj_as 0) M a k)) (arrV (dA 0) nb (fun k => mj_sv (mj_as 0) M b k)) (Int32.ofInt sp) (Int32.ofInt dp) (Int32.ofInt n) = arrV (dA 0) nb (fun k => mj_sv (mj_as 0) (mj_cp0 M a b sp.toNat dp.toNat n.toNat) b k) := by
    refine (va_copied (fun z : Value => z) (dA 0) (dA 0) (fun k => mj_sv (mj_as 0) M a k) (fun k => mj_sv (mj_as 0) M b k) (by rw [es, en]; omega)).trans ?_
    congr 1
    funext k
    rw [es, ed, en]
    exact mj_cp0_at.symm
  rw [ec] at X' step
  have hlt : b < H.size := (Array.getElem?_eq_some_iff.mp qb1).1
  generalize hcell : arrV (dA 0) nb (fun k => mj_sv (mj_as 0) (mj_cp0 M a b sp.toNat dp.toNat n.toNat) b k) = cell at X' step
  have hheap : ((T.setVm vm').setCell b cell).heap = H.setIfInBounds b cell := by rw [← hT]; rfl
  have oq : ∀ q : Nat, q ≠ b → (H.setIfInBounds b cell)[q]? = H[q]? := fun q hq => by simp [Array.getElem?_setIfInBounds, Ne.symm hq]
  have hH' : mj_H D dA B G (mj_cp0 M a b sp.toNat dp.toNat n.toNat) (H.setIfInBounds b cell) := by
    refine hH.set hGb (by simp) oq (fun x j => ?_) (fun so x j hx => mj_sv_cp0 hx) (fun ci r e1 e2 => (mj_cl100 e1 htb e2).elim) (fun j e1 => ?_)
    · unfold mj_cp0
      dsimp only
      split
      · exact hH.1 _ _
      · exact hH.1 _ _
    · have e3 : j = 0 := by omega
      subst e3
      rw [hcell]
      simp [Array.getElem?_setIfInBounds, hlt]
  obtain ⟨t, a1, b1⟩ := kk _ _ ls cells slots hH' ⟨by simp; exact hS.1, fun q g1 g2 => by
      rw [oq q (fun e => g2 (by rw [e]; exact hB hw9))]
      exact hS.2.1 q g1 g2, fun q hq => by
      rcases List.mem_append.mp hq with h | h
      · exact hS.2.2 q h
      · obtain ⟨z, -, hz⟩ := List.mem_map.mp h
        rw [← hz]
        exact hB hw9⟩ hL (mj_tl (mj_tl (mj_tl (mj_tl (mj_tl hst))))) hc hs _ hheap X'
  exact ⟨t, step t a1, b1⟩
theorem mj_cp1_at {M : mj_M} {a b sp dp n k : Nat} : mj_sv 1 (mj_cp1 M a b sp dp n) b k = if dp ≤ k ∧ k < dp + n then mj_sv 1 M a (sp + (k - dp)) else mj_sv 1 M b k := by
  unfold mj_sv mj_cp1
  dsimp only
  by_cases h : dp ≤ k ∧ k < dp + n
  · rw [if_pos ⟨rfl, h⟩, if_pos h]; rfl
  · rw [if_neg (fun q => h q.2), if_neg h]
theorem mj_o_copy1 (X : mj_X p l e R s m args below meth c own cc ret D dA B nL mc ms Q) {i a b ta na tb nb : Nat} {sp dp n : Int} (hd : decode cc pc = .ok (.invokestatic i, 3)) (hw1 : Cond.methodLink own i arraycopyName ∈ mj_tb) (hw2 : Cond.native arraycopyName ∈ mj_tb) (hw3 : Cond.static arraycopyName ∈ mj_tb) (hw4 : Cond.initialized "java/lang/System" ∈ mj_tb) (h8 : mj_cat st ≤ 8)
    (hGa : G a = (ta, na)) (hta : ta % 1000 = 100 + 3) (hGb : G b = (tb, nb)) (htb : tb % 1000 = 100 + 3) (hw9 : tb < 900000) (h1 : 0 ≤ sp) (h2 : 0 ≤ dp) (h3 : 0 ≤ n) (h4 : sp + n ≤ na) (h5 : dp + n ≤ nb)
    (kk : mj_J X (pc + 3) L st G (mj_cp1 M a b sp.toNat dp.toNat n.toNat) cb sb) : mj_J X pc L (.inl n :: .inl dp :: .inr (.inr (some b)) :: .inl sp :: .inr (.inr (some a)) :: st) G M cb sb := by
  intro H locs ls cells slots hH hS hL hst hc hs
  have hn : mj_in n := mj_head hst
  have hdp : mj_in dp := mj_head (mj_tl hst)
  have hsp : mj_in sp := mj_head (mj_tl (mj_tl (mj_tl hst)))
  have hm : 1 ≤ R.frames ∧ 100 ≤ R.locals ∧ mc ≤ R.cells ∧ ms ≤ R.slots := X.2.2.2.2.2
  obtain ⟨-, qa1, qa2⟩ := mj_arr X (by decide) hH hGa hta
  obtain ⟨hB, qb1, qb2⟩ := mj_arr X (by decide) hH hGb htb
  obtain ⟨-, k0, hk0, cm0, hkk0⟩ := qa2
  obtain ⟨-, k1, hk1, cm1, hkk1⟩ := qb2
  have en := mj_nat hn
  have ed := mj_nat hdp
  have es := mj_nat hsp
  have e5 : nativeFrameWords "java/lang/System" "arraycopy" 5 ≤ 50 := by decide
  intro T hT XS
  obtain ⟨vm', X', step⟩ := XS.arraycopy X.1.1 X.1.2.2.2.2 (X.2.1 _ hw1) (X.2.1 _ hw2) (X.2.1 _ hw3) (X.2.1 _ hw4) (src := a) (dst := b) (cs := arrV (dA 3) na (fun k => mj_sv (mj_as 3) M a k)) (cd := arrV (dA 3) nb (fun k => mj_sv (mj_as 3) M b k)) (srcPos := Int32.ofInt sp) (destPos := Int32.ofInt dp) (n := Int32.ofInt n) (by rw [hT]; exact qa1) (by rw [hT]; exact qb1)
    (fun _ h => by cases h) (fun _ h => by cases h) (fun h => by cases h) (fun h => by cases h) hk0 hk1 hkk0 hkk1 (by simp [mj_at, refKind]) (mj_nn hsp h1) (mj_nn hdp h2) (mj_nn hn h3)
    (by rw [mj_ti hsp, mj_ti hn, arrV_size]; omega) (by rw [mj_ti hdp, mj_ti hn, arrV_size]; omega)
    (fun vm₁ _ i hi => by
      have e : (arrV (dA 3) na (fun k => mj_sv (mj_as 3) M a k)).slots.getD ((Int32.ofInt sp).toNatClampNeg + i) .null = mj_sv (mj_as 3) M a ((Int32.ofInt sp).toNatClampNeg + i) := by
        rw [Array.getD_eq_getD_getElem?, arrV_read _ _ (by rw [es]; rw [en] at hi; omega)]
        rfl
      refine ⟨?_, ?_⟩
      · rw [e]; rfl
      · rw [e]; exact trivial)
    (g := F0 m pc ls (.int (Int32.ofInt n) :: .int (Int32.ofInt dp) :: .ref b :: .int (Int32.ofInt sp) :: .ref a :: st.map mj_val)) rfl (hL.1.1.trans X.1.2.2.1.symm) (rest := st.map mj_val) rfl (by rw [X.1.2.1]; exact hd) hm.1 (by rw [mj_cat_eq]; show 2 * 0 + _ + _ ≤ _; omega)
  have ec : copied (arrV (dA 3) na (fun k => mj_sv (mj_as 3) M a k)) (arrV (dA 3) nb (fun k => mj_sv (mj_as 3) M b k)) (Int32.ofInt sp) (Int32.ofInt dp) (Int32.ofInt n) = arrV (dA 3) nb (fun k => mj_sv (mj_as 3) (mj_cp1 M a b sp.toNat dp.toNat n.toNat) b k) := by
    refine (va_copied (fun z : Value => z) (dA 3) (dA 3) (fun k => mj_sv (mj_as 3) M a k) (fun k => mj_sv (mj_as 3) M b k) (by rw [es, en]; omega)).trans ?_
    congr 1
    funext k
    rw [es, ed, en]
    exact mj_cp1_at.symm
  rw [ec] at X' step
  have hlt : b < H.size := (Array.getElem?_eq_some_iff.mp qb1).1
  generalize hcell : arrV (dA 3) nb (fun k => mj_sv (mj_as 3) (mj_cp1 M a b sp.toNat dp.toNat n.toNat) b k) = cell at X' step
  have hheap : ((T.setVm vm').setCell b cell).heap = H.setIfInBounds b cell := by rw [← hT]; rfl
  have oq : ∀ q : Nat, q ≠ b → (H.setIfInBounds b cell)[q]? = H[q]? := fun q hq => by simp [Array.getElem?_setIfInBounds, Ne.symm hq]
  have hH' : mj_H D dA B G (mj_cp1 M a b sp.toNat dp.toNat n.toNat) (H.setIfInBounds b cell) := by
    refine hH.set hGb (by simp) oq (fun x j => ?_) (fun so x j hx => mj_sv_cp1 hx) (fun ci r e1 e2 => (mj_cl100 e1 htb e2).elim) (fun j e1 => ?_)
    · exact hH.1 x j
    · have e3 : j = 3 := by omega
      subst e3
      rw [hcell]
      simp [Array.getElem?_setIfInBounds, hlt]
  obtain ⟨t, a1, b1⟩ := kk _ _ ls cells slots hH' ⟨by simp; exact hS.1, fun q g1 g2 => by
      rw [oq q (fun e => g2 (by rw [e]; exact hB hw9))]
      exact hS.2.1 q g1 g2, fun q hq => by
      rcases List.mem_append.mp hq with h | h
      · exact hS.2.2 q h
      · obtain ⟨z, -, hz⟩ := List.mem_map.mp h
        rw [← hz]
        exact hB hw9⟩ hL (mj_tl (mj_tl (mj_tl (mj_tl (mj_tl hst))))) hc hs _ hheap X'
  exact ⟨t, step t a1, b1⟩
end MJB
end
section
/-! ===== the words by numbers, laid by a program ===== -/
theorem mj_condw {P : Cond → Prop} {b : Bool} {x z : Cond} (h1 : P x) (h2 : P z) : P (cond b x z) := by cases b <;> assumption
theorem mj_t1 {i : Nat} {w : Cond} (h : tables_1_1[i]? = some w) (hg : goodWord w = true) : w ∈ mj_tb := List.mem_filter.mpr ⟨List.mem_append_right _ (List.mem_append_left _ (List.mem_of_getElem? h)), hg⟩
theorem mj_t2 {i : Nat} {w : Cond} (h : tables_1_2[i]? = some w) (hg : goodWord w = true) : w ∈ mj_tb := List.mem_filter.mpr ⟨List.mem_append_right _ (List.mem_append_right _ (List.mem_append_left _ (List.mem_of_getElem? h))), hg⟩
theorem mj_t3 {i : Nat} {w : Cond} (h : tables_1_3[i]? = some w) (hg : goodWord w = true) : w ∈ mj_tb := List.mem_filter.mpr ⟨List.mem_append_right _ (List.mem_append_right _ (List.mem_append_right _ (List.mem_append_left _ (List.mem_of_getElem? h)))), hg⟩
theorem mj_t4 {i : Nat} {w : Cond} (h : tables_1_4[i]? = some w) (hg : goodWord w = true) : w ∈ mj_tb := List.mem_filter.mpr ⟨List.mem_append_right _ (List.mem_append_right _ (List.mem_append_right _ (List.mem_append_right _ (List.mem_append_left _ (List.mem_of_getElem? h))))), hg⟩
theorem mj_t5 {i : Nat} {w : Cond} (h : tables_1_5[i]? = some w) (hg : goodWord w = true) : w ∈ mj_tb := List.mem_filter.mpr ⟨List.mem_append_right _ (List.mem_append_right _ (List.mem_append_right _ (List.mem_append_right _ (List.mem_append_right _ (List.mem_append_left _ (List.mem_of_getElem? h)))))), hg⟩
theorem mj_t6 {i : Nat} {w : Cond} (h : tables_1_6[i]? = some w) (hg : goodWord w = true) : w ∈ mj_tb := List.mem_filter.mpr ⟨List.mem_append_right _ (List.mem_append_right _ (List.mem_append_right _ (List.mem_append_right _ (List.mem_append_right _ (List.mem_append_right _ (List.mem_append_left _ (List.mem_of_getElem? h))))))), hg⟩
theorem mj_t7 {i : Nat} {w : Cond} (h : tables_1_7[i]? = some w) (hg : goodWord w = true) : w ∈ mj_tb := List.mem_filter.mpr ⟨List.mem_append_right _ (List.mem_append_right _ (List.mem_append_right _ (List.mem_append_right _ (List.mem_append_right _ (List.mem_append_right _ (List.mem_append_right _ (List.mem_append_left _ (List.mem_of_getElem? h)))))))), hg⟩
theorem mj_t8 {i : Nat} {w : Cond} (h : tables_1_8[i]? = some w) (hg : goodWord w = true) : w ∈ mj_tb := List.mem_filter.mpr ⟨List.mem_append_right _ (List.mem_append_right _ (List.mem_append_right _ (List.mem_append_right _ (List.mem_append_right _ (List.mem_append_right _ (List.mem_append_right _ (List.mem_append_right _ (List.mem_of_getElem? h)))))))), hg⟩
theorem mj_q1 {i : Nat} {q : MethodName × Nat} {w : Cond} (h : lw_privs_1[i]? = some q) (e : Cond.selects q.1.cls q.1 q.1 = w) (hg : goodWord w = true) : w ∈ mj_tb := List.mem_filter.mpr ⟨List.mem_append_left _ (List.mem_map.mpr ⟨q, List.mem_append_left _ (List.mem_of_getElem? h), e⟩), hg⟩
theorem mj_q2 {i : Nat} {q : MethodName × Nat} {w : Cond} (h : lw_privs_2[i]? = some q) (e : Cond.selects q.1.cls q.1 q.1 = w) (hg : goodWord w = true) : w ∈ mj_tb := List.mem_filter.mpr ⟨List.mem_append_left _ (List.mem_map.mpr ⟨q, List.mem_append_right _ (List.mem_append_left _ (List.mem_of_getElem? h)), e⟩), hg⟩
theorem mj_q3 {i : Nat} {q : MethodName × Nat} {w : Cond} (h : lw_privs_3[i]? = some q) (e : Cond.selects q.1.cls q.1 q.1 = w) (hg : goodWord w = true) : w ∈ mj_tb := List.mem_filter.mpr ⟨List.mem_append_left _ (List.mem_map.mpr ⟨q, List.mem_append_right _ (List.mem_append_right _ (List.mem_append_left _ (List.mem_of_getElem? h))), e⟩), hg⟩
theorem mj_q4 {i : Nat} {q : MethodName × Nat} {w : Cond} (h : lw_privs_4[i]? = some q) (e : Cond.selects q.1.cls q.1 q.1 = w) (hg : goodWord w = true) : w ∈ mj_tb := List.mem_filter.mpr ⟨List.mem_append_left _ (List.mem_map.mpr ⟨q, List.mem_append_right _ (List.mem_append_right _ (List.mem_append_right _ (List.mem_append_left _ (List.mem_of_getElem? h)))), e⟩), hg⟩
theorem mj_q5 {i : Nat} {q : MethodName × Nat} {w : Cond} (h : lw_privs_5[i]? = some q) (e : Cond.selects q.1.cls q.1 q.1 = w) (hg : goodWord w = true) : w ∈ mj_tb := List.mem_filter.mpr ⟨List.mem_append_left _ (List.mem_map.mpr ⟨q, List.mem_append_right _ (List.mem_append_right _ (List.mem_append_right _ (List.mem_append_right _ (List.mem_append_left _ (List.mem_of_getElem? h))))), e⟩), hg⟩
theorem mj_q6 {i : Nat} {q : MethodName × Nat} {w : Cond} (h : lw_privs_6[i]? = some q) (e : Cond.selects q.1.cls q.1 q.1 = w) (hg : goodWord w = true) : w ∈ mj_tb := List.mem_filter.mpr ⟨List.mem_append_left _ (List.mem_map.mpr ⟨q, List.mem_append_right _ (List.mem_append_right _ (List.mem_append_right _ (List.mem_append_right _ (List.mem_append_right _ (List.mem_append_left _ (List.mem_of_getElem? h)))))), e⟩), hg⟩
theorem mj_q7 {i : Nat} {q : MethodName × Nat} {w : Cond} (h : lw_privs_7[i]? = some q) (e : Cond.selects q.1.cls q.1 q.1 = w) (hg : goodWord w = true) : w ∈ mj_tb := List.mem_filter.mpr ⟨List.mem_append_left _ (List.mem_map.mpr ⟨q, List.mem_append_right _ (List.mem_append_right _ (List.mem_append_right _ (List.mem_append_right _ (List.mem_append_right _ (List.mem_append_right _ (List.mem_of_getElem? h)))))), e⟩), hg⟩
abbrev ww_0 : Cond := .fieldLink RX0 29 "RentRiver$Cheapest" "towns" "I"
theorem wi_0 : ww_0 ∈ mj_tb := mj_t2 (i := 105) rfl rfl
abbrev ww_1 : Cond := .fieldLink RX0 38 "RentRiver$Cheapest" "lacks" "[I"
theorem wi_1 : ww_1 ∈ mj_tb := mj_t2 (i := 108) rfl rfl
abbrev ww_2 : Cond := .fieldLink RX0 46 "RentRiver$Cheapest" "rest" "[[I"
theorem wi_2 : ww_2 ∈ mj_tb := mj_t2 (i := 110) rfl rfl
abbrev ww_3 : Cond := .methodLink RX0 108 Lib.Math.max.name
theorem wi_3 : ww_3 ∈ mj_tb := mj_t4 (i := 155) rfl rfl
abbrev ww_4 : Cond := .fieldLink RX0 49 "RentRiver$Cheapest" "restBest" "[I"
theorem wi_4 : ww_4 ∈ mj_tb := mj_t2 (i := 111) rfl rfl
abbrev ww_5 : Cond := .fieldLink RX0 32 "RentRiver$Cheapest" "move" "I"
theorem wi_5 : ww_5 ∈ mj_tb := mj_t2 (i := 106) rfl rfl
abbrev ww_6 : Cond := .methodLink RX0 140 Lib.Math.abs.name
theorem wi_6 : ww_6 ∈ mj_tb := mj_t4 (i := 168) rfl rfl
abbrev ww_7 : Cond := .fieldLink RX0 35 "RentRiver$Cheapest" "bridges" "[I"
theorem wi_7 : ww_7 ∈ mj_tb := mj_t2 (i := 107) rfl rfl
abbrev ww_8 : Cond := .methodLink RX0 115 yX0_costOf
theorem wi_8 : ww_8 ∈ mj_tb := mj_t4 (i := 164) rfl rfl
abbrev ww_9 : Cond := .methodLink RX0 3 objectInit
theorem wi_9 : ww_9 ∈ mj_tb := mj_t2 (i := 95) rfl rfl
abbrev ww_10 : Cond := .arrayClass .int
theorem wi_10 : ww_10 ∈ mj_tb := mj_t1 (i := 169) rfl rfl
abbrev ww_11 : Cond := .fieldLink RX0 9 "RentRiver$Cheapest" "plan" "[I"
theorem wi_11 : ww_11 ∈ mj_tb := mj_t2 (i := 97) rfl rfl
abbrev ww_12 : Cond := .fieldLink RX0 15 "RentRiver$Cheapest" "done" "Z"
theorem wi_12 : ww_12 ∈ mj_tb := mj_t2 (i := 99) rfl rfl
abbrev ww_13 : Cond := .fieldLink RX0 19 "RentRiver$Cheapest" "planned" "I"
theorem wi_13 : ww_13 ∈ mj_tb := mj_t2 (i := 101) rfl rfl
abbrev ww_14 : Cond := .fieldLink RX0 23 "RentRiver$Cheapest" "solved" "I"
theorem wi_14 : ww_14 ∈ mj_tb := mj_t2 (i := 103) rfl rfl
abbrev ww_15 : Cond := .fieldLink RX0 26 "RentRiver$Cheapest" "answer" "I"
theorem wi_15 : ww_15 ∈ mj_tb := mj_t2 (i := 104) rfl rfl
abbrev ww_16 : Cond := .classLink RX0 41 "[[I"
theorem wi_16 : ww_16 ∈ mj_tb := mj_t2 (i := 96) rfl rfl
abbrev ww_17 : Cond := .fieldLink RX0 43 "RentRiver$Cheapest" "gains" "[[I"
theorem wi_17 : ww_17 ∈ mj_tb := mj_t2 (i := 109) rfl rfl
abbrev ww_18 : Cond := .fieldLink RX0 52 "RentRiver$Cheapest" "tailGains" "[[I"
theorem wi_18 : ww_18 ∈ mj_tb := mj_t2 (i := 112) rfl rfl
abbrev ww_19 : Cond := .fieldLink RX0 55 "RentRiver$Cheapest" "tailCosts" "[I"
theorem wi_19 : ww_19 ∈ mj_tb := mj_t2 (i := 113) rfl rfl
abbrev ww_20 : Cond := .fieldLink RX0 58 "RentRiver$Cheapest" "tailTowns" "[I"
theorem wi_20 : ww_20 ∈ mj_tb := mj_t2 (i := 114) rfl rfl
abbrev ww_21 : Cond := .fieldLink RX0 61 "RentRiver$Cheapest" "tails" "I"
theorem wi_21 : ww_21 ∈ mj_tb := mj_t2 (i := 115) rfl rfl
abbrev ww_22 : Cond := .fieldLink RX0 64 "RentRiver$Cheapest" "path" "[I"
theorem wi_22 : ww_22 ∈ mj_tb := mj_t2 (i := 116) rfl rfl
abbrev ww_23 : Cond := .fieldLink RX0 67 "RentRiver$Cheapest" "best" "[I"
theorem wi_23 : ww_23 ∈ mj_tb := mj_t2 (i := 117) rfl rfl
abbrev ww_24 : Cond := .fieldLink RX0 70 "RentRiver$Cheapest" "bestPaid" "I"
theorem wi_24 : ww_24 ∈ mj_tb := mj_t2 (i := 118) rfl rfl
abbrev ww_25 : Cond := .methodLink RX0 95 Lib.Math.min.name
theorem wi_25 : ww_25 ∈ mj_tb := mj_t4 (i := 149) rfl rfl
abbrev ww_26 : Cond := .methodLink RX0 111 yX0_putAhead
theorem wi_26 : ww_26 ∈ mj_tb := mj_t4 (i := 160) rfl rfl
abbrev ww_27 : Cond := .fieldLink RX0 94 "RentRiver$Plain" "towns" "I"
theorem wi_27 : ww_27 ∈ mj_tb := mj_t1 (i := 114) rfl rfl
abbrev ww_28 : Cond := .fieldLink RX0 101 "RentRiver$Plain" "move" "I"
theorem wi_28 : ww_28 ∈ mj_tb := mj_t1 (i := 120) rfl rfl
abbrev ww_29 : Cond := .fieldLink RX0 102 "RentRiver$Plain" "told" "[[I"
theorem wi_29 : ww_29 ∈ mj_tb := mj_t1 (i := 102) rfl rfl
abbrev ww_30 : Cond := .methodLink RX0 105 yX3_gain
theorem wi_30 : ww_30 ∈ mj_tb := mj_t4 (i := 150) rfl rfl
abbrev ww_31 : Cond := .methodLink RX0 82 yX0_prepare
theorem wi_31 : ww_31 ∈ mj_tb := mj_t4 (i := 145) rfl rfl
abbrev ww_32 : Cond := .methodLink RX0 86 yX0_listTails
theorem wi_32 : ww_32 ∈ mj_tb := mj_t4 (i := 156) rfl rfl
abbrev ww_33 : Cond := .constant RX0 89 (1000000)
theorem wi_33 : ww_33 ∈ mj_tb := mj_t4 (i := 169) rfl rfl
abbrev ww_34 : Cond := .methodLink RX0 90 yX0_tryMonth
theorem wi_34 : ww_34 ∈ mj_tb := mj_t4 (i := 170) rfl rfl
abbrev ww_35 : Cond := .fieldLink RX0 73 "RentRiver$Plain" "serial" "I"
theorem wi_35 : ww_35 ∈ mj_tb := mj_t1 (i := 130) rfl rfl
abbrev ww_36 : Cond := .methodLink RX0 78 yX0_searchPlan
theorem wi_36 : ww_36 ∈ mj_tb := mj_t4 (i := 141) rfl rfl
abbrev ww_37 : Cond := .methodLink RX0 143 yX0_firstForNothing
theorem wi_37 : ww_37 ∈ mj_tb := mj_t4 (i := 190) rfl rfl
abbrev ww_38 : Cond := .methodLink RX0 118 yX0_leastToCome
theorem wi_38 : ww_38 ∈ mj_tb := mj_t4 (i := 174) rfl rfl
abbrev ww_39 : Cond := .methodLink RX0 122 yX0_lacksAny
theorem wi_39 : ww_39 ∈ mj_tb := mj_t4 (i := 178) rfl rfl
abbrev ww_40 : Cond := .methodLink RX0 126 yX0_keepPath
theorem wi_40 : ww_40 ∈ mj_tb := mj_t4 (i := 182) rfl rfl
abbrev ww_41 : Cond := .methodLink RX0 130 yX0_stayFrom
theorem wi_41 : ww_41 ∈ mj_tb := mj_t4 (i := 186) rfl rfl
abbrev ww_42 : Cond := .methodLink RX0 133 yX0_canBe
theorem wi_42 : ww_42 ∈ mj_tb := mj_t4 (i := 194) rfl rfl
abbrev ww_43 : Cond := .methodLink RX0 137 yX0_tryTails
theorem wi_43 : ww_43 ∈ mj_tb := mj_t4 (i := 198) rfl rfl
abbrev ww_44 : Cond := .methodLink RX0 146 yX0_meetsNeeds
theorem wi_44 : ww_44 ∈ mj_tb := mj_t4 (i := 202) rfl rfl
abbrev ww_45 : Cond := .methodLink RX0 149 yX0_keepTail
theorem wi_45 : ww_45 ∈ mj_tb := mj_t4 (i := 206) rfl rfl
abbrev ww_46 : Cond := .fieldLink RX1 9 "RentRiver$Contracts" "first" "[I"
theorem wi_46 : ww_46 ∈ mj_tb := mj_t1 (i := 180) rfl rfl
abbrev ww_47 : Cond := .fieldLink RX1 15 "RentRiver$Contracts" "second" "[I"
theorem wi_47 : ww_47 ∈ mj_tb := mj_t1 (i := 183) rfl rfl
abbrev ww_48 : Cond := .fieldLink RX1 18 "RentRiver$Contracts" "cost" "[I"
theorem wi_48 : ww_48 ∈ mj_tb := mj_t1 (i := 186) rfl rfl
abbrev ww_49 : Cond := .fieldLink RX1 21 "RentRiver$Contracts" "rows" "I"
theorem wi_49 : ww_49 ∈ mj_tb := mj_t1 (i := 189) rfl rfl
abbrev ww_50 : Cond := .methodLink RX1 28 arraycopyName
theorem wi_50 : ww_50 ∈ mj_tb := mj_t5 (i := 231) rfl rfl
abbrev ww_51 : Cond := .methodLink RX1 3 objectInit
theorem wi_51 : ww_51 ∈ mj_tb := mj_t1 (i := 175) rfl rfl
abbrev ww_52 : Cond := .methodLink RX1 25 yX1_clear
theorem wi_52 : ww_52 ∈ mj_tb := mj_t1 (i := 176) rfl rfl
abbrev ww_53 : Cond := .methodLink RX1 84 yX3_nextTown
theorem wi_53 : ww_53 ∈ mj_tb := mj_t4 (i := 19) rfl rfl
abbrev ww_54 : Cond := .methodLink RX1 34 yX7_advance
theorem wi_54 : ww_54 ∈ mj_tb := mj_t4 (i := 0) rfl rfl
abbrev ww_55 : Cond := .fieldLink RX1 39 "RentRiver$Tape" "kind" "I"
theorem wi_55 : ww_55 ∈ mj_tb := mj_t1 (i := 44) rfl rfl
abbrev ww_56 : Cond := .methodLink RX1 90 yX3_townHere
theorem wi_56 : ww_56 ∈ mj_tb := mj_t4 (i := 20) rfl rfl
abbrev ww_57 : Cond := .methodLink RX1 66 yX7_refuse
theorem wi_57 : ww_57 ∈ mj_tb := mj_t4 (i := 9) rfl rfl
abbrev ww_58 : Cond := .methodLink RX1 93 yX7_numberHere
theorem wi_58 : ww_58 ∈ mj_tb := mj_t4 (i := 21) rfl rfl
abbrev ww_59 : Cond := .methodLink RX1 80 yX1_tell
theorem wi_59 : ww_59 ∈ mj_tb := mj_t4 (i := 22) rfl rfl
abbrev ww_60 : Cond := .fieldLink RX1 54 "RentRiver$Tape" "word" "LRentRiver$Word;"
theorem wi_60 : ww_60 ∈ mj_tb := mj_t1 (i := 54) rfl rfl
abbrev ww_61 : Cond := .fieldLink RX1 58 "RentRiver$Word" "LET" "LRentRiver$Word;"
theorem wi_61 : ww_61 ∈ mj_tb := mj_t4 (i := 5) rfl rfl
abbrev ww_62 : Cond := .fieldLink RX1 63 "RentRiver$Word" "SEA" "LRentRiver$Word;"
theorem wi_62 : ww_62 ∈ mj_tb := mj_t4 (i := 7) rfl rfl
abbrev ww_63 : Cond := .methodLink RX1 69 yX7_nextNumber
theorem wi_63 : ww_63 ∈ mj_tb := mj_t4 (i := 10) rfl rfl
abbrev ww_64 : Cond := .methodLink RX1 73 yX1_tells
theorem wi_64 : ww_64 ∈ mj_tb := mj_t4 (i := 11) rfl rfl
abbrev ww_65 : Cond := .methodLink RX1 76 yX1_readLet
theorem wi_65 : ww_65 ∈ mj_tb := mj_t4 (i := 15) rfl rfl
abbrev ww_66 : Cond := .methodLink RX1 42 yX1_readRow
theorem wi_66 : ww_66 ∈ mj_tb := mj_t4 (i := 1) rfl rfl
abbrev ww_67 : Cond := .methodLink RX1 46 yX7_nextSign
theorem wi_67 : ww_67 ∈ mj_tb := mj_t4 (i := 26) rfl rfl
abbrev ww_68 : Cond := .methodLink RX1 50 yX7_finish
theorem wi_68 : ww_68 ∈ mj_tb := mj_t4 (i := 27) rfl rfl
abbrev ww_69 : Cond := .fieldLink RX2 77 "RentRiver$Year" "months" "I"
theorem wi_69 : ww_69 ∈ mj_tb := mj_t1 (i := 239) rfl rfl
abbrev ww_70 : Cond := .fieldLink RX2 23 "RentRiver$Leaks" "levelsTold" "[Z"
theorem wi_70 : ww_70 ∈ mj_tb := mj_t2 (i := 194) rfl rfl
abbrev ww_71 : Cond := .fieldLink RX2 88 "RentRiver$Year" "of" "[[I"
theorem wi_71 : ww_71 ∈ mj_tb := mj_t2 (i := 10) rfl rfl
abbrev ww_72 : Cond := .fieldLink RX2 27 "RentRiver$Leaks" "levels" "[[I"
theorem wi_72 : ww_72 ∈ mj_tb := mj_t2 (i := 195) rfl rfl
abbrev ww_73 : Cond := .fieldLink RX2 36 "RentRiver$Leaks" "tight" "LRentRiver$Year;"
theorem wi_73 : ww_73 ∈ mj_tb := mj_t2 (i := 197) rfl rfl
abbrev ww_74 : Cond := .fieldLink RX2 30 "RentRiver$Leaks" "last" "I"
theorem wi_74 : ww_74 ∈ mj_tb := mj_t2 (i := 196) rfl rfl
abbrev ww_75 : Cond := .fieldLink RX2 40 "RentRiver$Leaks" "leaking" "LRentRiver$Year;"
theorem wi_75 : ww_75 ∈ mj_tb := mj_t2 (i := 198) rfl rfl
abbrev ww_76 : Cond := .methodLink RX2 80 yX10_copy
theorem wi_76 : ww_76 ∈ mj_tb := mj_t5 (i := 25) rfl rfl
abbrev ww_77 : Cond := .methodLink RX2 69 yX10_nextMonth
theorem wi_77 : ww_77 ∈ mj_tb := mj_t5 (i := 30) rfl rfl
abbrev ww_78 : Cond := .methodLink RX2 84 yX10_leakFrom
theorem wi_78 : ww_78 ∈ mj_tb := mj_t5 (i := 31) rfl rfl
abbrev ww_79 : Cond := .fieldLink RX2 52 "RentRiver$Plain" "towns" "I"
theorem wi_79 : ww_79 ∈ mj_tb := mj_t1 (i := 113) rfl rfl
abbrev ww_80 : Cond := .methodLink RX2 73 yX2_asTold
theorem wi_80 : ww_80 ∈ mj_tb := mj_t5 (i := 35) rfl rfl
abbrev ww_81 : Cond := .methodLink RX2 3 objectInit
theorem wi_81 : ww_81 ∈ mj_tb := mj_t2 (i := 185) rfl rfl
abbrev ww_82 : Cond := .classLink RX2 11 "[[I"
theorem wi_82 : ww_82 ∈ mj_tb := mj_t2 (i := 186) rfl rfl
abbrev ww_83 : Cond := .fieldLink RX2 13 "RentRiver$Leaks" "found" "[[I"
theorem wi_83 : ww_83 ∈ mj_tb := mj_t2 (i := 189) rfl rfl
abbrev ww_84 : Cond := .fieldLink RX2 16 "RentRiver$Leaks" "kept" "I"
theorem wi_84 : ww_84 ∈ mj_tb := mj_t2 (i := 191) rfl rfl
abbrev ww_85 : Cond := .fieldLink RX2 20 "RentRiver$Leaks" "all" "I"
theorem wi_85 : ww_85 ∈ mj_tb := mj_t2 (i := 193) rfl rfl
abbrev ww_86 : Cond := .arrayClass .boolean
theorem wi_86 : ww_86 ∈ mj_tb := mj_t1 (i := 228) rfl rfl
abbrev ww_87 : Cond := .classLink RX2 33 RX10
theorem wi_87 : ww_87 ∈ mj_tb := mj_t2 (i := 187) rfl rfl
abbrev ww_88 : Cond := .instantiable RX10 15
theorem wi_88 : ww_88 ∈ mj_tb := mj_t1 (i := 230) rfl rfl
abbrev ww_89 : Cond := .initialized RX10
theorem wi_89 : ww_89 ∈ mj_tb := mj_t1 (i := 7) rfl rfl
abbrev ww_90 : Cond := .methodLink RX2 35 yX10_init
theorem wi_90 : ww_90 ∈ mj_tb := mj_t2 (i := 188) rfl rfl
abbrev ww_91 : Cond := .methodLink RX10 3 objectInit
theorem wi_91 : ww_91 ∈ mj_tb := mj_t1 (i := 234) rfl rfl
abbrev ww_92 : Cond := .fieldLink RX10 9 "RentRiver$Year" "running" "Z"
theorem wi_92 : ww_92 ∈ mj_tb := mj_t1 (i := 236) rfl rfl
abbrev ww_93 : Cond := .fieldLink RX10 15 "RentRiver$Year" "months" "I"
theorem wi_93 : ww_93 ∈ mj_tb := mj_t1 (i := 238) rfl rfl
abbrev ww_94 : Cond := .fieldLink RX10 19 "RentRiver$Year" "treasury" "I"
theorem wi_94 : ww_94 ∈ mj_tb := mj_t2 (i := 1) rfl rfl
abbrev ww_95 : Cond := .fieldLink RX10 22 "RentRiver$Year" "letTo" "[I"
theorem wi_95 : ww_95 ∈ mj_tb := mj_t2 (i := 3) rfl rfl
abbrev ww_96 : Cond := .fieldLink RX10 26 "RentRiver$Year" "letAlso" "[I"
theorem wi_96 : ww_96 ∈ mj_tb := mj_t2 (i := 5) rfl rfl
abbrev ww_97 : Cond := .fieldLink RX10 29 "RentRiver$Year" "letFor" "[I"
theorem wi_97 : ww_97 ∈ mj_tb := mj_t2 (i := 7) rfl rfl
abbrev ww_98 : Cond := .classLink RX10 32 "[[I"
theorem wi_98 : ww_98 ∈ mj_tb := mj_t1 (i := 235) rfl rfl
abbrev ww_99 : Cond := .fieldLink RX10 34 "RentRiver$Year" "of" "[[I"
theorem wi_99 : ww_99 ∈ mj_tb := mj_t2 (i := 9) rfl rfl
abbrev ww_100 : Cond := .fieldLink RX10 37 "RentRiver$Year" "lies" "I"
theorem wi_100 : ww_100 ∈ mj_tb := mj_t2 (i := 13) rfl rfl
abbrev ww_101 : Cond := .fieldLink RX10 40 "RentRiver$Year" "fish" "I"
theorem wi_101 : ww_101 ∈ mj_tb := mj_t2 (i := 14) rfl rfl
abbrev ww_102 : Cond := .fieldLink RX10 43 "RentRiver$Year" "rained" "I"
theorem wi_102 : ww_102 ∈ mj_tb := mj_t2 (i := 15) rfl rfl
abbrev ww_103 : Cond := .fieldLink RX10 46 "RentRiver$Year" "used" "I"
theorem wi_103 : ww_103 ∈ mj_tb := mj_t2 (i := 16) rfl rfl
abbrev ww_104 : Cond := .fieldLink RX10 49 "RentRiver$Year" "seeped" "I"
theorem wi_104 : ww_104 ∈ mj_tb := mj_t2 (i := 17) rfl rfl
abbrev ww_105 : Cond := .fieldLink RX10 52 "RentRiver$Year" "atSea" "I"
theorem wi_105 : ww_105 ∈ mj_tb := mj_t2 (i := 18) rfl rfl
abbrev ww_106 : Cond := .fieldLink RX10 55 "RentRiver$Year" "lettings" "I"
theorem wi_106 : ww_106 ∈ mj_tb := mj_t2 (i := 19) rfl rfl
abbrev ww_107 : Cond := .fieldLink RX10 58 "RentRiver$Year" "moves" "I"
theorem wi_107 : ww_107 ∈ mj_tb := mj_t2 (i := 20) rfl rfl
abbrev ww_108 : Cond := .fieldLink RX2 43 "RentRiver$Tape" "size" "I"
theorem wi_108 : ww_108 ∈ mj_tb := mj_t1 (i := 37) rfl rfl
abbrev ww_109 : Cond := .methodLink RX2 48 yX7_valueAt
theorem wi_109 : ww_109 ∈ mj_tb := mj_t5 (i := 15) rfl rfl
abbrev ww_110 : Cond := .methodLink RX2 57 yX10_start
theorem wi_110 : ww_110 ∈ mj_tb := mj_t5 (i := 20) rfl rfl
abbrev ww_111 : Cond := .methodLink RX2 61 yX2_comesBy
theorem wi_111 : ww_111 ∈ mj_tb := mj_t5 (i := 21) rfl rfl
abbrev ww_112 : Cond := .methodLink RX2 65 yX2_keep
theorem wi_112 : ww_112 ∈ mj_tb := mj_t5 (i := 39) rfl rfl
abbrev ww_113 : Cond := .fieldLink RX3 9 "RentRiver$Plain" "names" "[J"
theorem wi_113 : ww_113 ∈ mj_tb := mj_t1 (i := 98) rfl rfl
abbrev ww_114 : Cond := .fieldLink RX3 46 "RentRiver$Plain" "toldOf" "[I"
theorem wi_114 : ww_114 ∈ mj_tb := mj_t1 (i := 132) rfl rfl
abbrev ww_115 : Cond := .fieldLink RX3 17 "RentRiver$Plain" "told" "[[I"
theorem wi_115 : ww_115 ∈ mj_tb := mj_t1 (i := 100) rfl rfl
abbrev ww_116 : Cond := .fieldLink RX3 20 "RentRiver$Plain" "bids" "[[I"
theorem wi_116 : ww_116 ∈ mj_tb := mj_t1 (i := 104) rfl rfl
abbrev ww_117 : Cond := .fieldLink RX3 23 "RentRiver$Plain" "water" "[I"
theorem wi_117 : ww_117 ∈ mj_tb := mj_t1 (i := 108) rfl rfl
abbrev ww_118 : Cond := .fieldLink RX3 27 "RentRiver$Plain" "towns" "I"
theorem wi_118 : ww_118 ∈ mj_tb := mj_t1 (i := 111) rfl rfl
abbrev ww_119 : Cond := .fieldLink RX3 31 "RentRiver$Plain" "bidCount" "I"
theorem wi_119 : ww_119 ∈ mj_tb := mj_t1 (i := 117) rfl rfl
abbrev ww_120 : Cond := .fieldLink RX3 34 "RentRiver$Plain" "move" "I"
theorem wi_120 : ww_120 ∈ mj_tb := mj_t1 (i := 119) rfl rfl
abbrev ww_121 : Cond := .fieldLink RX3 37 "RentRiver$Plain" "fish" "I"
theorem wi_121 : ww_121 ∈ mj_tb := mj_t1 (i := 123) rfl rfl
abbrev ww_122 : Cond := .fieldLink RX3 40 "RentRiver$Plain" "patience" "I"
theorem wi_122 : ww_122 ∈ mj_tb := mj_t1 (i := 126) rfl rfl
abbrev ww_123 : Cond := .fieldLink RX3 49 "RentRiver$Plain" "toldWater" "I"
theorem wi_123 : ww_123 ∈ mj_tb := mj_t1 (i := 133) rfl rfl
abbrev ww_124 : Cond := .fieldLink RX3 52 "RentRiver$Plain" "toldMove" "Z"
theorem wi_124 : ww_124 ∈ mj_tb := mj_t1 (i := 134) rfl rfl
abbrev ww_125 : Cond := .fieldLink RX3 56 "RentRiver$Plain" "toldFish" "Z"
theorem wi_125 : ww_125 ∈ mj_tb := mj_t1 (i := 135) rfl rfl
abbrev ww_126 : Cond := .fieldLink RX3 59 "RentRiver$Plain" "toldPatience" "Z"
theorem wi_126 : ww_126 ∈ mj_tb := mj_t1 (i := 136) rfl rfl
abbrev ww_127 : Cond := .methodLink RX3 62 arraycopyName
theorem wi_127 : ww_127 ∈ mj_tb := mj_t5 (i := 114) rfl rfl
abbrev ww_128 : Cond := .fieldLink RX3 43 "RentRiver$Plain" "serial" "I"
theorem wi_128 : ww_128 ∈ mj_tb := mj_t1 (i := 129) rfl rfl
abbrev ww_129 : Cond := .methodLink RX3 68 Lib.Math.max.name
theorem wi_129 : ww_129 ∈ mj_tb := mj_t4 (i := 154) rfl rfl
abbrev ww_130 : Cond := .methodLink RX3 3 objectInit
theorem wi_130 : ww_130 ∈ mj_tb := mj_t1 (i := 95) rfl rfl
abbrev ww_131 : Cond := .arrayClass .long
theorem wi_131 : ww_131 ∈ mj_tb := mj_t1 (i := 168) rfl rfl
abbrev ww_132 : Cond := .classLink RX3 15 "[[I"
theorem wi_132 : ww_132 ∈ mj_tb := mj_t1 (i := 96) rfl rfl
abbrev ww_133 : Cond := .methodLink RX3 74 yX7_advance
theorem wi_133 : ww_133 ∈ mj_tb := mj_t3 (i := 53) rfl rfl
abbrev ww_134 : Cond := .methodLink RX3 160 yX3_townHere
theorem wi_134 : ww_134 ∈ mj_tb := mj_t3 (i := 127) rfl rfl
abbrev ww_135 : Cond := .methodLink RX3 164 yX3_nextTown
theorem wi_135 : ww_135 ∈ mj_tb := mj_t3 (i := 123) rfl rfl
abbrev ww_136 : Cond := .fieldLink RX3 171 "RentRiver$Word" "what" "I"
theorem wi_136 : ww_136 ∈ mj_tb := mj_t8 (i := 234) rfl rfl
abbrev ww_137 : Cond := .methodLink RX3 98 yX7_refuse
theorem wi_137 : ww_137 ∈ mj_tb := mj_t3 (i := 83) rfl rfl
abbrev ww_138 : Cond := .fieldLink RX3 174 "RentRiver$Word" "NEEDS" "LRentRiver$Word;"
theorem wi_138 : ww_138 ∈ mj_tb := mj_t3 (i := 151) rfl rfl
abbrev ww_139 : Cond := .methodLink RX3 157 yX7_nextNumber
theorem wi_139 : ww_139 ∈ mj_tb := mj_t3 (i := 102) rfl rfl
abbrev ww_140 : Cond := .fieldLink RX3 177 "RentRiver$Word" "FIELDS" "LRentRiver$Word;"
theorem wi_140 : ww_140 ∈ mj_tb := mj_t3 (i := 152) rfl rfl
abbrev ww_141 : Cond := .methodLink RX3 167 yX3_setBid
theorem wi_141 : ww_141 ∈ mj_tb := mj_t3 (i := 131) rfl rfl
abbrev ww_142 : Cond := .fieldLink RX3 94 "RentRiver$Tape" "word" "LRentRiver$Word;"
theorem wi_142 : ww_142 ∈ mj_tb := mj_t1 (i := 55) rfl rfl
abbrev ww_143 : Cond := .fieldLink RX3 101 "RentRiver$Word" "TOWN" "LRentRiver$Word;"
theorem wi_143 : ww_143 ∈ mj_tb := mj_t3 (i := 87) rfl rfl
abbrev ww_144 : Cond := .methodLink RX3 106 yX3_readTown
theorem wi_144 : ww_144 ∈ mj_tb := mj_t3 (i := 89) rfl rfl
abbrev ww_145 : Cond := .fieldLink RX3 109 "RentRiver$Word" "WATER" "LRentRiver$Word;"
theorem wi_145 : ww_145 ∈ mj_tb := mj_t3 (i := 111) rfl rfl
abbrev ww_146 : Cond := .methodLink RX3 112 yX3_readWater
theorem wi_146 : ww_146 ∈ mj_tb := mj_t3 (i := 113) rfl rfl
abbrev ww_147 : Cond := .fieldLink RX3 115 "RentRiver$Word" "BID" "LRentRiver$Word;"
theorem wi_147 : ww_147 ∈ mj_tb := mj_t3 (i := 117) rfl rfl
abbrev ww_148 : Cond := .methodLink RX3 118 yX3_readBid
theorem wi_148 : ww_148 ∈ mj_tb := mj_t3 (i := 119) rfl rfl
abbrev ww_149 : Cond := .methodLink RX3 121 yX9_isAboutTown
theorem wi_149 : ww_149 ∈ mj_tb := mj_t3 (i := 135) rfl rfl
abbrev ww_150 : Cond := .methodLink RX3 124 yX3_readAboutTown
theorem wi_150 : ww_150 ∈ mj_tb := mj_t3 (i := 147) rfl rfl
abbrev ww_151 : Cond := .fieldLink RX3 128 "RentRiver$Word" "MOVE" "LRentRiver$Word;"
theorem wi_151 : ww_151 ∈ mj_tb := mj_t3 (i := 153) rfl rfl
abbrev ww_152 : Cond := .methodLink RX3 131 yX3_readMove
theorem wi_152 : ww_152 ∈ mj_tb := mj_t3 (i := 155) rfl rfl
abbrev ww_153 : Cond := .fieldLink RX3 134 "RentRiver$Word" "FISH" "LRentRiver$Word;"
theorem wi_153 : ww_153 ∈ mj_tb := mj_t3 (i := 159) rfl rfl
abbrev ww_154 : Cond := .methodLink RX3 137 yX3_readFish
theorem wi_154 : ww_154 ∈ mj_tb := mj_t3 (i := 161) rfl rfl
abbrev ww_155 : Cond := .fieldLink RX3 140 "RentRiver$Word" "PATIENCE" "LRentRiver$Word;"
theorem wi_155 : ww_155 ∈ mj_tb := mj_t3 (i := 165) rfl rfl
abbrev ww_156 : Cond := .methodLink RX3 143 yX3_readPatience
theorem wi_156 : ww_156 ∈ mj_tb := mj_t3 (i := 167) rfl rfl
abbrev ww_157 : Cond := .fieldLink RX3 79 "RentRiver$Tape" "kind" "I"
theorem wi_157 : ww_157 ∈ mj_tb := mj_t1 (i := 45) rfl rfl
abbrev ww_158 : Cond := .methodLink RX3 82 yX3_readRow
theorem wi_158 : ww_158 ∈ mj_tb := mj_t3 (i := 79) rfl rfl
abbrev ww_159 : Cond := .methodLink RX3 86 yX7_nextSign
theorem wi_159 : ww_159 ∈ mj_tb := mj_t3 (i := 171) rfl rfl
abbrev ww_160 : Cond := .methodLink RX3 90 yX7_finish
theorem wi_160 : ww_160 ∈ mj_tb := mj_t3 (i := 179) rfl rfl
abbrev ww_161 : Cond := .methodLink RX3 146 yX7_nameHere
theorem wi_161 : ww_161 ∈ mj_tb := mj_t3 (i := 93) rfl rfl
abbrev ww_162 : Cond := .fieldLink RX3 149 "RentRiver$Tape" "code" "J"
theorem wi_162 : ww_162 ∈ mj_tb := mj_t1 (i := 51) rfl rfl
abbrev ww_163 : Cond := .methodLink RX3 153 yX3_find
theorem wi_163 : ww_163 ∈ mj_tb := mj_t3 (i := 98) rfl rfl
abbrev ww_164 : Cond := .fieldLink RX4 9 "RentRiver$Rounds" "done" "Z"
theorem wi_164 : ww_164 ∈ mj_tb := mj_t2 (i := 164) rfl rfl
abbrev ww_165 : Cond := .fieldLink RX4 15 "RentRiver$Rounds" "monthOf" "[I"
theorem wi_165 : ww_165 ∈ mj_tb := mj_t2 (i := 166) rfl rfl
abbrev ww_166 : Cond := .fieldLink RX4 19 "RentRiver$Rounds" "prices" "[I"
theorem wi_166 : ww_166 ∈ mj_tb := mj_t2 (i := 168) rfl rfl
abbrev ww_167 : Cond := .fieldLink RX4 22 "RentRiver$Rounds" "owner" "[I"
theorem wi_167 : ww_167 ∈ mj_tb := mj_t2 (i := 170) rfl rfl
abbrev ww_168 : Cond := .methodLink RX4 3 objectInit
theorem wi_168 : ww_168 ∈ mj_tb := mj_t2 (i := 163) rfl rfl
abbrev ww_169 : Cond := .methodLink RX4 25 yX4_clear
theorem wi_169 : ww_169 ∈ mj_tb := mj_t4 (i := 227) rfl rfl
abbrev ww_170 : Cond := .fieldLink RX4 28 "RentRiver$Plain" "towns" "I"
theorem wi_170 : ww_170 ∈ mj_tb := mj_t1 (i := 112) rfl rfl
abbrev ww_171 : Cond := .methodLink RX4 34 yX4_takeBest
theorem wi_171 : ww_171 ∈ mj_tb := mj_t4 (i := 231) rfl rfl
abbrev ww_172 : Cond := .fieldLink RX4 38 "RentRiver$Plain" "bids" "[[I"
theorem wi_172 : ww_172 ∈ mj_tb := mj_t1 (i := 105) rfl rfl
abbrev ww_173 : Cond := .methodLink RX4 42 yX4_priceNow
theorem wi_173 : ww_173 ∈ mj_tb := mj_t4 (i := 235) rfl rfl
abbrev ww_174 : Cond := .fieldLink RX5 28 "RentRiver$Sentence" "size" "I"
theorem wi_174 : ww_174 ∈ mj_tb := mj_t1 (i := 212) rfl rfl
abbrev ww_175 : Cond := .fieldLink RX5 13 "RentRiver$Sentence" "steps" "[LRentRiver$Word;"
theorem wi_175 : ww_175 ∈ mj_tb := mj_t1 (i := 208) rfl rfl
abbrev ww_176 : Cond := .fieldLink RX5 17 "RentRiver$Sentence" "signs" "[I"
theorem wi_176 : ww_176 ∈ mj_tb := mj_t1 (i := 209) rfl rfl
abbrev ww_177 : Cond := .fieldLink RX5 21 "RentRiver$Sentence" "numbers" "[I"
theorem wi_177 : ww_177 ∈ mj_tb := mj_t1 (i := 210) rfl rfl
abbrev ww_178 : Cond := .fieldLink RX5 83 "RentRiver$Word" "NOT" "LRentRiver$Word;"
theorem wi_178 : ww_178 ∈ mj_tb := mj_t5 (i := 162) rfl rfl
abbrev ww_179 : Cond := .fieldLink RX5 86 "RentRiver$Word" "SHORES" "LRentRiver$Word;"
theorem wi_179 : ww_179 ∈ mj_tb := mj_t5 (i := 164) rfl rfl
abbrev ww_180 : Cond := .fieldLink RX5 89 "RentRiver$Word" "THIRSTY" "LRentRiver$Word;"
theorem wi_180 : ww_180 ∈ mj_tb := mj_t5 (i := 166) rfl rfl
abbrev ww_181 : Cond := .methodLink RX5 96 yX9_isMeasure
theorem wi_181 : ww_181 ∈ mj_tb := mj_t5 (i := 168) rfl rfl
abbrev ww_182 : Cond := .fieldLink RX5 32 "RentRiver$Sentence" "ones" "I"
theorem wi_182 : ww_182 ∈ mj_tb := mj_t1 (i := 213) rfl rfl
abbrev ww_183 : Cond := .fieldLink RX5 24 "RentRiver$Sentence" "stack" "[Z"
theorem wi_183 : ww_183 ∈ mj_tb := mj_t1 (i := 211) rfl rfl
abbrev ww_184 : Cond := .fieldLink RX5 65 "RentRiver$Word" "AND" "LRentRiver$Word;"
theorem wi_184 : ww_184 ∈ mj_tb := mj_t5 (i := 200) rfl rfl
abbrev ww_185 : Cond := .fieldLink RX5 55 "RentRiver$Word" "OR" "LRentRiver$Word;"
theorem wi_185 : ww_185 ∈ mj_tb := mj_t5 (i := 202) rfl rfl
abbrev ww_186 : Cond := .methodLink RX5 106 yX5_holdsOne
theorem wi_186 : ww_186 ∈ mj_tb := mj_t5 (i := 213) rfl rfl
abbrev ww_187 : Cond := .fieldLink RX5 110 "RentRiver$Year" "of" "[[I"
theorem wi_187 : ww_187 ∈ mj_tb := mj_t2 (i := 11) rfl rfl
abbrev ww_188 : Cond := .methodLink RX5 116 yX10_lacks
theorem wi_188 : ww_188 ∈ mj_tb := mj_t5 (i := 217) rfl rfl
abbrev ww_189 : Cond := .fieldLink RX5 120 "RentRiver$Word" "what" "I"
theorem wi_189 : ww_189 ∈ mj_tb := mj_t8 (i := 236) rfl rfl
abbrev ww_190 : Cond := .methodLink RX5 5 objectInit
theorem wi_190 : ww_190 ∈ mj_tb := mj_t1 (i := 205) rfl rfl
abbrev ww_191 : Cond := .classLink RX5 11 "RentRiver$Word"
theorem wi_191 : ww_191 ∈ mj_tb := mj_t1 (i := 206) rfl rfl
abbrev ww_192 : Cond := .methodLink RX5 62 yX5_readOne
theorem wi_192 : ww_192 ∈ mj_tb := mj_t5 (i := 154) rfl rfl
abbrev ww_193 : Cond := .fieldLink RX5 51 "RentRiver$Tape" "word" "LRentRiver$Word;"
theorem wi_193 : ww_193 ∈ mj_tb := mj_t1 (i := 53) rfl rfl
abbrev ww_194 : Cond := .methodLink RX5 35 yX7_advance
theorem wi_194 : ww_194 ∈ mj_tb := mj_t5 (i := 145) rfl rfl
abbrev ww_195 : Cond := .methodLink RX5 58 yX5_add
theorem wi_195 : ww_195 ∈ mj_tb := mj_t5 (i := 191) rfl rfl
abbrev ww_196 : Cond := .methodLink RX5 68 yX7_isSign
theorem wi_196 : ww_196 ∈ mj_tb := mj_t5 (i := 158) rfl rfl
abbrev ww_197 : Cond := .methodLink RX5 76 yX7_refuse
theorem wi_197 : ww_197 ∈ mj_tb := mj_t5 (i := 186) rfl rfl
abbrev ww_198 : Cond := .methodLink RX5 48 yX5_readAll
theorem wi_198 : ww_198 ∈ mj_tb := mj_t5 (i := 150) rfl rfl
abbrev ww_199 : Cond := .fieldLink RX5 99 "RentRiver$Tape" "sign" "I"
theorem wi_199 : ww_199 ∈ mj_tb := mj_t1 (i := 49) rfl rfl
abbrev ww_200 : Cond := .methodLink RX5 102 yX7_nextNumber
theorem wi_200 : ww_200 ∈ mj_tb := mj_t5 (i := 199) rfl rfl
abbrev ww_201 : Cond := .methodLink RX5 72 yX5_begins
theorem wi_201 : ww_201 ∈ mj_tb := mj_t5 (i := 159) rfl rfl
abbrev ww_202 : Cond := .methodLink RX5 40 yX5_readCond
theorem wi_202 : ww_202 ∈ mj_tb := mj_t5 (i := 146) rfl rfl
abbrev ww_203 : Cond := .methodLink RX5 79 yX5_readClosing
theorem wi_203 : ww_203 ∈ mj_tb := mj_t5 (i := 187) rfl rfl
abbrev ww_204 : Cond := .methodLink RX5 92 yX5_readMeasure
theorem wi_204 : ww_204 ∈ mj_tb := mj_t5 (i := 195) rfl rfl
abbrev ww_205 : Cond := .methodLink RX5 44 yX7_finish
theorem wi_205 : ww_205 ∈ mj_tb := mj_t5 (i := 204) rfl rfl
abbrev ww_206 : Cond := .fieldLink RX6 10 "RentRiver$State" "plain" "LRentRiver$Plain;"
theorem wi_206 : ww_206 ∈ mj_tb := mj_t2 (i := 52) rfl rfl
abbrev ww_207 : Cond := .methodLink RX6 37 yX3_copy
theorem wi_207 : ww_207 ∈ mj_tb := mj_t5 (i := 226) rfl rfl
abbrev ww_208 : Cond := .fieldLink RX6 19 "RentRiver$State" "deals" "LRentRiver$Contracts;"
theorem wi_208 : ww_208 ∈ mj_tb := mj_t2 (i := 54) rfl rfl
abbrev ww_209 : Cond := .methodLink RX6 41 yX1_copy
theorem wi_209 : ww_209 ∈ mj_tb := mj_t5 (i := 227) rfl rfl
abbrev ww_210 : Cond := .fieldLink RX6 26 "RentRiver$State" "sentence" "LRentRiver$Sentence;"
theorem wi_210 : ww_210 ∈ mj_tb := mj_t2 (i := 56) rfl rfl
abbrev ww_211 : Cond := .methodLink RX6 44 yX5_copy
theorem wi_211 : ww_211 ∈ mj_tb := mj_t5 (i := 232) rfl rfl
abbrev ww_212 : Cond := .fieldLink RX6 33 "RentRiver$State" "year" "LRentRiver$Year;"
theorem wi_212 : ww_212 ∈ mj_tb := mj_t2 (i := 58) rfl rfl
abbrev ww_213 : Cond := .methodLink RX6 47 yX10_copy
theorem wi_213 : ww_213 ∈ mj_tb := mj_t5 (i := 236) rfl rfl
abbrev ww_214 : Cond := .methodLink RX6 1 objectInit
theorem wi_214 : ww_214 ∈ mj_tb := mj_t1 (i := 89) rfl rfl
abbrev ww_215 : Cond := .classLink RX6 7 RX3
theorem wi_215 : ww_215 ∈ mj_tb := mj_t1 (i := 90) rfl rfl
abbrev ww_216 : Cond := .instantiable RX3 15
theorem wi_216 : ww_216 ∈ mj_tb := mj_t1 (i := 91) rfl rfl
abbrev ww_217 : Cond := .initialized RX3
theorem wi_217 : ww_217 ∈ mj_tb := mj_t1 (i := 4) rfl rfl
abbrev ww_218 : Cond := .methodLink RX6 9 yX3_init
theorem wi_218 : ww_218 ∈ mj_tb := mj_t1 (i := 92) rfl rfl
abbrev ww_219 : Cond := .classLink RX6 16 RX1
theorem wi_219 : ww_219 ∈ mj_tb := mj_t1 (i := 170) rfl rfl
abbrev ww_220 : Cond := .instantiable RX1 4
theorem wi_220 : ww_220 ∈ mj_tb := mj_t1 (i := 171) rfl rfl
abbrev ww_221 : Cond := .initialized RX1
theorem wi_221 : ww_221 ∈ mj_tb := mj_t1 (i := 5) rfl rfl
abbrev ww_222 : Cond := .methodLink RX6 18 yX1_init
theorem wi_222 : ww_222 ∈ mj_tb := mj_t1 (i := 172) rfl rfl
abbrev ww_223 : Cond := .classLink RX6 23 RX5
theorem wi_223 : ww_223 ∈ mj_tb := mj_t1 (i := 200) rfl rfl
abbrev ww_224 : Cond := .instantiable RX5 6
theorem wi_224 : ww_224 ∈ mj_tb := mj_t1 (i := 201) rfl rfl
abbrev ww_225 : Cond := .initialized RX5
theorem wi_225 : ww_225 ∈ mj_tb := mj_t1 (i := 6) rfl rfl
abbrev ww_226 : Cond := .methodLink RX6 25 yX5_init
theorem wi_226 : ww_226 ∈ mj_tb := mj_t1 (i := 202) rfl rfl
abbrev ww_227 : Cond := .classLink RX6 30 RX10
theorem wi_227 : ww_227 ∈ mj_tb := mj_t1 (i := 229) rfl rfl
abbrev ww_228 : Cond := .methodLink RX6 32 yX10_init
theorem wi_228 : ww_228 ∈ mj_tb := mj_t1 (i := 231) rfl rfl
abbrev ww_229 : Cond := .fieldLink RX7 15 "RentRiver$Tape" "size" "I"
theorem wi_229 : ww_229 ∈ mj_tb := mj_t1 (i := 36) rfl rfl
abbrev ww_230 : Cond := .fieldLink RX7 45 "RentRiver$Tape" "most" "I"
theorem wi_230 : ww_230 ∈ mj_tb := mj_t1 (i := 56) rfl rfl
abbrev ww_231 : Cond := .methodLink RX7 51 Lib.Math.min.name
theorem wi_231 : ww_231 ∈ mj_tb := mj_t3 (i := 57) rfl rfl
abbrev ww_232 : Cond := .fieldLink RX7 48 "RentRiver$Tape" "here" "I"
theorem wi_232 : ww_232 ∈ mj_tb := mj_t1 (i := 57) rfl rfl
abbrev ww_233 : Cond := .methodLink RX7 57 yX7_valueAt
theorem wi_233 : ww_233 ∈ mj_tb := mj_t3 (i := 60) rfl rfl
abbrev ww_234 : Cond := .fieldLink RX7 41 "RentRiver$Tape" "word" "LRentRiver$Word;"
theorem wi_234 : ww_234 ∈ mj_tb := mj_t1 (i := 52) rfl rfl
abbrev ww_235 : Cond := .fieldLink RX7 37 "RentRiver$Tape" "code" "J"
theorem wi_235 : ww_235 ∈ mj_tb := mj_t1 (i := 50) rfl rfl
abbrev ww_236 : Cond := .fieldLink RX7 31 "RentRiver$Tape" "number" "I"
theorem wi_236 : ww_236 ∈ mj_tb := mj_t1 (i := 47) rfl rfl
abbrev ww_237 : Cond := .fieldLink RX7 34 "RentRiver$Tape" "sign" "I"
theorem wi_237 : ww_237 ∈ mj_tb := mj_t1 (i := 48) rfl rfl
abbrev ww_238 : Cond := .fieldLink RX7 25 "RentRiver$Tape" "kind" "I"
theorem wi_238 : ww_238 ∈ mj_tb := mj_t1 (i := 43) rfl rfl
abbrev ww_239 : Cond := .fieldLink RX7 28 "RentRiver$Tape" "start" "I"
theorem wi_239 : ww_239 ∈ mj_tb := mj_t1 (i := 46) rfl rfl
abbrev ww_240 : Cond := .methodLink RX7 61 yX7_isLetter
theorem wi_240 : ww_240 ∈ mj_tb := mj_t3 (i := 64) rfl rfl
abbrev ww_241 : Cond := .methodLink RX7 65 yX7_isDigit
theorem wi_241 : ww_241 ∈ mj_tb := mj_t3 (i := 67) rfl rfl
abbrev ww_242 : Cond := .methodLink RX7 68 yX7_readRun
theorem wi_242 : ww_242 ∈ mj_tb := mj_t3 (i := 70) rfl rfl
abbrev ww_243 : Cond := .methodLink RX7 77 yX7_refuse
theorem wi_243 : ww_243 ∈ mj_tb := mj_t3 (i := 97) rfl rfl
abbrev ww_244 : Cond := .methodLink RX7 3 objectInit
theorem wi_244 : ww_244 ∈ mj_tb := mj_t1 (i := 34) rfl rfl
abbrev ww_245 : Cond := .arrayClass .byte
theorem wi_245 : ww_245 ∈ mj_tb := mj_t1 (i := 83) rfl rfl
abbrev ww_246 : Cond := .fieldLink RX7 11 "RentRiver$Tape" "bytes" "[B"
theorem wi_246 : ww_246 ∈ mj_tb := mj_t1 (i := 35) rfl rfl
abbrev ww_247 : Cond := .fieldLink RX7 19 "RentRiver$Tape" "fault" "I"
theorem wi_247 : ww_247 ∈ mj_tb := mj_t1 (i := 39) rfl rfl
abbrev ww_248 : Cond := .fieldLink RX7 22 "RentRiver$Tape" "faultAt" "I"
theorem wi_248 : ww_248 ∈ mj_tb := mj_t1 (i := 41) rfl rfl
abbrev ww_249 : Cond := .methodLink RX7 80 yX7_advance
theorem wi_249 : ww_249 ∈ mj_tb := mj_t3 (i := 106) rfl rfl
abbrev ww_250 : Cond := .methodLink RX7 83 yX7_numberHere
theorem wi_250 : ww_250 ∈ mj_tb := mj_t3 (i := 107) rfl rfl
abbrev ww_251 : Cond := .methodLink RX7 86 yX7_isSign
theorem wi_251 : ww_251 ∈ mj_tb := mj_t3 (i := 175) rfl rfl
abbrev ww_252 : Cond := .methodLink RX7 73 yX9_find
theorem wi_252 : ww_252 ∈ mj_tb := mj_t3 (i := 74) rfl rfl
abbrev ww_253 : Cond := .fieldLink RX8 21 "RentRiver$Undo" "size" "I"
theorem wi_253 : ww_253 ∈ mj_tb := mj_t2 (i := 79) rfl rfl
abbrev ww_254 : Cond := .fieldLink RX8 11 "RentRiver$Undo" "towns" "[I"
theorem wi_254 : ww_254 ∈ mj_tb := mj_t2 (i := 76) rfl rfl
abbrev ww_255 : Cond := .fieldLink RX8 15 "RentRiver$Undo" "months" "[I"
theorem wi_255 : ww_255 ∈ mj_tb := mj_t2 (i := 77) rfl rfl
abbrev ww_256 : Cond := .fieldLink RX8 18 "RentRiver$Undo" "before" "[I"
theorem wi_256 : ww_256 ∈ mj_tb := mj_t2 (i := 78) rfl rfl
abbrev ww_257 : Cond := .methodLink RX8 31 yX3_setBid
theorem wi_257 : ww_257 ∈ mj_tb := mj_t3 (i := 227) rfl rfl
abbrev ww_258 : Cond := .methodLink RX8 3 objectInit
theorem wi_258 : ww_258 ∈ mj_tb := mj_t2 (i := 75) rfl rfl
abbrev ww_259 : Cond := .methodLink RX8 25 arraycopyName
theorem wi_259 : ww_259 ∈ mj_tb := mj_t3 (i := 215) rfl rfl
abbrev ww_260 : Cond := .fieldLink RX10 64 "RentRiver$Plain" "told" "[[I"
theorem wi_260 : ww_260 ∈ mj_tb := mj_t1 (i := 101) rfl rfl
abbrev ww_261 : Cond := .methodLink RX10 67 arraycopyName
theorem wi_261 : ww_261 ∈ mj_tb := mj_t5 (i := 29) rfl rfl
abbrev ww_262 : Cond := .constant RX10 81 (1103515245)
theorem wi_262 : ww_262 ∈ mj_tb := mj_t5 (i := 123) rfl rfl
abbrev ww_263 : Cond := .methodLink RX10 77 yX10_nextMonth
theorem wi_263 : ww_263 ∈ mj_tb := mj_t4 (i := 49) rfl rfl
abbrev ww_264 : Cond := .methodLink RX10 159 Lib.Math.min.name
theorem wi_264 : ww_264 ∈ mj_tb := mj_t4 (i := 96) rfl rfl
abbrev ww_265 : Cond := .fieldLink RX10 162 "RentRiver$Plain" "patience" "I"
theorem wi_265 : ww_265 ∈ mj_tb := mj_t1 (i := 127) rfl rfl
abbrev ww_266 : Cond := .methodLink RX10 165 yX10_waterField
theorem wi_266 : ww_266 ∈ mj_tb := mj_t4 (i := 101) rfl rfl
abbrev ww_267 : Cond := .fieldLink RX10 106 "RentRiver$Plain" "towns" "I"
theorem wi_267 : ww_267 ∈ mj_tb := mj_t1 (i := 116) rfl rfl
abbrev ww_268 : Cond := .fieldLink RX10 132 "RentRiver$Plain" "bids" "[[I"
theorem wi_268 : ww_268 ∈ mj_tb := mj_t1 (i := 107) rfl rfl
abbrev ww_269 : Cond := .methodLink RX10 124 yX10_canPay
theorem wi_269 : ww_269 ∈ mj_tb := mj_t4 (i := 58) rfl rfl
abbrev ww_270 : Cond := .methodLink RX10 135 Lib.Math.max.name
theorem wi_270 : ww_270 ∈ mj_tb := mj_t4 (i := 85) rfl rfl
abbrev ww_271 : Cond := .methodLink RX10 128 yX10_pay
theorem wi_271 : ww_271 ∈ mj_tb := mj_t4 (i := 62) rfl rfl
abbrev ww_272 : Cond := .fieldLink RX10 115 "RentRiver$Contracts" "first" "[I"
theorem wi_272 : ww_272 ∈ mj_tb := mj_t1 (i := 181) rfl rfl
abbrev ww_273 : Cond := .fieldLink RX10 118 "RentRiver$Contracts" "second" "[I"
theorem wi_273 : ww_273 ∈ mj_tb := mj_t1 (i := 184) rfl rfl
abbrev ww_274 : Cond := .fieldLink RX10 121 "RentRiver$Contracts" "cost" "[I"
theorem wi_274 : ww_274 ∈ mj_tb := mj_t1 (i := 187) rfl rfl
abbrev ww_275 : Cond := .methodLink RX10 141 yX3_placeOf
theorem wi_275 : ww_275 ∈ mj_tb := mj_t4 (i := 74) rfl rfl
abbrev ww_276 : Cond := .methodLink RX10 145 Lib.Math.abs.name
theorem wi_276 : ww_276 ∈ mj_tb := mj_t4 (i := 78) rfl rfl
abbrev ww_277 : Cond := .fieldLink RX10 148 "RentRiver$Plain" "move" "I"
theorem wi_277 : ww_277 ∈ mj_tb := mj_t1 (i := 121) rfl rfl
abbrev ww_278 : Cond := .methodLink RX10 151 yX10_bridgeTo
theorem wi_278 : ww_278 ∈ mj_tb := mj_t4 (i := 81) rfl rfl
abbrev ww_279 : Cond := .methodLink RX10 82 yX1_tells
theorem wi_279 : ww_279 ∈ mj_tb := mj_t4 (i := 53) rfl rfl
abbrev ww_280 : Cond := .methodLink RX10 88 yX10_letByContract
theorem wi_280 : ww_280 ∈ mj_tb := mj_t4 (i := 54) rfl rfl
abbrev ww_281 : Cond := .methodLink RX10 92 yX10_letByBids
theorem wi_281 : ww_281 ∈ mj_tb := mj_t4 (i := 66) rfl rfl
abbrev ww_282 : Cond := .methodLink RX10 96 yX10_moveRiver
theorem wi_282 : ww_282 ∈ mj_tb := mj_t4 (i := 70) rfl rfl
abbrev ww_283 : Cond := .fieldLink RX10 99 "RentRiver$Plain" "water" "[I"
theorem wi_283 : ww_283 ∈ mj_tb := mj_t1 (i := 109) rfl rfl
abbrev ww_284 : Cond := .methodLink RX10 102 yX10_pour
theorem wi_284 : ww_284 ∈ mj_tb := mj_t4 (i := 88) rfl rfl
abbrev ww_285 : Cond := .methodLink RX10 109 yX10_drink
theorem wi_285 : ww_285 ∈ mj_tb := mj_t4 (i := 97) rfl rfl
abbrev ww_286 : Cond := .methodLink RX10 112 yX10_harvest
theorem wi_286 : ww_286 ∈ mj_tb := mj_t4 (i := 105) rfl rfl
abbrev ww_287 : Cond := .methodLink RX10 73 yX10_inPonds
theorem wi_287 : ww_287 ∈ mj_tb := mj_t4 (i := 117) rfl rfl
abbrev ww_288 : Cond := .methodLink RX10 155 yX10_pourTo
theorem wi_288 : ww_288 ∈ mj_tb := mj_t4 (i := 92) rfl rfl
abbrev ww_289 : Cond := .fieldLink RX10 61 "RentRiver$Plain" "fish" "I"
theorem wi_289 : ww_289 ∈ mj_tb := mj_t1 (i := 124) rfl rfl
abbrev ww_290 : Cond := .fieldLink RX11 19 "RentRiver" "now" "LRentRiver$State;"
theorem wi_290 : ww_290 ∈ mj_tb := mj_t2 (i := 219) rfl rfl
abbrev ww_291 : Cond := .fieldLink RX11 94 "RentRiver$State" "plain" "LRentRiver$Plain;"
theorem wi_291 : ww_291 ∈ mj_tb := mj_t2 (i := 53) rfl rfl
abbrev ww_292 : Cond := .fieldLink RX11 160 "RentRiver$Plain" "towns" "I"
theorem wi_292 : ww_292 ∈ mj_tb := mj_t1 (i := 115) rfl rfl
abbrev ww_293 : Cond := .fieldLink RX11 130 "RentRiver$State" "year" "LRentRiver$Year;"
theorem wi_293 : ww_293 ∈ mj_tb := mj_t2 (i := 59) rfl rfl
abbrev ww_294 : Cond := .methodLink RX11 205 yX10_start
theorem wi_294 : ww_294 ∈ mj_tb := mj_t4 (i := 37) rfl rfl
abbrev ww_295 : Cond := .methodLink RX11 145 yX11_isTown
theorem wi_295 : ww_295 ∈ mj_tb := mj_t3 (i := 200) rfl rfl
abbrev ww_296 : Cond := .methodLink RX11 163 yX11_isMonth
theorem wi_296 : ww_296 ∈ mj_tb := mj_t3 (i := 204) rfl rfl
abbrev ww_297 : Cond := .fieldLink RX11 166 "RentRiver$Plain" "bids" "[[I"
theorem wi_297 : ww_297 ∈ mj_tb := mj_t1 (i := 106) rfl rfl
abbrev ww_298 : Cond := .fieldLink RX11 73 "RentRiver" "textSize" "I"
theorem wi_298 : ww_298 ∈ mj_tb := mj_t2 (i := 229) rfl rfl
abbrev ww_299 : Cond := .fieldLink RX11 69 "RentRiver" "text" "[B"
theorem wi_299 : ww_299 ∈ mj_tb := mj_t2 (i := 228) rfl rfl
abbrev ww_300 : Cond := .fieldLink RX11 44 "RentRiver" "planner" "LRentRiver$Cheapest;"
theorem wi_300 : ww_300 ∈ mj_tb := mj_t2 (i := 224) rfl rfl
abbrev ww_301 : Cond := .methodLink RX11 231 yX0_solve
theorem wi_301 : ww_301 ∈ mj_tb := mj_t4 (i := 137) rfl rfl
abbrev ww_302 : Cond := .fieldLink RX11 10 "RentRiver" "tape" "LRentRiver$Tape;"
theorem wi_302 : ww_302 ∈ mj_tb := mj_t2 (i := 218) rfl rfl
abbrev ww_303 : Cond := .fieldLink RX11 91 "RentRiver$Tape" "size" "I"
theorem wi_303 : ww_303 ∈ mj_tb := mj_t1 (i := 38) rfl rfl
abbrev ww_304 : Cond := .fieldLink RX11 110 "RentRiver$Tape" "fault" "I"
theorem wi_304 : ww_304 ∈ mj_tb := mj_t1 (i := 40) rfl rfl
abbrev ww_305 : Cond := .fieldLink RX11 77 "RentRiver" "latestFault" "I"
theorem wi_305 : ww_305 ∈ mj_tb := mj_t2 (i := 230) rfl rfl
abbrev ww_306 : Cond := .fieldLink RX11 142 "RentRiver$Tape" "faultAt" "I"
theorem wi_306 : ww_306 ∈ mj_tb := mj_t1 (i := 42) rfl rfl
abbrev ww_307 : Cond := .fieldLink RX11 116 "RentRiver$State" "deals" "LRentRiver$Contracts;"
theorem wi_307 : ww_307 ∈ mj_tb := mj_t2 (i := 55) rfl rfl
abbrev ww_308 : Cond := .methodLink RX11 193 yX1_tells
theorem wi_308 : ww_308 ∈ mj_tb := mj_t4 (i := 32) rfl rfl
abbrev ww_309 : Cond := .fieldLink RX11 196 "RentRiver$Contracts" "first" "[I"
theorem wi_309 : ww_309 ∈ mj_tb := mj_t1 (i := 182) rfl rfl
abbrev ww_310 : Cond := .fieldLink RX11 199 "RentRiver$Contracts" "second" "[I"
theorem wi_310 : ww_310 ∈ mj_tb := mj_t1 (i := 185) rfl rfl
abbrev ww_311 : Cond := .fieldLink RX11 202 "RentRiver$Contracts" "cost" "[I"
theorem wi_311 : ww_311 ∈ mj_tb := mj_t1 (i := 188) rfl rfl
abbrev ww_312 : Cond := .fieldLink RX11 23 "RentRiver" "spare" "LRentRiver$State;"
theorem wi_312 : ww_312 ∈ mj_tb := mj_t2 (i := 220) rfl rfl
abbrev ww_313 : Cond := .methodLink RX11 120 yX1_clear
theorem wi_313 : ww_313 ∈ mj_tb := mj_t3 (i := 183) rfl rfl
abbrev ww_314 : Cond := .methodLink RX11 103 yX7_open
theorem wi_314 : ww_314 ∈ mj_tb := mj_t3 (i := 45) rfl rfl
abbrev ww_315 : Cond := .methodLink RX11 187 yX1_readRows
theorem wi_315 : ww_315 ∈ mj_tb := mj_t3 (i := 236) rfl rfl
abbrev ww_316 : Cond := .fieldLink RX11 190 "RentRiver$Contracts" "rows" "I"
theorem wi_316 : ww_316 ∈ mj_tb := mj_t1 (i := 190) rfl rfl
abbrev ww_317 : Cond := .methodLink RX11 138 yX11_closeTape
theorem wi_317 : ww_317 ∈ mj_tb := mj_t3 (i := 188) rfl rfl
abbrev ww_318 : Cond := .fieldLink RX11 169 "RentRiver$Plain" "bidCount" "I"
theorem wi_318 : ww_318 ∈ mj_tb := mj_t1 (i := 118) rfl rfl
abbrev ww_319 : Cond := .fieldLink RX11 340 "RentRiver$Plain" "move" "I"
theorem wi_319 : ww_319 ∈ mj_tb := mj_t1 (i := 122) rfl rfl
abbrev ww_320 : Cond := .fieldLink RX11 343 "RentRiver$Plain" "fish" "I"
theorem wi_320 : ww_320 ∈ mj_tb := mj_t1 (i := 125) rfl rfl
abbrev ww_321 : Cond := .fieldLink RX11 346 "RentRiver$Plain" "patience" "I"
theorem wi_321 : ww_321 ∈ mj_tb := mj_t1 (i := 128) rfl rfl
abbrev ww_322 : Cond := .fieldLink RX11 65 "RentRiver" "trial" "LRentRiver$Year;"
theorem wi_322 : ww_322 ∈ mj_tb := mj_t2 (i := 227) rfl rfl
abbrev ww_323 : Cond := .methodLink RX11 315 yX10_draw
theorem wi_323 : ww_323 ∈ mj_tb := mj_t5 (i := 119) rfl rfl
abbrev ww_324 : Cond := .fieldLink RX11 309 "RentRiver$Year" "treasury" "I"
theorem wi_324 : ww_324 ∈ mj_tb := mj_t2 (i := 2) rfl rfl
abbrev ww_325 : Cond := .fieldLink RX11 133 "RentRiver$Year" "running" "Z"
theorem wi_325 : ww_325 ∈ mj_tb := mj_t1 (i := 237) rfl rfl
abbrev ww_326 : Cond := .fieldLink RX11 209 "RentRiver$Year" "months" "I"
theorem wi_326 : ww_326 ∈ mj_tb := mj_t2 (i := 0) rfl rfl
abbrev ww_327 : Cond := .fieldLink RX11 222 "RentRiver$Year" "letTo" "[I"
theorem wi_327 : ww_327 ∈ mj_tb := mj_t2 (i := 4) rfl rfl
abbrev ww_328 : Cond := .fieldLink RX11 156 "RentRiver$Plain" "told" "[[I"
theorem wi_328 : ww_328 ∈ mj_tb := mj_t1 (i := 103) rfl rfl
abbrev ww_329 : Cond := .methodLink RX11 270 yX11_mostGain
theorem wi_329 : ww_329 ∈ mj_tb := mj_t5 (i := 55) rfl rfl
abbrev ww_330 : Cond := .methodLink RX11 274 yX3_gain
theorem wi_330 : ww_330 ∈ mj_tb := mj_t5 (i := 59) rfl rfl
abbrev ww_331 : Cond := .methodLink RX11 83 yX7_hasRoom
theorem wi_331 : ww_331 ∈ mj_tb := mj_t3 (i := 25) rfl rfl
abbrev ww_332 : Cond := .methodLink RX11 87 yX7_put
theorem wi_332 : ww_332 ∈ mj_tb := mj_t3 (i := 29) rfl rfl
abbrev ww_333 : Cond := .fieldLink RX11 51 "RentRiver" "auction" "LRentRiver$Rounds;"
theorem wi_333 : ww_333 ∈ mj_tb := mj_t2 (i := 225) rfl rfl
abbrev ww_334 : Cond := .fieldLink RX11 251 "RentRiver$Rounds" "done" "Z"
theorem wi_334 : ww_334 ∈ mj_tb := mj_t2 (i := 165) rfl rfl
abbrev ww_335 : Cond := .fieldLink RX11 252 "RentRiver$Rounds" "monthOf" "[I"
theorem wi_335 : ww_335 ∈ mj_tb := mj_t2 (i := 167) rfl rfl
abbrev ww_336 : Cond := .fieldLink RX11 26 "RentRiver" "images" "[LRentRiver$State;"
theorem wi_336 : ww_336 ∈ mj_tb := mj_t2 (i := 221) rfl rfl
abbrev ww_337 : Cond := .methodLink RX11 337 yX6_copy
theorem wi_337 : ww_337 ∈ mj_tb := mj_t5 (i := 222) rfl rfl
abbrev ww_338 : Cond := .fieldLink RX11 30 "RentRiver" "kept" "[Z"
theorem wi_338 : ww_338 ∈ mj_tb := mj_t2 (i := 222) rfl rfl
abbrev ww_339 : Cond := .methodLink RX11 1 objectInit
theorem wi_339 : ww_339 ∈ mj_tb := mj_t1 (i := 26) rfl rfl
abbrev ww_340 : Cond := .classLink RX11 7 RX7
theorem wi_340 : ww_340 ∈ mj_tb := mj_t1 (i := 29) rfl rfl
abbrev ww_341 : Cond := .instantiable RX7 12
theorem wi_341 : ww_341 ∈ mj_tb := mj_t1 (i := 30) rfl rfl
abbrev ww_342 : Cond := .initialized RX7
theorem wi_342 : ww_342 ∈ mj_tb := mj_t1 (i := 2) rfl rfl
abbrev ww_343 : Cond := .methodLink RX11 9 yX7_init
theorem wi_343 : ww_343 ∈ mj_tb := mj_t1 (i := 31) rfl rfl
abbrev ww_344 : Cond := .classLink RX11 16 RX6
theorem wi_344 : ww_344 ∈ mj_tb := mj_t1 (i := 84) rfl rfl
abbrev ww_345 : Cond := .instantiable RX6 4
theorem wi_345 : ww_345 ∈ mj_tb := mj_t1 (i := 85) rfl rfl
abbrev ww_346 : Cond := .initialized RX6
theorem wi_346 : ww_346 ∈ mj_tb := mj_t1 (i := 3) rfl rfl
abbrev ww_347 : Cond := .methodLink RX11 18 yX6_init
theorem wi_347 : ww_347 ∈ mj_tb := mj_t1 (i := 86) rfl rfl
abbrev ww_348 : Cond := .classLink RX11 34 RX8
theorem wi_348 : ww_348 ∈ mj_tb := mj_t2 (i := 70) rfl rfl
abbrev ww_349 : Cond := .instantiable RX8 4
theorem wi_349 : ww_349 ∈ mj_tb := mj_t2 (i := 71) rfl rfl
abbrev ww_350 : Cond := .initialized RX8
theorem wi_350 : ww_350 ∈ mj_tb := mj_t1 (i := 8) rfl rfl
abbrev ww_351 : Cond := .methodLink RX11 36 yX8_init
theorem wi_351 : ww_351 ∈ mj_tb := mj_t2 (i := 72) rfl rfl
abbrev ww_352 : Cond := .fieldLink RX11 37 "RentRiver" "undone" "LRentRiver$Undo;"
theorem wi_352 : ww_352 ∈ mj_tb := mj_t2 (i := 223) rfl rfl
abbrev ww_353 : Cond := .classLink RX11 41 RX0
theorem wi_353 : ww_353 ∈ mj_tb := mj_t2 (i := 90) rfl rfl
abbrev ww_354 : Cond := .instantiable RX0 19
theorem wi_354 : ww_354 ∈ mj_tb := mj_t2 (i := 91) rfl rfl
abbrev ww_355 : Cond := .initialized RX0
theorem wi_355 : ww_355 ∈ mj_tb := mj_t1 (i := 9) rfl rfl
abbrev ww_356 : Cond := .methodLink RX11 43 yX0_init
theorem wi_356 : ww_356 ∈ mj_tb := mj_t2 (i := 92) rfl rfl
abbrev ww_357 : Cond := .classLink RX11 48 RX4
theorem wi_357 : ww_357 ∈ mj_tb := mj_t2 (i := 158) rfl rfl
abbrev ww_358 : Cond := .instantiable RX4 4
theorem wi_358 : ww_358 ∈ mj_tb := mj_t2 (i := 159) rfl rfl
abbrev ww_359 : Cond := .initialized RX4
theorem wi_359 : ww_359 ∈ mj_tb := mj_t1 (i := 10) rfl rfl
abbrev ww_360 : Cond := .methodLink RX11 50 yX4_init
theorem wi_360 : ww_360 ∈ mj_tb := mj_t2 (i := 160) rfl rfl
abbrev ww_361 : Cond := .classLink RX11 55 RX2
theorem wi_361 : ww_361 ∈ mj_tb := mj_t2 (i := 180) rfl rfl
abbrev ww_362 : Cond := .instantiable RX2 8
theorem wi_362 : ww_362 ∈ mj_tb := mj_t2 (i := 181) rfl rfl
abbrev ww_363 : Cond := .initialized RX2
theorem wi_363 : ww_363 ∈ mj_tb := mj_t1 (i := 11) rfl rfl
abbrev ww_364 : Cond := .methodLink RX11 57 yX2_init
theorem wi_364 : ww_364 ∈ mj_tb := mj_t2 (i := 182) rfl rfl
abbrev ww_365 : Cond := .fieldLink RX11 58 "RentRiver" "search" "LRentRiver$Leaks;"
theorem wi_365 : ww_365 ∈ mj_tb := mj_t2 (i := 226) rfl rfl
abbrev ww_366 : Cond := .classLink RX11 62 RX10
theorem wi_366 : ww_366 ∈ mj_tb := mj_t2 (i := 216) rfl rfl
abbrev ww_367 : Cond := .methodLink RX11 64 yX10_init
theorem wi_367 : ww_367 ∈ mj_tb := mj_t2 (i := 217) rfl rfl
abbrev ww_368 : Cond := .fieldLink RX11 80 "RentRiver" "plains" "I"
theorem wi_368 : ww_368 ∈ mj_tb := mj_t2 (i := 231) rfl rfl
abbrev ww_369 : Cond := .fieldLink RX11 265 "RentRiver$Leaks" "kept" "I"
theorem wi_369 : ww_369 ∈ mj_tb := mj_t2 (i := 192) rfl rfl
abbrev ww_370 : Cond := .fieldLink RX11 267 "RentRiver$Leaks" "found" "[[I"
theorem wi_370 : ww_370 ∈ mj_tb := mj_t2 (i := 190) rfl rfl
abbrev ww_371 : Cond := .methodLink RX11 258 yX2_readLevels
theorem wi_371 : ww_371 ∈ mj_tb := mj_t5 (i := 11) rfl rfl
abbrev ww_372 : Cond := .methodLink RX11 262 yX2_run
theorem wi_372 : ww_372 ∈ mj_tb := mj_t5 (i := 16) rfl rfl
abbrev ww_373 : Cond := .fieldLink RX11 225 "RentRiver$Year" "letAlso" "[I"
theorem wi_373 : ww_373 ∈ mj_tb := mj_t2 (i := 6) rfl rfl
abbrev ww_374 : Cond := .fieldLink RX11 228 "RentRiver$Year" "letFor" "[I"
theorem wi_374 : ww_374 ∈ mj_tb := mj_t2 (i := 8) rfl rfl
abbrev ww_375 : Cond := .methodLink RX11 212 yX10_goOn
theorem wi_375 : ww_375 ∈ mj_tb := mj_t4 (i := 45) rfl rfl
abbrev ww_376 : Cond := .methodLink RX11 318 yX10_canPay
theorem wi_376 : ww_376 ∈ mj_tb := mj_t5 (i := 132) rfl rfl
abbrev ww_377 : Cond := .methodLink RX11 322 yX10_leastBid
theorem wi_377 : ww_377 ∈ mj_tb := mj_t5 (i := 133) rfl rfl
abbrev ww_378 : Cond := .methodLink RX11 172 yX8_keep
theorem wi_378 : ww_378 ∈ mj_tb := mj_t3 (i := 211) rfl rfl
abbrev ww_379 : Cond := .methodLink RX11 176 yX3_setBid
theorem wi_379 : ww_379 ∈ mj_tb := mj_t3 (i := 218) rfl rfl
abbrev ww_380 : Cond := .methodLink RX11 98 yX3_clear
theorem wi_380 : ww_380 ∈ mj_tb := mj_t3 (i := 41) rfl rfl
abbrev ww_381 : Cond := .methodLink RX11 106 yX3_readRows
theorem wi_381 : ww_381 ∈ mj_tb := mj_t3 (i := 49) rfl rfl
abbrev ww_382 : Cond := .fieldLink RX11 113 "RentRiver$Plain" "serial" "I"
theorem wi_382 : ww_382 ∈ mj_tb := mj_t1 (i := 131) rfl rfl
abbrev ww_383 : Cond := .fieldLink RX11 123 "RentRiver$State" "sentence" "LRentRiver$Sentence;"
theorem wi_383 : ww_383 ∈ mj_tb := mj_t2 (i := 57) rfl rfl
abbrev ww_384 : Cond := .methodLink RX11 127 yX5_clear
theorem wi_384 : ww_384 ∈ mj_tb := mj_t3 (i := 184) rfl rfl
abbrev ww_385 : Cond := .fieldLink RX11 137 "RentRiver$Undo" "size" "I"
theorem wi_385 : ww_385 ∈ mj_tb := mj_t2 (i := 80) rfl rfl
abbrev ww_386 : Cond := .fieldLink RX11 234 "RentRiver$Cheapest" "done" "Z"
theorem wi_386 : ww_386 ∈ mj_tb := mj_t2 (i := 100) rfl rfl
abbrev ww_387 : Cond := .fieldLink RX11 237 "RentRiver$Cheapest" "plan" "[I"
theorem wi_387 : ww_387 ∈ mj_tb := mj_t2 (i := 98) rfl rfl
abbrev ww_388 : Cond := .fieldLink RX11 255 "RentRiver$Rounds" "prices" "[I"
theorem wi_388 : ww_388 ∈ mj_tb := mj_t2 (i := 169) rfl rfl
abbrev ww_389 : Cond := .methodLink RX11 287 yX11_putByte
theorem wi_389 : ww_389 ∈ mj_tb := mj_t5 (i := 92) rfl rfl
abbrev ww_390 : Cond := .fieldLink RX11 293 "RentRiver$Plain" "names" "[J"
theorem wi_390 : ww_390 ∈ mj_tb := mj_t1 (i := 99) rfl rfl
abbrev ww_391 : Cond := .fieldLink RX11 297 "RentRiver$Word" "SEA" "LRentRiver$Word;"
theorem wi_391 : ww_391 ∈ mj_tb := mj_t5 (i := 100) rfl rfl
abbrev ww_392 : Cond := .fieldLink RX11 303 "RentRiver$Word" "code" "J"
theorem wi_392 : ww_392 ∈ mj_tb := mj_t8 (i := 235) rfl rfl
abbrev ww_393 : Cond := .constantLong RX11 307 (31)
theorem wi_393 : ww_393 ∈ mj_tb := mj_t5 (i := 101) rfl rfl
abbrev ww_394 : Cond := .methodLink RX11 247 yX4_run
theorem wi_394 : ww_394 ∈ mj_tb := mj_t4 (i := 223) rfl rfl
abbrev ww_395 : Cond := .fieldLink RX11 330 "RentRiver$Sentence" "ones" "I"
theorem wi_395 : ww_395 ∈ mj_tb := mj_t1 (i := 214) rfl rfl
abbrev ww_396 : Cond := .methodLink RX11 333 yX5_holds
theorem wi_396 : ww_396 ∈ mj_tb := mj_t5 (i := 209) rfl rfl
abbrev ww_397 : Cond := .methodLink RX11 326 yX5_readText
theorem wi_397 : ww_397 ∈ mj_tb := mj_t5 (i := 141) rfl rfl
abbrev ww_398 : Cond := .fieldLink RX11 219 "RentRiver$Year" "of" "[[I"
theorem wi_398 : ww_398 ∈ mj_tb := mj_t2 (i := 12) rfl rfl
abbrev ww_399 : Cond := .methodLink RX11 277 yX11_tryYear
theorem wi_399 : ww_399 ∈ mj_tb := mj_t5 (i := 64) rfl rfl
abbrev ww_400 : Cond := .fieldLink RX11 240 "RentRiver$Cheapest" "planned" "I"
theorem wi_400 : ww_400 ∈ mj_tb := mj_t2 (i := 102) rfl rfl
abbrev ww_401 : Cond := .methodLink RX11 243 yX1_tell
theorem wi_401 : ww_401 ∈ mj_tb := mj_t4 (i := 218) rfl rfl
abbrev ww_402 : Cond := .methodLink RX11 280 yX10_lacks
theorem wi_402 : ww_402 ∈ mj_tb := mj_t5 (i := 72) rfl rfl
abbrev ww_403 : Cond := .methodLink RX11 179 yX8_back
theorem wi_403 : ww_403 ∈ mj_tb := mj_t3 (i := 223) rfl rfl
abbrev ww_404 : Cond := .fieldLink RX11 183 "RentRiver$Plain" "water" "[I"
theorem wi_404 : ww_404 ∈ mj_tb := mj_t1 (i := 110) rfl rfl
abbrev ww_405 : Cond := .methodLink RX11 312 yX3_copy
theorem wi_405 : ww_405 ∈ mj_tb := mj_t5 (i := 110) rfl rfl
abbrev ww_406 : Cond := .methodLink RX11 284 yX11_putNumber
theorem wi_406 : ww_406 ∈ mj_tb := mj_t5 (i := 88) rfl rfl
abbrev ww_407 : Cond := .methodLink RX11 290 yX11_putTenant
theorem wi_407 : ww_407 ∈ mj_tb := mj_t5 (i := 96) rfl rfl
abbrev ww_408 : Cond := .methodLink RX11 216 yX10_number
theorem wi_408 : ww_408 ∈ mj_tb := mj_t4 (i := 113) rfl rfl
abbrev ww_409 : Cond := .methodLink RX12 333 yX12_begins
theorem wi_409 : ww_409 ∈ mj_tb := mj_t7 (i := 202) rfl rfl
abbrev ww_410 : Cond := .fieldLink RX12 33 "RentRiverModel" "s" "[I"
theorem wi_410 : ww_410 ∈ mj_tb := mj_t6 (i := 126) rfl rfl
abbrev ww_411 : Cond := .methodLink RX12 336 yX12_month
theorem wi_411 : ww_411 ∈ mj_tb := mj_t7 (i := 210) rfl rfl
abbrev ww_412 : Cond := .methodLink RX12 372 yX12_octet
theorem wi_412 : ww_412 ∈ mj_tb := mj_t8 (i := 74) rfl rfl
abbrev ww_413 : Cond := .methodLink RX12 285 yX12_of
theorem wi_413 : ww_413 ∈ mj_tb := mj_t7 (i := 222) rfl rfl
abbrev ww_414 : Cond := .fieldLink RX12 180 "RentRiverModel" "fault" "I"
theorem wi_414 : ww_414 ∈ mj_tb := mj_t6 (i := 135) rfl rfl
abbrev ww_415 : Cond := .fieldLink RX12 157 "RentRiverModel" "at" "I"
theorem wi_415 : ww_415 ∈ mj_tb := mj_t6 (i := 132) rfl rfl
abbrev ww_416 : Cond := .fieldLink RX12 183 "RentRiverModel" "faultAt" "I"
theorem wi_416 : ww_416 ∈ mj_tb := mj_t6 (i := 136) rfl rfl
abbrev ww_417 : Cond := .fieldLink RX12 1 "RentRiverModel" "thrown" "I"
theorem wi_417 : ww_417 ∈ mj_tb := mj_t6 (i := 120) rfl rfl
abbrev ww_418 : Cond := .methodLink RX12 270 yX12_toldOf
theorem wi_418 : ww_418 ∈ mj_tb := mj_t7 (i := 155) rfl rfl
abbrev ww_419 : Cond := .methodLink RX12 427 yX12_nots
theorem wi_419 : ww_419 ∈ mj_tb := mj_t8 (i := 168) rfl rfl
abbrev ww_420 : Cond := .constantLong RX12 131 (6385252)
theorem wi_420 : ww_420 ∈ mj_tb := mj_t6 (i := 109) rfl rfl
abbrev ww_421 : Cond := .methodLink RX12 202 yX12_isWord
theorem wi_421 : ww_421 ∈ mj_tb := mj_t7 (i := 93) rfl rfl
abbrev ww_422 : Cond := .constantLong RX12 129 (28530)
theorem wi_422 : ww_422 ∈ mj_tb := mj_t6 (i := 108) rfl rfl
abbrev ww_423 : Cond := .methodLink RX12 430 yX12_joins
theorem wi_423 : ww_423 ∈ mj_tb := mj_t8 (i := 176) rfl rfl
abbrev ww_424 : Cond := .fieldLink RX12 89 "RentRiverModel" "stack" "[I"
theorem wi_424 : ww_424 ∈ mj_tb := mj_t6 (i := 172) rfl rfl
abbrev ww_425 : Cond := .fieldLink RX12 409 "RentRiverModel" "top" "I"
theorem wi_425 : ww_425 ∈ mj_tb := mj_t6 (i := 175) rfl rfl
abbrev ww_426 : Cond := .fieldLink RX12 424 "RentRiverModel" "isWhole" "Z"
theorem wi_426 : ww_426 ∈ mj_tb := mj_t6 (i := 177) rfl rfl
abbrev ww_427 : Cond := .methodLink RX12 192 yX12_next
theorem wi_427 : ww_427 ∈ mj_tb := mj_t7 (i := 75) rfl rfl
abbrev ww_428 : Cond := .methodLink RX12 186 yX12_isSign
theorem wi_428 : ww_428 ∈ mj_tb := mj_t7 (i := 135) rfl rfl
abbrev ww_429 : Cond := .methodLink RX12 189 yX12_bad
theorem wi_429 : ww_429 ∈ mj_tb := mj_t7 (i := 101) rfl rfl
abbrev ww_430 : Cond := .fieldLink RX12 415 "RentRiverModel" "deep" "I"
theorem wi_430 : ww_430 ∈ mj_tb := mj_t6 (i := 176) rfl rfl
abbrev ww_431 : Cond := .methodLink RX12 263 yX12_isTown
theorem wi_431 : ww_431 ∈ mj_tb := mj_t7 (i := 147) rfl rfl
abbrev ww_432 : Cond := .methodLink RX12 273 yX12_isMonth
theorem wi_432 : ww_432 ∈ mj_tb := mj_t7 (i := 163) rfl rfl
abbrev ww_433 : Cond := .methodLink RX12 276 yX12_bidOf
theorem wi_433 : ww_433 ∈ mj_tb := mj_t7 (i := 166) rfl rfl
abbrev ww_434 : Cond := .fieldLink RX12 391 "RentRiverModel" "textMany" "I"
theorem wi_434 : ww_434 ∈ mj_tb := mj_t6 (i := 171) rfl rfl
abbrev ww_435 : Cond := .methodLink RX12 195 yX12_isIn
theorem wi_435 : ww_435 ∈ mj_tb := mj_t7 (i := 117) rfl rfl
abbrev ww_436 : Cond := .fieldLink RX12 86 "RentRiverModel" "text" "[B"
theorem wi_436 : ww_436 ∈ mj_tb := mj_t6 (i := 170) rfl rfl
abbrev ww_437 : Cond := .fieldLink RX12 65 "RentRiverModel" "havings" "[I"
theorem wi_437 : ww_437 ∈ mj_tb := mj_t6 (i := 157) rfl rfl
abbrev ww_438 : Cond := .methodLink RX12 339 yX12_gains
theorem wi_438 : ww_438 ∈ mj_tb := mj_t8 (i := 38) rfl rfl
abbrev ww_439 : Cond := .constant RX12 342 (1000000000)
theorem wi_439 : ww_439 ∈ mj_tb := mj_t8 (i := 33) rfl rfl
abbrev ww_440 : Cond := .fieldLink RX12 62 "RentRiverModel" "costs" "[I"
theorem wi_440 : ww_440 ∈ mj_tb := mj_t6 (i := 156) rfl rfl
abbrev ww_441 : Cond := .fieldLink RX12 59 "RentRiverModel" "tried" "[I"
theorem wi_441 : ww_441 ∈ mj_tb := mj_t6 (i := 155) rfl rfl
abbrev ww_442 : Cond := .methodLink RX12 343 yX12_canBe
theorem wi_442 : ww_442 ∈ mj_tb := mj_t8 (i := 34) rfl rfl
abbrev ww_443 : Cond := .fieldLink RX12 68 "RentRiverModel" "plan" "[I"
theorem wi_443 : ww_443 ∈ mj_tb := mj_t6 (i := 158) rfl rfl
abbrev ww_444 : Cond := .methodLink RX12 346 yX12_costOf
theorem wi_444 : ww_444 ∈ mj_tb := mj_t8 (i := 42) rfl rfl
abbrev ww_445 : Cond := .fieldLink RX12 349 "RentRiverModel" "hasPlan" "Z"
theorem wi_445 : ww_445 ∈ mj_tb := mj_t6 (i := 159) rfl rfl
abbrev ww_446 : Cond := .fieldLink RX12 260 "RentRiverModel" "plainNumber" "I"
theorem wi_446 : ww_446 ∈ mj_tb := mj_t6 (i := 145) rfl rfl
abbrev ww_447 : Cond := .fieldLink RX12 353 "RentRiverModel" "planNumber" "I"
theorem wi_447 : ww_447 ∈ mj_tb := mj_t6 (i := 160) rfl rfl
abbrev ww_448 : Cond := .fieldLink RX12 40 "RentRiverModel" "read" "[I"
theorem wi_448 : ww_448 ∈ mj_tb := mj_t6 (i := 128) rfl rfl
abbrev ww_449 : Cond := .fieldLink RX12 406 "RentRiverModel" "codes" "I"
theorem wi_449 : ww_449 ∈ mj_tb := mj_t6 (i := 173) rfl rfl
abbrev ww_450 : Cond := .methodLink RX12 288 yX12_more
theorem wi_450 : ww_450 ∈ mj_tb := mj_t7 (i := 230) rfl rfl
abbrev ww_451 : Cond := .methodLink RX12 242 yX12_taken
theorem wi_451 : ww_451 ∈ mj_tb := mj_t7 (i := 71) rfl rfl
abbrev ww_452 : Cond := .fieldLink RX12 163 "RentRiverModel" "token" "I"
theorem wi_452 : ww_452 ∈ mj_tb := mj_t6 (i := 131) rfl rfl
abbrev ww_453 : Cond := .methodLink RX12 282 yX12_dealRow
theorem wi_453 : ww_453 ∈ mj_tb := mj_t7 (i := 190) rfl rfl
abbrev ww_454 : Cond := .methodLink RX12 251 yX12_sign
theorem wi_454 : ww_454 ∈ mj_tb := mj_t7 (i := 131) rfl rfl
abbrev ww_455 : Cond := .methodLink RX12 311 yX12_placeOf
theorem wi_455 : ww_455 ∈ mj_tb := mj_t7 (i := 234) rfl rfl
abbrev ww_456 : Cond := .methodLink RX12 315 yX12_sizeOf
theorem wi_456 : ww_456 ∈ mj_tb := mj_t7 (i := 238) rfl rfl
abbrev ww_457 : Cond := .methodLink RX12 279 yX12_bidMany
theorem wi_457 : ww_457 ∈ mj_tb := mj_t7 (i := 178) rfl rfl
abbrev ww_458 : Cond := .fieldLink RX12 7 "RentRiverModel" "length" "I"
theorem wi_458 : ww_458 ∈ mj_tb := mj_t6 (i := 122) rfl rfl
abbrev ww_459 : Cond := .constantLong RX12 125 (7103860)
theorem wi_459 : ww_459 ∈ mj_tb := mj_t6 (i := 106) rfl rfl
abbrev ww_460 : Cond := .constantLong RX12 127 (7562593)
theorem wi_460 : ww_460 ∈ mj_tb := mj_t6 (i := 107) rfl rfl
abbrev ww_461 : Cond := .fieldLink RX12 173 "RentRiverModel" "number" "I"
theorem wi_461 : ww_461 ∈ mj_tb := mj_t6 (i := 134) rfl rfl
abbrev ww_462 : Cond := .methodLink RX12 232 yX12_isName
theorem wi_462 : ww_462 ∈ mj_tb := mj_t7 (i := 105) rfl rfl
abbrev ww_463 : Cond := .methodLink RX12 235 yX12_find
theorem wi_463 : ww_463 ∈ mj_tb := mj_t7 (i := 109) rfl rfl
abbrev ww_464 : Cond := .methodLink RX12 217 yX12_takes
theorem wi_464 : ww_464 ∈ mj_tb := mj_t7 (i := 113) rfl rfl
abbrev ww_465 : Cond := .fieldLink RX12 199 "RentRiverModel" "got" "I"
theorem wi_465 : ww_465 ∈ mj_tb := mj_t6 (i := 138) rfl rfl
abbrev ww_466 : Cond := .fieldLink RX12 368 "RentRiverModel" "seed" "I"
theorem wi_466 : ww_466 ∈ mj_tb := mj_t6 (i := 167) rfl rfl
abbrev ww_467 : Cond := .constant RX12 371 (1103515245)
theorem wi_467 : ww_467 ∈ mj_tb := mj_t8 (i := 114) rfl rfl
abbrev ww_468 : Cond := .methodLink RX12 375 yX12_thinks
theorem wi_468 : ww_468 ∈ mj_tb := mj_t8 (i := 78) rfl rfl
abbrev ww_469 : Cond := .methodLink RX12 387 yX12_wholeYear
theorem wi_469 : ww_469 ∈ mj_tb := mj_t8 (i := 106) rfl rfl
abbrev ww_470 : Cond := .methodLink RX12 384 yX12_forgets
theorem wi_470 : ww_470 ∈ mj_tb := mj_t8 (i := 86) rfl rfl
abbrev ww_471 : Cond := .methodLink RX12 213 yX12_bitOf
theorem wi_471 : ww_471 ∈ mj_tb := mj_t7 (i := 120) rfl rfl
abbrev ww_472 : Cond := .methodLink RX12 10 yX12_four
theorem wi_472 : ww_472 ∈ mj_tb := mj_t6 (i := 82) rfl rfl
abbrev ww_473 : Cond := .fieldLink RX12 43 "RentRiverModel" "names" "[J"
theorem wi_473 : ww_473 ∈ mj_tb := mj_t6 (i := 129) rfl rfl
abbrev ww_474 : Cond := .fieldLink RX12 176 "RentRiverModel" "word" "J"
theorem wi_474 : ww_474 ∈ mj_tb := mj_t6 (i := 137) rfl rfl
abbrev ww_475 : Cond := .fieldLink RX12 77 "RentRiverModel" "before" "[I"
theorem wi_475 : ww_475 ∈ mj_tb := mj_t6 (i := 165) rfl rfl
abbrev ww_476 : Cond := .fieldLink RX12 14 "RentRiverModel" "tape" "[B"
theorem wi_476 : ww_476 ∈ mj_tb := mj_t6 (i := 121) rfl rfl
abbrev ww_477 : Cond := .fieldLink RX12 356 "RentRiverModel" "hasRounds" "Z"
theorem wi_477 : ww_477 ∈ mj_tb := mj_t6 (i := 164) rfl rfl
abbrev ww_478 : Cond := .fieldLink RX12 359 "RentRiverModel" "roundTowns" "I"
theorem wi_478 : ww_478 ∈ mj_tb := mj_t6 (i := 163) rfl rfl
abbrev ww_479 : Cond := .fieldLink RX12 71 "RentRiverModel" "hasMonth" "[I"
theorem wi_479 : ww_479 ∈ mj_tb := mj_t6 (i := 161) rfl rfl
abbrev ww_480 : Cond := .fieldLink RX12 96 "RentRiverModel" "kept" "[I"
theorem wi_480 : ww_480 ∈ mj_tb := mj_t6 (i := 179) rfl rfl
abbrev ww_481 : Cond := .fieldLink RX12 99 "RentRiverModel" "namesKept" "[J"
theorem wi_481 : ww_481 ∈ mj_tb := mj_t6 (i := 180) rfl rfl
abbrev ww_482 : Cond := .fieldLink RX12 102 "RentRiverModel" "isKept" "[Z"
theorem wi_482 : ww_482 ∈ mj_tb := mj_t6 (i := 181) rfl rfl
abbrev ww_483 : Cond := .methodLink RX12 27 objectInit
theorem wi_483 : ww_483 ∈ mj_tb := mj_t6 (i := 95) rfl rfl
abbrev ww_484 : Cond := .fieldLink RX12 37 "RentRiverModel" "h" "[I"
theorem wi_484 : ww_484 ∈ mj_tb := mj_t6 (i := 127) rfl rfl
abbrev ww_485 : Cond := .fieldLink RX12 47 "RentRiverModel" "reserved" "[J"
theorem wi_485 : ww_485 ∈ mj_tb := mj_t6 (i := 130) rfl rfl
abbrev ww_486 : Cond := .fieldLink RX12 50 "RentRiverModel" "had" "[I"
theorem wi_486 : ww_486 ∈ mj_tb := mj_t6 (i := 143) rfl rfl
abbrev ww_487 : Cond := .fieldLink RX12 53 "RentRiverModel" "undone" "[I"
theorem wi_487 : ww_487 ∈ mj_tb := mj_t6 (i := 147) rfl rfl
abbrev ww_488 : Cond := .fieldLink RX12 56 "RentRiverModel" "leakTown" "I"
theorem wi_488 : ww_488 ∈ mj_tb := mj_t6 (i := 152) rfl rfl
abbrev ww_489 : Cond := .fieldLink RX12 74 "RentRiverModel" "prices" "[I"
theorem wi_489 : ww_489 ∈ mj_tb := mj_t6 (i := 162) rfl rfl
abbrev ww_490 : Cond := .fieldLink RX12 80 "RentRiverModel" "bidsKept" "[I"
theorem wi_490 : ww_490 ∈ mj_tb := mj_t6 (i := 166) rfl rfl
abbrev ww_491 : Cond := .fieldLink RX12 83 "RentRiverModel" "leaksFound" "[I"
theorem wi_491 : ww_491 ∈ mj_tb := mj_t6 (i := 168) rfl rfl
abbrev ww_492 : Cond := .fieldLink RX12 92 "RentRiverModel" "values" "[Z"
theorem wi_492 : ww_492 ∈ mj_tb := mj_t6 (i := 178) rfl rfl
abbrev ww_493 : Cond := .constantLong RX12 105 (1953462126)
theorem wi_493 : ww_493 ∈ mj_tb := mj_t6 (i := 96) rfl rfl
abbrev ww_494 : Cond := .constantLong RX12 107 (512736126322)
theorem wi_494 : ww_494 ∈ mj_tb := mj_t6 (i := 97) rfl rfl
abbrev ww_495 : Cond := .constantLong RX12 109 (6449508)
theorem wi_495 : ww_495 ∈ mj_tb := mj_t6 (i := 98) rfl rfl
abbrev ww_496 : Cond := .constantLong RX12 111 (1852138852)
theorem wi_496 : ww_496 ∈ mj_tb := mj_t6 (i := 99) rfl rfl
abbrev ww_497 : Cond := .constantLong RX12 113 (1835625580)
theorem wi_497 : ww_497 ∈ mj_tb := mj_t6 (i := 100) rfl rfl
abbrev ww_498 : Cond := .constantLong RX12 115 (108243533981541)
theorem wi_498 : ww_498 ∈ mj_tb := mj_t6 (i := 101) rfl rfl
abbrev ww_499 : Cond := .constantLong RX12 117 (439854918756)
theorem wi_499 : ww_499 ∈ mj_tb := mj_t6 (i := 102) rfl rfl
abbrev ww_500 : Cond := .constantLong RX12 119 (1836021349)
theorem wi_500 : ww_500 ∈ mj_tb := mj_t6 (i := 103) rfl rfl
abbrev ww_501 : Cond := .constantLong RX12 121 (1718186856)
theorem wi_501 : ww_501 ∈ mj_tb := mj_t6 (i := 104) rfl rfl
abbrev ww_502 : Cond := .constantLong RX12 123 (8097881601010983781)
theorem wi_502 : ww_502 ∈ mj_tb := mj_t6 (i := 105) rfl rfl
abbrev ww_503 : Cond := .constantLong RX12 133 (7237492)
theorem wi_503 : ww_503 ∈ mj_tb := mj_t6 (i := 110) rfl rfl
abbrev ww_504 : Cond := .constantLong RX12 135 (495673373285)
theorem wi_504 : ww_504 ∈ mj_tb := mj_t6 (i := 111) rfl rfl
abbrev ww_505 : Cond := .constantLong RX12 137 (32765899399459961)
theorem wi_505 : ww_505 ∈ mj_tb := mj_t6 (i := 112) rfl rfl
abbrev ww_506 : Cond := .constantLong RX12 139 (1886350948)
theorem wi_506 : ww_506 ∈ mj_tb := mj_t6 (i := 113) rfl rfl
abbrev ww_507 : Cond := .constantLong RX12 141 (483006772069)
theorem wi_507 : ww_507 ∈ mj_tb := mj_t6 (i := 114) rfl rfl
abbrev ww_508 : Cond := .constantLong RX12 143 (1885432164)
theorem wi_508 : ww_508 ∈ mj_tb := mj_t6 (i := 115) rfl rfl
abbrev ww_509 : Cond := .constantLong RX12 145 (6582905)
theorem wi_509 : ww_509 ∈ mj_tb := mj_t6 (i := 116) rfl rfl
abbrev ww_510 : Cond := .constantLong RX12 147 (1818588275)
theorem wi_510 : ww_510 ∈ mj_tb := mj_t6 (i := 117) rfl rfl
abbrev ww_511 : Cond := .constantLong RX12 149 (444300879214)
theorem wi_511 : ww_511 ∈ mj_tb := mj_t6 (i := 118) rfl rfl
abbrev ww_512 : Cond := .constantLong RX12 151 (482854658917)
theorem wi_512 : ww_512 ∈ mj_tb := mj_t6 (i := 119) rfl rfl
abbrev ww_513 : Cond := .methodLink RX12 439 yX12_isLeaf
theorem wi_513 : ww_513 ∈ mj_tb := mj_t8 (i := 200) rfl rfl
abbrev ww_514 : Cond := .methodLink RX12 412 yX12_code
theorem wi_514 : ww_514 ∈ mj_tb := mj_t8 (i := 172) rfl rfl
abbrev ww_515 : Cond := .fieldLink RX12 378 "RentRiverModel" "leakMany" "I"
theorem wi_515 : ww_515 ∈ mj_tb := mj_t6 (i := 169) rfl rfl
abbrev ww_516 : Cond := .fieldLink RX12 18 "RentRiverModel" "size" "I"
theorem wi_516 : ww_516 ∈ mj_tb := mj_t6 (i := 123) rfl rfl
abbrev ww_517 : Cond := .fieldLink RX12 327 "RentRiverModel" "leakMonth" "I"
theorem wi_517 : ww_517 ∈ mj_tb := mj_t6 (i := 153) rfl rfl
abbrev ww_518 : Cond := .fieldLink RX12 330 "RentRiverModel" "leakMuch" "I"
theorem wi_518 : ww_518 ∈ mj_tb := mj_t6 (i := 154) rfl rfl
abbrev ww_519 : Cond := .methodLink RX12 381 yX12_areLevels
theorem wi_519 : ww_519 ∈ mj_tb := mj_t8 (i := 82) rfl rfl
abbrev ww_520 : Cond := .fieldLink RX12 292 "RentRiverModel" "lies" "I"
theorem wi_520 : ww_520 ∈ mj_tb := mj_t6 (i := 149) rfl rfl
abbrev ww_521 : Cond := .fieldLink RX12 295 "RentRiverModel" "other" "I"
theorem wi_521 : ww_521 ∈ mj_tb := mj_t6 (i := 150) rfl rfl
abbrev ww_522 : Cond := .fieldLink RX12 298 "RentRiverModel" "paid" "I"
theorem wi_522 : ww_522 ∈ mj_tb := mj_t6 (i := 151) rfl rfl
abbrev ww_523 : Cond := .methodLink RX12 301 yX12_canPay
theorem wi_523 : ww_523 ∈ mj_tb := mj_t7 (i := 218) rfl rfl
abbrev ww_524 : Cond := .methodLink RX12 304 yX12_pays
theorem wi_524 : ww_524 ∈ mj_tb := mj_t7 (i := 226) rfl rfl
abbrev ww_525 : Cond := .methodLink RX12 308 yX12_lets
theorem wi_525 : ww_525 ∈ mj_tb := mj_t7 (i := 214) rfl rfl
abbrev ww_526 : Cond := .methodLink RX12 318 yX12_wasLet
theorem wi_526 : ww_526 ∈ mj_tb := mj_t8 (i := 1) rfl rfl
abbrev ww_527 : Cond := .methodLink RX12 321 yX12_comes
theorem wi_527 : ww_527 ∈ mj_tb := mj_t8 (i := 5) rfl rfl
abbrev ww_528 : Cond := .methodLink RX12 324 yX12_uses
theorem wi_528 : ww_528 ∈ mj_tb := mj_t8 (i := 9) rfl rfl
abbrev ww_529 : Cond := .methodLink RX12 153 yX12_peek
theorem wi_529 : ww_529 ∈ mj_tb := mj_t7 (i := 79) rfl rfl
abbrev ww_530 : Cond := .fieldLink RX12 21 "RentRiverModel" "p" "I"
theorem wi_530 : ww_530 ∈ mj_tb := mj_t6 (i := 124) rfl rfl
abbrev ww_531 : Cond := .fieldLink RX12 160 "RentRiverModel" "span" "I"
theorem wi_531 : ww_531 ∈ mj_tb := mj_t6 (i := 133) rfl rfl
abbrev ww_532 : Cond := .fieldLink RX12 24 "RentRiverModel" "limit" "I"
theorem wi_532 : ww_532 ∈ mj_tb := mj_t6 (i := 125) rfl rfl
abbrev ww_533 : Cond := .methodLink RX12 166 yX12_isSmall
theorem wi_533 : ww_533 ∈ mj_tb := mj_t7 (i := 83) rfl rfl
abbrev ww_534 : Cond := .methodLink RX12 170 yX12_isDigit
theorem wi_534 : ww_534 ∈ mj_tb := mj_t7 (i := 86) rfl rfl
abbrev ww_535 : Cond := .fieldLink RX12 254 "RentRiverModel" "undoMany" "I"
theorem wi_535 : ww_535 ∈ mj_tb := mj_t6 (i := 148) rfl rfl
abbrev ww_536 : Cond := .methodLink RX12 418 yX12_leafOf
theorem wi_536 : ww_536 ∈ mj_tb := mj_t8 (i := 188) rfl rfl
abbrev ww_537 : Cond := .fieldLink RX12 421 "RentRiverModel" "ones" "I"
theorem wi_537 : ww_537 ∈ mj_tb := mj_t6 (i := 174) rfl rfl
abbrev ww_538 : Cond := .fieldLink RX12 245 "RentRiverModel" "rows" "I"
theorem wi_538 : ww_538 ∈ mj_tb := mj_t6 (i := 139) rfl rfl
abbrev ww_539 : Cond := .fieldLink RX12 229 "RentRiverModel" "onces" "I"
theorem wi_539 : ww_539 ∈ mj_tb := mj_t6 (i := 140) rfl rfl
abbrev ww_540 : Cond := .fieldLink RX12 239 "RentRiverModel" "bids" "I"
theorem wi_540 : ww_540 ∈ mj_tb := mj_t6 (i := 141) rfl rfl
abbrev ww_541 : Cond := .fieldLink RX12 210 "RentRiverModel" "rain" "I"
theorem wi_541 : ww_541 ∈ mj_tb := mj_t6 (i := 142) rfl rfl
abbrev ww_542 : Cond := .methodLink RX12 248 yX12_row
theorem wi_542 : ww_542 ∈ mj_tb := mj_t7 (i := 89) rfl rfl
abbrev ww_543 : Cond := .fieldLink RX12 257 "RentRiverModel" "plainsRead" "I"
theorem wi_543 : ww_543 ∈ mj_tb := mj_t6 (i := 146) rfl rfl
abbrev ww_544 : Cond := .methodLink RX12 394 yX12_put
theorem wi_544 : ww_544 ∈ mj_tb := mj_t8 (i := 135) rfl rfl
abbrev ww_545 : Cond := .constantLong RX12 397 (255)
theorem wi_545 : ww_545 ∈ mj_tb := mj_t8 (i := 143) rfl rfl
abbrev ww_546 : Cond := .fieldLink RX12 226 "RentRiverModel" "of0" "I"
theorem wi_546 : ww_546 ∈ mj_tb := mj_t6 (i := 144) rfl rfl
abbrev ww_547 : Cond := .methodLink RX12 362 yX12_holderOf
theorem wi_547 : ww_547 ∈ mj_tb := mj_t8 (i := 58) rfl rfl
abbrev ww_548 : Cond := .methodLink RX12 206 yX12_readTown
theorem wi_548 : ww_548 ∈ mj_tb := mj_t7 (i := 97) rfl rfl
abbrev ww_549 : Cond := .methodLink RX12 220 yX12_readBid
theorem wi_549 : ww_549 ∈ mj_tb := mj_t7 (i := 123) rfl rfl
abbrev ww_550 : Cond := .methodLink RX12 223 yX12_readOf
theorem wi_550 : ww_550 ∈ mj_tb := mj_t7 (i := 127) rfl rfl
abbrev ww_551 : Cond := .methodLink RX12 443 yX12_isSaid
theorem wi_551 : ww_551 ∈ mj_tb := mj_t8 (i := 196) rfl rfl
abbrev ww_552 : Cond := .methodLink RX12 433 yX12_behind
theorem wi_552 : ww_552 ∈ mj_tb := mj_t8 (i := 180) rfl rfl
abbrev ww_553 : Cond := .methodLink RX12 436 yX12_operand
theorem wi_553 : ww_553 ∈ mj_tb := mj_t8 (i := 184) rfl rfl
abbrev ww_554 : Cond := .methodLink RX12 266 yX12_throwsIf
theorem wi_554 : ww_554 ∈ mj_tb := mj_t7 (i := 151) rfl rfl
abbrev ww_555 : Cond := .methodLink RX12 365 yX12_draw
theorem wi_555 : ww_555 ∈ mj_tb := mj_t8 (i := 110) rfl rfl
abbrev ww_556 : Cond := .methodLink RX12 399 yX12_putNumber
theorem wi_556 : ww_556 ∈ mj_tb := mj_t8 (i := 131) rfl rfl
abbrev ww_557 : Cond := .methodLink RX12 402 yX12_putName
theorem wi_557 : ww_557 ∈ mj_tb := mj_t8 (i := 139) rfl rfl
abbrev ww_558 : Cond := .fieldLink RX9 115 "RentRiver$Word" "ALL" "[LRentRiver$Word;"
theorem wi_558 : ww_558 ∈ mj_tb := mj_t3 (i := 77) rfl rfl
abbrev ww_559 : Cond := .fieldLink RX9 107 "RentRiver$Word" "code" "J"
theorem wi_559 : ww_559 ∈ mj_tb := mj_t8 (i := 233) rfl rfl
abbrev ww_560 : Cond := .fieldLink RX9 15 "RentRiver$Word" "NEEDS" "LRentRiver$Word;"
theorem wi_560 : ww_560 ∈ mj_tb := mj_t3 (i := 139) rfl rfl
abbrev ww_561 : Cond := .fieldLink RX9 18 "RentRiver$Word" "MILLS" "LRentRiver$Word;"
theorem wi_561 : ww_561 ∈ mj_tb := mj_t3 (i := 141) rfl rfl
abbrev ww_562 : Cond := .fieldLink RX9 21 "RentRiver$Word" "BRIDGES" "LRentRiver$Word;"
theorem wi_562 : ww_562 ∈ mj_tb := mj_t3 (i := 143) rfl rfl
abbrev ww_563 : Cond := .fieldLink RX9 24 "RentRiver$Word" "FIELDS" "LRentRiver$Word;"
theorem wi_563 : ww_563 ∈ mj_tb := mj_t3 (i := 145) rfl rfl
abbrev ww_564 : Cond := .fieldLink RX9 57 "RentRiver$Word" "PONDS" "LRentRiver$Word;"
theorem wi_564 : ww_564 ∈ mj_tb := mj_t5 (i := 172) rfl rfl
abbrev ww_565 : Cond := .fieldLink RX9 60 "RentRiver$Word" "PURSES" "LRentRiver$Word;"
theorem wi_565 : ww_565 ∈ mj_tb := mj_t5 (i := 174) rfl rfl
abbrev ww_566 : Cond := .fieldLink RX9 63 "RentRiver$Word" "PAYS" "LRentRiver$Word;"
theorem wi_566 : ww_566 ∈ mj_tb := mj_t5 (i := 176) rfl rfl
abbrev ww_567 : Cond := .fieldLink RX9 66 "RentRiver$Word" "DRY" "LRentRiver$Word;"
theorem wi_567 : ww_567 ∈ mj_tb := mj_t5 (i := 178) rfl rfl
abbrev ww_568 : Cond := .fieldLink RX9 69 "RentRiver$Word" "LETTINGS" "LRentRiver$Word;"
theorem wi_568 : ww_568 ∈ mj_tb := mj_t5 (i := 180) rfl rfl
abbrev ww_569 : Cond := .fieldLink RX9 72 "RentRiver$Word" "GREEN" "LRentRiver$Word;"
theorem wi_569 : ww_569 ∈ mj_tb := mj_t5 (i := 182) rfl rfl
abbrev ww_570 : Cond := .fieldLink RX9 75 "RentRiver$Word" "PLACE" "LRentRiver$Word;"
theorem wi_570 : ww_570 ∈ mj_tb := mj_t5 (i := 184) rfl rfl
abbrev ww_571 : Cond := .code yX0_canBe cX0_canBe 4 (some .boolean)
theorem wi_571 : ww_571 ∈ mj_tb := mj_t4 (i := 197) rfl rfl
abbrev ww_572 : Cond := .instanceMethod yX0_canBe
theorem wi_572 : ww_572 ∈ mj_tb := mj_t4 (i := 196) rfl rfl
abbrev ww_573 : Cond := .selects RX0 yX0_canBe yX0_canBe
theorem wi_573 : ww_573 ∈ mj_tb := mj_q3 (i := 4) rfl rfl rfl
abbrev ww_574 : Cond := .code yX0_costOf cX0_costOf 3 (some .int)
theorem wi_574 : ww_574 ∈ mj_tb := mj_t4 (i := 167) rfl rfl
abbrev ww_575 : Cond := .instanceMethod yX0_costOf
theorem wi_575 : ww_575 ∈ mj_tb := mj_t4 (i := 166) rfl rfl
abbrev ww_576 : Cond := .selects RX0 yX0_costOf yX0_costOf
theorem wi_576 : ww_576 ∈ mj_tb := mj_q2 (i := 13) rfl rfl rfl
abbrev ww_577 : Cond := .code yX0_firstForNothing cX0_firstForNothing 3 (some .int)
theorem wi_577 : ww_577 ∈ mj_tb := mj_t4 (i := 193) rfl rfl
abbrev ww_578 : Cond := .instanceMethod yX0_firstForNothing
theorem wi_578 : ww_578 ∈ mj_tb := mj_t4 (i := 192) rfl rfl
abbrev ww_579 : Cond := .selects RX0 yX0_firstForNothing yX0_firstForNothing
theorem wi_579 : ww_579 ∈ mj_tb := mj_q3 (i := 3) rfl rfl rfl
abbrev ww_580 : Cond := .code yX0_init cX0_init 1 none
theorem wi_580 : ww_580 ∈ mj_tb := mj_t2 (i := 94) rfl rfl
abbrev ww_581 : Cond := .instanceMethod yX0_init
theorem wi_581 : ww_581 ∈ mj_tb := mj_t2 (i := 93) rfl rfl
abbrev ww_582 : Cond := .code yX0_keepPath cX0_keepPath 4 none
theorem wi_582 : ww_582 ∈ mj_tb := mj_t4 (i := 185) rfl rfl
abbrev ww_583 : Cond := .instanceMethod yX0_keepPath
theorem wi_583 : ww_583 ∈ mj_tb := mj_t4 (i := 184) rfl rfl
abbrev ww_584 : Cond := .selects RX0 yX0_keepPath yX0_keepPath
theorem wi_584 : ww_584 ∈ mj_tb := mj_q3 (i := 1) rfl rfl rfl
abbrev ww_585 : Cond := .code yX0_keepTail cX0_keepTail 4 none
theorem wi_585 : ww_585 ∈ mj_tb := mj_t4 (i := 209) rfl rfl
abbrev ww_586 : Cond := .instanceMethod yX0_keepTail
theorem wi_586 : ww_586 ∈ mj_tb := mj_t4 (i := 208) rfl rfl
abbrev ww_587 : Cond := .selects RX0 yX0_keepTail yX0_keepTail
theorem wi_587 : ww_587 ∈ mj_tb := mj_q3 (i := 7) rfl rfl rfl
abbrev ww_588 : Cond := .code yX0_lacksAny cX0_lacksAny 2 (some .boolean)
theorem wi_588 : ww_588 ∈ mj_tb := mj_t4 (i := 181) rfl rfl
abbrev ww_589 : Cond := .instanceMethod yX0_lacksAny
theorem wi_589 : ww_589 ∈ mj_tb := mj_t4 (i := 180) rfl rfl
abbrev ww_590 : Cond := .selects RX0 yX0_lacksAny yX0_lacksAny
theorem wi_590 : ww_590 ∈ mj_tb := mj_q3 (i := 0) rfl rfl rfl
abbrev ww_591 : Cond := .code yX0_leastToCome cX0_leastToCome 6 (some .int)
theorem wi_591 : ww_591 ∈ mj_tb := mj_t4 (i := 177) rfl rfl
abbrev ww_592 : Cond := .instanceMethod yX0_leastToCome
theorem wi_592 : ww_592 ∈ mj_tb := mj_t4 (i := 176) rfl rfl
abbrev ww_593 : Cond := .selects RX0 yX0_leastToCome yX0_leastToCome
theorem wi_593 : ww_593 ∈ mj_tb := mj_q2 (i := 15) rfl rfl rfl
abbrev ww_594 : Cond := .code yX0_listTails cX0_listTails 4 none
theorem wi_594 : ww_594 ∈ mj_tb := mj_t4 (i := 159) rfl rfl
abbrev ww_595 : Cond := .instanceMethod yX0_listTails
theorem wi_595 : ww_595 ∈ mj_tb := mj_t4 (i := 158) rfl rfl
abbrev ww_596 : Cond := .selects RX0 yX0_listTails yX0_listTails
theorem wi_596 : ww_596 ∈ mj_tb := mj_q2 (i := 11) rfl rfl rfl
abbrev ww_597 : Cond := .code yX0_meetsNeeds cX0_meetsNeeds 3 (some .boolean)
theorem wi_597 : ww_597 ∈ mj_tb := mj_t4 (i := 205) rfl rfl
abbrev ww_598 : Cond := .instanceMethod yX0_meetsNeeds
theorem wi_598 : ww_598 ∈ mj_tb := mj_t4 (i := 204) rfl rfl
abbrev ww_599 : Cond := .selects RX0 yX0_meetsNeeds yX0_meetsNeeds
theorem wi_599 : ww_599 ∈ mj_tb := mj_q3 (i := 6) rfl rfl rfl
abbrev ww_600 : Cond := .code yX0_prepare cX0_prepare 5 none
theorem wi_600 : ww_600 ∈ mj_tb := mj_t4 (i := 148) rfl rfl
abbrev ww_601 : Cond := .instanceMethod yX0_prepare
theorem wi_601 : ww_601 ∈ mj_tb := mj_t4 (i := 147) rfl rfl
abbrev ww_602 : Cond := .selects RX0 yX0_prepare yX0_prepare
theorem wi_602 : ww_602 ∈ mj_tb := mj_q2 (i := 10) rfl rfl rfl
abbrev ww_603 : Cond := .code yX0_putAhead cX0_putAhead 7 none
theorem wi_603 : ww_603 ∈ mj_tb := mj_t4 (i := 163) rfl rfl
abbrev ww_604 : Cond := .instanceMethod yX0_putAhead
theorem wi_604 : ww_604 ∈ mj_tb := mj_t4 (i := 162) rfl rfl
abbrev ww_605 : Cond := .selects RX0 yX0_putAhead yX0_putAhead
theorem wi_605 : ww_605 ∈ mj_tb := mj_q2 (i := 12) rfl rfl rfl
abbrev ww_606 : Cond := .code yX0_searchPlan cX0_searchPlan 3 (some .int)
theorem wi_606 : ww_606 ∈ mj_tb := mj_t4 (i := 144) rfl rfl
abbrev ww_607 : Cond := .instanceMethod yX0_searchPlan
theorem wi_607 : ww_607 ∈ mj_tb := mj_t4 (i := 143) rfl rfl
abbrev ww_608 : Cond := .selects RX0 yX0_searchPlan yX0_searchPlan
theorem wi_608 : ww_608 ∈ mj_tb := mj_q2 (i := 9) rfl rfl rfl
abbrev ww_609 : Cond := .code yX0_solve cX0_solve 2 (some .int)
theorem wi_609 : ww_609 ∈ mj_tb := mj_t4 (i := 140) rfl rfl
abbrev ww_610 : Cond := .instanceMethod yX0_solve
theorem wi_610 : ww_610 ∈ mj_tb := mj_t4 (i := 138) rfl rfl
abbrev ww_611 : Cond := .selects RX0 yX0_solve yX0_solve
theorem wi_611 : ww_611 ∈ mj_tb := mj_t4 (i := 139) rfl rfl
abbrev ww_612 : Cond := .code yX0_stayFrom cX0_stayFrom 5 none
theorem wi_612 : ww_612 ∈ mj_tb := mj_t4 (i := 189) rfl rfl
abbrev ww_613 : Cond := .instanceMethod yX0_stayFrom
theorem wi_613 : ww_613 ∈ mj_tb := mj_t4 (i := 188) rfl rfl
abbrev ww_614 : Cond := .selects RX0 yX0_stayFrom yX0_stayFrom
theorem wi_614 : ww_614 ∈ mj_tb := mj_q3 (i := 2) rfl rfl rfl
abbrev ww_615 : Cond := .code yX0_tryMonth cX0_tryMonth 5 none
theorem wi_615 : ww_615 ∈ mj_tb := mj_t4 (i := 173) rfl rfl
abbrev ww_616 : Cond := .instanceMethod yX0_tryMonth
theorem wi_616 : ww_616 ∈ mj_tb := mj_t4 (i := 172) rfl rfl
abbrev ww_617 : Cond := .selects RX0 yX0_tryMonth yX0_tryMonth
theorem wi_617 : ww_617 ∈ mj_tb := mj_q2 (i := 14) rfl rfl rfl
abbrev ww_618 : Cond := .code yX0_tryTails cX0_tryTails 5 none
theorem wi_618 : ww_618 ∈ mj_tb := mj_t4 (i := 201) rfl rfl
abbrev ww_619 : Cond := .instanceMethod yX0_tryTails
theorem wi_619 : ww_619 ∈ mj_tb := mj_t4 (i := 200) rfl rfl
abbrev ww_620 : Cond := .selects RX0 yX0_tryTails yX0_tryTails
theorem wi_620 : ww_620 ∈ mj_tb := mj_q3 (i := 5) rfl rfl rfl
abbrev ww_621 : Cond := .code yX1_clear cX1_clear 2 none
theorem wi_621 : ww_621 ∈ mj_tb := mj_t1 (i := 179) rfl rfl
abbrev ww_622 : Cond := .instanceMethod yX1_clear
theorem wi_622 : ww_622 ∈ mj_tb := mj_t1 (i := 177) rfl rfl
abbrev ww_623 : Cond := .selects RX1 yX1_clear yX1_clear
theorem wi_623 : ww_623 ∈ mj_tb := mj_t1 (i := 178) rfl rfl
abbrev ww_624 : Cond := .code yX1_copy cX1_copy 2 none
theorem wi_624 : ww_624 ∈ mj_tb := mj_t5 (i := 230) rfl rfl
abbrev ww_625 : Cond := .instanceMethod yX1_copy
theorem wi_625 : ww_625 ∈ mj_tb := mj_t5 (i := 228) rfl rfl
abbrev ww_626 : Cond := .selects RX1 yX1_copy yX1_copy
theorem wi_626 : ww_626 ∈ mj_tb := mj_t5 (i := 229) rfl rfl
abbrev ww_627 : Cond := .code yX1_init cX1_init 1 none
theorem wi_627 : ww_627 ∈ mj_tb := mj_t1 (i := 174) rfl rfl
abbrev ww_628 : Cond := .instanceMethod yX1_init
theorem wi_628 : ww_628 ∈ mj_tb := mj_t1 (i := 173) rfl rfl
abbrev ww_629 : Cond := .code yX1_readLet cX1_readLet 7 (some .boolean)
theorem wi_629 : ww_629 ∈ mj_tb := mj_t4 (i := 18) rfl rfl
abbrev ww_630 : Cond := .instanceMethod yX1_readLet
theorem wi_630 : ww_630 ∈ mj_tb := mj_t4 (i := 17) rfl rfl
abbrev ww_631 : Cond := .selects RX1 yX1_readLet yX1_readLet
theorem wi_631 : ww_631 ∈ mj_tb := mj_q1 (i := 13) rfl rfl rfl
abbrev ww_632 : Cond := .code yX1_readRow cX1_readRow 5 (some .boolean)
theorem wi_632 : ww_632 ∈ mj_tb := mj_t4 (i := 4) rfl rfl
abbrev ww_633 : Cond := .instanceMethod yX1_readRow
theorem wi_633 : ww_633 ∈ mj_tb := mj_t4 (i := 3) rfl rfl
abbrev ww_634 : Cond := .selects RX1 yX1_readRow yX1_readRow
theorem wi_634 : ww_634 ∈ mj_tb := mj_q1 (i := 12) rfl rfl rfl
abbrev ww_635 : Cond := .code yX1_readRows cX1_readRows 4 none
theorem wi_635 : ww_635 ∈ mj_tb := mj_t3 (i := 239) rfl rfl
abbrev ww_636 : Cond := .instanceMethod yX1_readRows
theorem wi_636 : ww_636 ∈ mj_tb := mj_t3 (i := 237) rfl rfl
abbrev ww_637 : Cond := .selects RX1 yX1_readRows yX1_readRows
theorem wi_637 : ww_637 ∈ mj_tb := mj_t3 (i := 238) rfl rfl
abbrev ww_638 : Cond := .code yX1_tell cX1_tell 5 none
theorem wi_638 : ww_638 ∈ mj_tb := mj_t4 (i := 25) rfl rfl
abbrev ww_639 : Cond := .instanceMethod yX1_tell
theorem wi_639 : ww_639 ∈ mj_tb := mj_t4 (i := 23) rfl rfl
abbrev ww_640 : Cond := .selects RX1 yX1_tell yX1_tell
theorem wi_640 : ww_640 ∈ mj_tb := mj_t4 (i := 24) rfl rfl
abbrev ww_641 : Cond := .code yX1_tells cX1_tells 2 (some .boolean)
theorem wi_641 : ww_641 ∈ mj_tb := mj_t4 (i := 14) rfl rfl
abbrev ww_642 : Cond := .instanceMethod yX1_tells
theorem wi_642 : ww_642 ∈ mj_tb := mj_t4 (i := 12) rfl rfl
abbrev ww_643 : Cond := .selects RX1 yX1_tells yX1_tells
theorem wi_643 : ww_643 ∈ mj_tb := mj_t4 (i := 13) rfl rfl
abbrev ww_644 : Cond := .code yX2_asTold cX2_asTold 5 (some .boolean)
theorem wi_644 : ww_644 ∈ mj_tb := mj_t5 (i := 38) rfl rfl
abbrev ww_645 : Cond := .instanceMethod yX2_asTold
theorem wi_645 : ww_645 ∈ mj_tb := mj_t5 (i := 37) rfl rfl
abbrev ww_646 : Cond := .selects RX2 yX2_asTold yX2_asTold
theorem wi_646 : ww_646 ∈ mj_tb := mj_q3 (i := 12) rfl rfl rfl
abbrev ww_647 : Cond := .code yX2_comesBy cX2_comesBy 6 (some .boolean)
theorem wi_647 : ww_647 ∈ mj_tb := mj_t5 (i := 24) rfl rfl
abbrev ww_648 : Cond := .instanceMethod yX2_comesBy
theorem wi_648 : ww_648 ∈ mj_tb := mj_t5 (i := 23) rfl rfl
abbrev ww_649 : Cond := .selects RX2 yX2_comesBy yX2_comesBy
theorem wi_649 : ww_649 ∈ mj_tb := mj_q3 (i := 11) rfl rfl rfl
abbrev ww_650 : Cond := .code yX2_init cX2_init 1 none
theorem wi_650 : ww_650 ∈ mj_tb := mj_t2 (i := 184) rfl rfl
abbrev ww_651 : Cond := .instanceMethod yX2_init
theorem wi_651 : ww_651 ∈ mj_tb := mj_t2 (i := 183) rfl rfl
abbrev ww_652 : Cond := .code yX2_keep cX2_keep 4 none
theorem wi_652 : ww_652 ∈ mj_tb := mj_t5 (i := 42) rfl rfl
abbrev ww_653 : Cond := .instanceMethod yX2_keep
theorem wi_653 : ww_653 ∈ mj_tb := mj_t5 (i := 41) rfl rfl
abbrev ww_654 : Cond := .selects RX2 yX2_keep yX2_keep
theorem wi_654 : ww_654 ∈ mj_tb := mj_q3 (i := 13) rfl rfl rfl
abbrev ww_655 : Cond := .code yX2_readLevels cX2_readLevels 8 (some .boolean)
theorem wi_655 : ww_655 ∈ mj_tb := mj_t5 (i := 14) rfl rfl
abbrev ww_656 : Cond := .instanceMethod yX2_readLevels
theorem wi_656 : ww_656 ∈ mj_tb := mj_t5 (i := 12) rfl rfl
abbrev ww_657 : Cond := .selects RX2 yX2_readLevels yX2_readLevels
theorem wi_657 : ww_657 ∈ mj_tb := mj_t5 (i := 13) rfl rfl
abbrev ww_658 : Cond := .code yX2_run cX2_run 7 (some .int)
theorem wi_658 : ww_658 ∈ mj_tb := mj_t5 (i := 19) rfl rfl
abbrev ww_659 : Cond := .instanceMethod yX2_run
theorem wi_659 : ww_659 ∈ mj_tb := mj_t5 (i := 17) rfl rfl
abbrev ww_660 : Cond := .selects RX2 yX2_run yX2_run
theorem wi_660 : ww_660 ∈ mj_tb := mj_t5 (i := 18) rfl rfl
abbrev ww_661 : Cond := .code yX3_clear cX3_clear 3 none
theorem wi_661 : ww_661 ∈ mj_tb := mj_t3 (i := 44) rfl rfl
abbrev ww_662 : Cond := .instanceMethod yX3_clear
theorem wi_662 : ww_662 ∈ mj_tb := mj_t3 (i := 42) rfl rfl
abbrev ww_663 : Cond := .selects RX3 yX3_clear yX3_clear
theorem wi_663 : ww_663 ∈ mj_tb := mj_t3 (i := 43) rfl rfl
abbrev ww_664 : Cond := .code yX3_copy cX3_copy 3 none
theorem wi_664 : ww_664 ∈ mj_tb := mj_t5 (i := 113) rfl rfl
abbrev ww_665 : Cond := .instanceMethod yX3_copy
theorem wi_665 : ww_665 ∈ mj_tb := mj_t5 (i := 111) rfl rfl
abbrev ww_666 : Cond := .selects RX3 yX3_copy yX3_copy
theorem wi_666 : ww_666 ∈ mj_tb := mj_t5 (i := 112) rfl rfl
abbrev ww_667 : Cond := .code yX3_find cX3_find 4 (some .int)
theorem wi_667 : ww_667 ∈ mj_tb := mj_t3 (i := 101) rfl rfl
abbrev ww_668 : Cond := .instanceMethod yX3_find
theorem wi_668 : ww_668 ∈ mj_tb := mj_t3 (i := 100) rfl rfl
abbrev ww_669 : Cond := .selects RX3 yX3_find yX3_find
theorem wi_669 : ww_669 ∈ mj_tb := mj_q1 (i := 3) rfl rfl rfl
abbrev ww_670 : Cond := .code yX3_gain cX3_gain 3 (some .int)
theorem wi_670 : ww_670 ∈ mj_tb := mj_t4 (i := 153) rfl rfl
abbrev ww_671 : Cond := .instanceMethod yX3_gain
theorem wi_671 : ww_671 ∈ mj_tb := mj_t4 (i := 151) rfl rfl
abbrev ww_672 : Cond := .selects RX3 yX3_gain yX3_gain
theorem wi_672 : ww_672 ∈ mj_tb := mj_t4 (i := 152) rfl rfl
abbrev ww_673 : Cond := .code yX3_init cX3_init 1 none
theorem wi_673 : ww_673 ∈ mj_tb := mj_t1 (i := 94) rfl rfl
abbrev ww_674 : Cond := .instanceMethod yX3_init
theorem wi_674 : ww_674 ∈ mj_tb := mj_t1 (i := 93) rfl rfl
abbrev ww_675 : Cond := .code yX3_nextTown cX3_nextTown 2 (some .int)
theorem wi_675 : ww_675 ∈ mj_tb := mj_t3 (i := 126) rfl rfl
abbrev ww_676 : Cond := .instanceMethod yX3_nextTown
theorem wi_676 : ww_676 ∈ mj_tb := mj_t3 (i := 124) rfl rfl
abbrev ww_677 : Cond := .selects RX3 yX3_nextTown yX3_nextTown
theorem wi_677 : ww_677 ∈ mj_tb := mj_t3 (i := 125) rfl rfl
abbrev ww_678 : Cond := .code yX3_placeOf cX3_placeOf 2 (some .int)
theorem wi_678 : ww_678 ∈ mj_tb := mj_t4 (i := 77) rfl rfl
abbrev ww_679 : Cond := .instanceMethod yX3_placeOf
theorem wi_679 : ww_679 ∈ mj_tb := mj_t4 (i := 75) rfl rfl
abbrev ww_680 : Cond := .selects RX3 yX3_placeOf yX3_placeOf
theorem wi_680 : ww_680 ∈ mj_tb := mj_t4 (i := 76) rfl rfl
abbrev ww_681 : Cond := .code yX3_readAboutTown cX3_readAboutTown 6 (some .boolean)
theorem wi_681 : ww_681 ∈ mj_tb := mj_t3 (i := 150) rfl rfl
abbrev ww_682 : Cond := .instanceMethod yX3_readAboutTown
theorem wi_682 : ww_682 ∈ mj_tb := mj_t3 (i := 149) rfl rfl
abbrev ww_683 : Cond := .selects RX3 yX3_readAboutTown yX3_readAboutTown
theorem wi_683 : ww_683 ∈ mj_tb := mj_q1 (i := 6) rfl rfl rfl
abbrev ww_684 : Cond := .code yX3_readBid cX3_readBid 5 (some .boolean)
theorem wi_684 : ww_684 ∈ mj_tb := mj_t3 (i := 122) rfl rfl
abbrev ww_685 : Cond := .instanceMethod yX3_readBid
theorem wi_685 : ww_685 ∈ mj_tb := mj_t3 (i := 121) rfl rfl
abbrev ww_686 : Cond := .selects RX3 yX3_readBid yX3_readBid
theorem wi_686 : ww_686 ∈ mj_tb := mj_q1 (i := 5) rfl rfl rfl
abbrev ww_687 : Cond := .code yX3_readFish cX3_readFish 2 (some .boolean)
theorem wi_687 : ww_687 ∈ mj_tb := mj_t3 (i := 164) rfl rfl
abbrev ww_688 : Cond := .instanceMethod yX3_readFish
theorem wi_688 : ww_688 ∈ mj_tb := mj_t3 (i := 163) rfl rfl
abbrev ww_689 : Cond := .selects RX3 yX3_readFish yX3_readFish
theorem wi_689 : ww_689 ∈ mj_tb := mj_q1 (i := 8) rfl rfl rfl
abbrev ww_690 : Cond := .code yX3_readMove cX3_readMove 2 (some .boolean)
theorem wi_690 : ww_690 ∈ mj_tb := mj_t3 (i := 158) rfl rfl
abbrev ww_691 : Cond := .instanceMethod yX3_readMove
theorem wi_691 : ww_691 ∈ mj_tb := mj_t3 (i := 157) rfl rfl
abbrev ww_692 : Cond := .selects RX3 yX3_readMove yX3_readMove
theorem wi_692 : ww_692 ∈ mj_tb := mj_q1 (i := 7) rfl rfl rfl
abbrev ww_693 : Cond := .code yX3_readPatience cX3_readPatience 2 (some .boolean)
theorem wi_693 : ww_693 ∈ mj_tb := mj_t3 (i := 170) rfl rfl
abbrev ww_694 : Cond := .instanceMethod yX3_readPatience
theorem wi_694 : ww_694 ∈ mj_tb := mj_t3 (i := 169) rfl rfl
abbrev ww_695 : Cond := .selects RX3 yX3_readPatience yX3_readPatience
theorem wi_695 : ww_695 ∈ mj_tb := mj_q1 (i := 9) rfl rfl rfl
abbrev ww_696 : Cond := .code yX3_readRow cX3_readRow 3 (some .boolean)
theorem wi_696 : ww_696 ∈ mj_tb := mj_t3 (i := 82) rfl rfl
abbrev ww_697 : Cond := .instanceMethod yX3_readRow
theorem wi_697 : ww_697 ∈ mj_tb := mj_t3 (i := 81) rfl rfl
abbrev ww_698 : Cond := .selects RX3 yX3_readRow yX3_readRow
theorem wi_698 : ww_698 ∈ mj_tb := mj_q1 (i := 1) rfl rfl rfl
abbrev ww_699 : Cond := .code yX3_readRows cX3_readRows 3 (some .int)
theorem wi_699 : ww_699 ∈ mj_tb := mj_t3 (i := 52) rfl rfl
abbrev ww_700 : Cond := .instanceMethod yX3_readRows
theorem wi_700 : ww_700 ∈ mj_tb := mj_t3 (i := 50) rfl rfl
abbrev ww_701 : Cond := .selects RX3 yX3_readRows yX3_readRows
theorem wi_701 : ww_701 ∈ mj_tb := mj_t3 (i := 51) rfl rfl
abbrev ww_702 : Cond := .code yX3_readTown cX3_readTown 5 (some .boolean)
theorem wi_702 : ww_702 ∈ mj_tb := mj_t3 (i := 92) rfl rfl
abbrev ww_703 : Cond := .instanceMethod yX3_readTown
theorem wi_703 : ww_703 ∈ mj_tb := mj_t3 (i := 91) rfl rfl
abbrev ww_704 : Cond := .selects RX3 yX3_readTown yX3_readTown
theorem wi_704 : ww_704 ∈ mj_tb := mj_q1 (i := 2) rfl rfl rfl
abbrev ww_705 : Cond := .code yX3_readWater cX3_readWater 4 (some .boolean)
theorem wi_705 : ww_705 ∈ mj_tb := mj_t3 (i := 116) rfl rfl
abbrev ww_706 : Cond := .instanceMethod yX3_readWater
theorem wi_706 : ww_706 ∈ mj_tb := mj_t3 (i := 115) rfl rfl
abbrev ww_707 : Cond := .selects RX3 yX3_readWater yX3_readWater
theorem wi_707 : ww_707 ∈ mj_tb := mj_q1 (i := 4) rfl rfl rfl
abbrev ww_708 : Cond := .code yX3_setBid cX3_setBid 4 none
theorem wi_708 : ww_708 ∈ mj_tb := mj_t3 (i := 134) rfl rfl
abbrev ww_709 : Cond := .instanceMethod yX3_setBid
theorem wi_709 : ww_709 ∈ mj_tb := mj_t3 (i := 132) rfl rfl
abbrev ww_710 : Cond := .selects RX3 yX3_setBid yX3_setBid
theorem wi_710 : ww_710 ∈ mj_tb := mj_t3 (i := 133) rfl rfl
abbrev ww_711 : Cond := .code yX3_townHere cX3_townHere 3 (some .int)
theorem wi_711 : ww_711 ∈ mj_tb := mj_t3 (i := 130) rfl rfl
abbrev ww_712 : Cond := .instanceMethod yX3_townHere
theorem wi_712 : ww_712 ∈ mj_tb := mj_t3 (i := 128) rfl rfl
abbrev ww_713 : Cond := .selects RX3 yX3_townHere yX3_townHere
theorem wi_713 : ww_713 ∈ mj_tb := mj_t3 (i := 129) rfl rfl
abbrev ww_714 : Cond := .code yX4_clear cX4_clear 2 none
theorem wi_714 : ww_714 ∈ mj_tb := mj_t4 (i := 230) rfl rfl
abbrev ww_715 : Cond := .instanceMethod yX4_clear
theorem wi_715 : ww_715 ∈ mj_tb := mj_t4 (i := 229) rfl rfl
abbrev ww_716 : Cond := .selects RX4 yX4_clear yX4_clear
theorem wi_716 : ww_716 ∈ mj_tb := mj_q3 (i := 8) rfl rfl rfl
abbrev ww_717 : Cond := .code yX4_init cX4_init 1 none
theorem wi_717 : ww_717 ∈ mj_tb := mj_t2 (i := 162) rfl rfl
abbrev ww_718 : Cond := .instanceMethod yX4_init
theorem wi_718 : ww_718 ∈ mj_tb := mj_t2 (i := 161) rfl rfl
abbrev ww_719 : Cond := .code yX4_priceNow cX4_priceNow 3 (some .int)
theorem wi_719 : ww_719 ∈ mj_tb := mj_t4 (i := 238) rfl rfl
abbrev ww_720 : Cond := .instanceMethod yX4_priceNow
theorem wi_720 : ww_720 ∈ mj_tb := mj_t4 (i := 237) rfl rfl
abbrev ww_721 : Cond := .selects RX4 yX4_priceNow yX4_priceNow
theorem wi_721 : ww_721 ∈ mj_tb := mj_q3 (i := 10) rfl rfl rfl
abbrev ww_722 : Cond := .code yX4_run cX4_run 6 (some .int)
theorem wi_722 : ww_722 ∈ mj_tb := mj_t4 (i := 226) rfl rfl
abbrev ww_723 : Cond := .instanceMethod yX4_run
theorem wi_723 : ww_723 ∈ mj_tb := mj_t4 (i := 224) rfl rfl
abbrev ww_724 : Cond := .selects RX4 yX4_run yX4_run
theorem wi_724 : ww_724 ∈ mj_tb := mj_t4 (i := 225) rfl rfl
abbrev ww_725 : Cond := .code yX4_takeBest cX4_takeBest 8 (some .boolean)
theorem wi_725 : ww_725 ∈ mj_tb := mj_t4 (i := 234) rfl rfl
abbrev ww_726 : Cond := .instanceMethod yX4_takeBest
theorem wi_726 : ww_726 ∈ mj_tb := mj_t4 (i := 233) rfl rfl
abbrev ww_727 : Cond := .selects RX4 yX4_takeBest yX4_takeBest
theorem wi_727 : ww_727 ∈ mj_tb := mj_q3 (i := 9) rfl rfl rfl
abbrev ww_728 : Cond := .code yX5_add cX5_add 4 (some .boolean)
theorem wi_728 : ww_728 ∈ mj_tb := mj_t5 (i := 194) rfl rfl
abbrev ww_729 : Cond := .instanceMethod yX5_add
theorem wi_729 : ww_729 ∈ mj_tb := mj_t5 (i := 193) rfl rfl
abbrev ww_730 : Cond := .selects RX5 yX5_add yX5_add
theorem wi_730 : ww_730 ∈ mj_tb := mj_q4 (i := 7) rfl rfl rfl
abbrev ww_731 : Cond := .code yX5_begins cX5_begins 1 (some .boolean)
theorem wi_731 : ww_731 ∈ mj_tb := mj_t5 (i := 161) rfl rfl
abbrev ww_732 : Cond := .static yX5_begins
theorem wi_732 : ww_732 ∈ mj_tb := mj_t5 (i := 160) rfl rfl
abbrev ww_733 : Cond := .code yX5_clear cX5_clear 1 none
theorem wi_733 : ww_733 ∈ mj_tb := mj_t3 (i := 187) rfl rfl
abbrev ww_734 : Cond := .instanceMethod yX5_clear
theorem wi_734 : ww_734 ∈ mj_tb := mj_t3 (i := 185) rfl rfl
abbrev ww_735 : Cond := .selects RX5 yX5_clear yX5_clear
theorem wi_735 : ww_735 ∈ mj_tb := mj_t3 (i := 186) rfl rfl
abbrev ww_736 : Cond := .code yX5_copy cX5_copy 3 none
theorem wi_736 : ww_736 ∈ mj_tb := mj_t5 (i := 235) rfl rfl
abbrev ww_737 : Cond := .instanceMethod yX5_copy
theorem wi_737 : ww_737 ∈ mj_tb := mj_t5 (i := 233) rfl rfl
abbrev ww_738 : Cond := .selects RX5 yX5_copy yX5_copy
theorem wi_738 : ww_738 ∈ mj_tb := mj_t5 (i := 234) rfl rfl
abbrev ww_739 : Cond := .code yX5_holds cX5_holds 7 (some .boolean)
theorem wi_739 : ww_739 ∈ mj_tb := mj_t5 (i := 212) rfl rfl
abbrev ww_740 : Cond := .instanceMethod yX5_holds
theorem wi_740 : ww_740 ∈ mj_tb := mj_t5 (i := 210) rfl rfl
abbrev ww_741 : Cond := .selects RX5 yX5_holds yX5_holds
theorem wi_741 : ww_741 ∈ mj_tb := mj_t5 (i := 211) rfl rfl
abbrev ww_742 : Cond := .code yX5_holdsOne cX5_holdsOne 8 (some .boolean)
theorem wi_742 : ww_742 ∈ mj_tb := mj_t5 (i := 216) rfl rfl
abbrev ww_743 : Cond := .instanceMethod yX5_holdsOne
theorem wi_743 : ww_743 ∈ mj_tb := mj_t5 (i := 215) rfl rfl
abbrev ww_744 : Cond := .selects RX5 yX5_holdsOne yX5_holdsOne
theorem wi_744 : ww_744 ∈ mj_tb := mj_q4 (i := 9) rfl rfl rfl
abbrev ww_745 : Cond := .code yX5_init cX5_init 1 none
theorem wi_745 : ww_745 ∈ mj_tb := mj_t1 (i := 204) rfl rfl
abbrev ww_746 : Cond := .instanceMethod yX5_init
theorem wi_746 : ww_746 ∈ mj_tb := mj_t1 (i := 203) rfl rfl
abbrev ww_747 : Cond := .code yX5_readAll cX5_readAll 4 (some .boolean)
theorem wi_747 : ww_747 ∈ mj_tb := mj_t5 (i := 153) rfl rfl
abbrev ww_748 : Cond := .instanceMethod yX5_readAll
theorem wi_748 : ww_748 ∈ mj_tb := mj_t5 (i := 152) rfl rfl
abbrev ww_749 : Cond := .selects RX5 yX5_readAll yX5_readAll
theorem wi_749 : ww_749 ∈ mj_tb := mj_q4 (i := 4) rfl rfl rfl
abbrev ww_750 : Cond := .code yX5_readClosing cX5_readClosing 2 (some .boolean)
theorem wi_750 : ww_750 ∈ mj_tb := mj_t5 (i := 190) rfl rfl
abbrev ww_751 : Cond := .instanceMethod yX5_readClosing
theorem wi_751 : ww_751 ∈ mj_tb := mj_t5 (i := 189) rfl rfl
abbrev ww_752 : Cond := .selects RX5 yX5_readClosing yX5_readClosing
theorem wi_752 : ww_752 ∈ mj_tb := mj_q4 (i := 6) rfl rfl rfl
abbrev ww_753 : Cond := .code yX5_readCond cX5_readCond 4 (some .boolean)
theorem wi_753 : ww_753 ∈ mj_tb := mj_t5 (i := 149) rfl rfl
abbrev ww_754 : Cond := .instanceMethod yX5_readCond
theorem wi_754 : ww_754 ∈ mj_tb := mj_t5 (i := 148) rfl rfl
abbrev ww_755 : Cond := .selects RX5 yX5_readCond yX5_readCond
theorem wi_755 : ww_755 ∈ mj_tb := mj_q4 (i := 3) rfl rfl rfl
abbrev ww_756 : Cond := .code yX5_readMeasure cX5_readMeasure 5 (some .boolean)
theorem wi_756 : ww_756 ∈ mj_tb := mj_t5 (i := 198) rfl rfl
abbrev ww_757 : Cond := .instanceMethod yX5_readMeasure
theorem wi_757 : ww_757 ∈ mj_tb := mj_t5 (i := 197) rfl rfl
abbrev ww_758 : Cond := .selects RX5 yX5_readMeasure yX5_readMeasure
theorem wi_758 : ww_758 ∈ mj_tb := mj_q4 (i := 8) rfl rfl rfl
abbrev ww_759 : Cond := .code yX5_readOne cX5_readOne 5 (some .boolean)
theorem wi_759 : ww_759 ∈ mj_tb := mj_t5 (i := 157) rfl rfl
abbrev ww_760 : Cond := .instanceMethod yX5_readOne
theorem wi_760 : ww_760 ∈ mj_tb := mj_t5 (i := 156) rfl rfl
abbrev ww_761 : Cond := .selects RX5 yX5_readOne yX5_readOne
theorem wi_761 : ww_761 ∈ mj_tb := mj_q4 (i := 5) rfl rfl rfl
abbrev ww_762 : Cond := .code yX5_readText cX5_readText 2 none
theorem wi_762 : ww_762 ∈ mj_tb := mj_t5 (i := 144) rfl rfl
abbrev ww_763 : Cond := .instanceMethod yX5_readText
theorem wi_763 : ww_763 ∈ mj_tb := mj_t5 (i := 142) rfl rfl
abbrev ww_764 : Cond := .selects RX5 yX5_readText yX5_readText
theorem wi_764 : ww_764 ∈ mj_tb := mj_t5 (i := 143) rfl rfl
abbrev ww_765 : Cond := .code yX6_copy cX6_copy 2 none
theorem wi_765 : ww_765 ∈ mj_tb := mj_t5 (i := 225) rfl rfl
abbrev ww_766 : Cond := .instanceMethod yX6_copy
theorem wi_766 : ww_766 ∈ mj_tb := mj_t5 (i := 223) rfl rfl
abbrev ww_767 : Cond := .selects RX6 yX6_copy yX6_copy
theorem wi_767 : ww_767 ∈ mj_tb := mj_t5 (i := 224) rfl rfl
abbrev ww_768 : Cond := .code yX6_init cX6_init 1 none
theorem wi_768 : ww_768 ∈ mj_tb := mj_t1 (i := 88) rfl rfl
abbrev ww_769 : Cond := .instanceMethod yX6_init
theorem wi_769 : ww_769 ∈ mj_tb := mj_t1 (i := 87) rfl rfl
abbrev ww_770 : Cond := .code yX7_advance cX7_advance 2 none
theorem wi_770 : ww_770 ∈ mj_tb := mj_t3 (i := 56) rfl rfl
abbrev ww_771 : Cond := .instanceMethod yX7_advance
theorem wi_771 : ww_771 ∈ mj_tb := mj_t3 (i := 54) rfl rfl
abbrev ww_772 : Cond := .selects RX7 yX7_advance yX7_advance
theorem wi_772 : ww_772 ∈ mj_tb := mj_t3 (i := 55) rfl rfl
abbrev ww_773 : Cond := .code yX7_finish cX7_finish 1 (some .boolean)
theorem wi_773 : ww_773 ∈ mj_tb := mj_t3 (i := 182) rfl rfl
abbrev ww_774 : Cond := .instanceMethod yX7_finish
theorem wi_774 : ww_774 ∈ mj_tb := mj_t3 (i := 180) rfl rfl
abbrev ww_775 : Cond := .selects RX7 yX7_finish yX7_finish
theorem wi_775 : ww_775 ∈ mj_tb := mj_t3 (i := 181) rfl rfl
abbrev ww_776 : Cond := .code yX7_hasRoom cX7_hasRoom 1 (some .boolean)
theorem wi_776 : ww_776 ∈ mj_tb := mj_t3 (i := 28) rfl rfl
abbrev ww_777 : Cond := .instanceMethod yX7_hasRoom
theorem wi_777 : ww_777 ∈ mj_tb := mj_t3 (i := 26) rfl rfl
abbrev ww_778 : Cond := .selects RX7 yX7_hasRoom yX7_hasRoom
theorem wi_778 : ww_778 ∈ mj_tb := mj_t3 (i := 27) rfl rfl
abbrev ww_779 : Cond := .code yX7_init cX7_init 1 none
theorem wi_779 : ww_779 ∈ mj_tb := mj_t1 (i := 33) rfl rfl
abbrev ww_780 : Cond := .instanceMethod yX7_init
theorem wi_780 : ww_780 ∈ mj_tb := mj_t1 (i := 32) rfl rfl
abbrev ww_781 : Cond := .code yX7_isDigit cX7_isDigit 1 (some .boolean)
theorem wi_781 : ww_781 ∈ mj_tb := mj_t3 (i := 69) rfl rfl
abbrev ww_782 : Cond := .static yX7_isDigit
theorem wi_782 : ww_782 ∈ mj_tb := mj_t3 (i := 68) rfl rfl
abbrev ww_783 : Cond := .code yX7_isLetter cX7_isLetter 1 (some .boolean)
theorem wi_783 : ww_783 ∈ mj_tb := mj_t3 (i := 66) rfl rfl
abbrev ww_784 : Cond := .static yX7_isLetter
theorem wi_784 : ww_784 ∈ mj_tb := mj_t3 (i := 65) rfl rfl
abbrev ww_785 : Cond := .code yX7_isSign cX7_isSign 2 (some .boolean)
theorem wi_785 : ww_785 ∈ mj_tb := mj_t3 (i := 178) rfl rfl
abbrev ww_786 : Cond := .instanceMethod yX7_isSign
theorem wi_786 : ww_786 ∈ mj_tb := mj_t3 (i := 176) rfl rfl
abbrev ww_787 : Cond := .selects RX7 yX7_isSign yX7_isSign
theorem wi_787 : ww_787 ∈ mj_tb := mj_t3 (i := 177) rfl rfl
abbrev ww_788 : Cond := .code yX7_nameHere cX7_nameHere 1 (some .boolean)
theorem wi_788 : ww_788 ∈ mj_tb := mj_t3 (i := 96) rfl rfl
abbrev ww_789 : Cond := .instanceMethod yX7_nameHere
theorem wi_789 : ww_789 ∈ mj_tb := mj_t3 (i := 94) rfl rfl
abbrev ww_790 : Cond := .selects RX7 yX7_nameHere yX7_nameHere
theorem wi_790 : ww_790 ∈ mj_tb := mj_t3 (i := 95) rfl rfl
abbrev ww_791 : Cond := .code yX7_nextNumber cX7_nextNumber 3 (some .int)
theorem wi_791 : ww_791 ∈ mj_tb := mj_t3 (i := 105) rfl rfl
abbrev ww_792 : Cond := .instanceMethod yX7_nextNumber
theorem wi_792 : ww_792 ∈ mj_tb := mj_t3 (i := 103) rfl rfl
abbrev ww_793 : Cond := .selects RX7 yX7_nextNumber yX7_nextNumber
theorem wi_793 : ww_793 ∈ mj_tb := mj_t3 (i := 104) rfl rfl
abbrev ww_794 : Cond := .code yX7_nextSign cX7_nextSign 2 (some .boolean)
theorem wi_794 : ww_794 ∈ mj_tb := mj_t3 (i := 174) rfl rfl
abbrev ww_795 : Cond := .instanceMethod yX7_nextSign
theorem wi_795 : ww_795 ∈ mj_tb := mj_t3 (i := 172) rfl rfl
abbrev ww_796 : Cond := .selects RX7 yX7_nextSign yX7_nextSign
theorem wi_796 : ww_796 ∈ mj_tb := mj_t3 (i := 173) rfl rfl
abbrev ww_797 : Cond := .code yX7_numberHere cX7_numberHere 3 (some .int)
theorem wi_797 : ww_797 ∈ mj_tb := mj_t3 (i := 110) rfl rfl
abbrev ww_798 : Cond := .instanceMethod yX7_numberHere
theorem wi_798 : ww_798 ∈ mj_tb := mj_t3 (i := 108) rfl rfl
abbrev ww_799 : Cond := .selects RX7 yX7_numberHere yX7_numberHere
theorem wi_799 : ww_799 ∈ mj_tb := mj_t3 (i := 109) rfl rfl
abbrev ww_800 : Cond := .code yX7_open cX7_open 2 none
theorem wi_800 : ww_800 ∈ mj_tb := mj_t3 (i := 48) rfl rfl
abbrev ww_801 : Cond := .instanceMethod yX7_open
theorem wi_801 : ww_801 ∈ mj_tb := mj_t3 (i := 46) rfl rfl
abbrev ww_802 : Cond := .selects RX7 yX7_open yX7_open
theorem wi_802 : ww_802 ∈ mj_tb := mj_t3 (i := 47) rfl rfl
abbrev ww_803 : Cond := .code yX7_put cX7_put 3 none
theorem wi_803 : ww_803 ∈ mj_tb := mj_t3 (i := 32) rfl rfl
abbrev ww_804 : Cond := .instanceMethod yX7_put
theorem wi_804 : ww_804 ∈ mj_tb := mj_t3 (i := 30) rfl rfl
abbrev ww_805 : Cond := .selects RX7 yX7_put yX7_put
theorem wi_805 : ww_805 ∈ mj_tb := mj_t3 (i := 31) rfl rfl
abbrev ww_806 : Cond := .code yX7_readRun cX7_readRun 4 none
theorem wi_806 : ww_806 ∈ mj_tb := mj_t3 (i := 73) rfl rfl
abbrev ww_807 : Cond := .instanceMethod yX7_readRun
theorem wi_807 : ww_807 ∈ mj_tb := mj_t3 (i := 72) rfl rfl
abbrev ww_808 : Cond := .selects RX7 yX7_readRun yX7_readRun
theorem wi_808 : ww_808 ∈ mj_tb := mj_q1 (i := 0) rfl rfl rfl
abbrev ww_809 : Cond := .code yX7_refuse cX7_refuse 2 (some .boolean)
theorem wi_809 : ww_809 ∈ mj_tb := mj_t3 (i := 86) rfl rfl
abbrev ww_810 : Cond := .instanceMethod yX7_refuse
theorem wi_810 : ww_810 ∈ mj_tb := mj_t3 (i := 84) rfl rfl
abbrev ww_811 : Cond := .selects RX7 yX7_refuse yX7_refuse
theorem wi_811 : ww_811 ∈ mj_tb := mj_t3 (i := 85) rfl rfl
abbrev ww_812 : Cond := .code yX7_valueAt cX7_valueAt 2 (some .int)
theorem wi_812 : ww_812 ∈ mj_tb := mj_t3 (i := 63) rfl rfl
abbrev ww_813 : Cond := .instanceMethod yX7_valueAt
theorem wi_813 : ww_813 ∈ mj_tb := mj_t3 (i := 61) rfl rfl
abbrev ww_814 : Cond := .selects RX7 yX7_valueAt yX7_valueAt
theorem wi_814 : ww_814 ∈ mj_tb := mj_t3 (i := 62) rfl rfl
abbrev ww_815 : Cond := .code yX8_back cX8_back 2 (some .int)
theorem wi_815 : ww_815 ∈ mj_tb := mj_t3 (i := 226) rfl rfl
abbrev ww_816 : Cond := .instanceMethod yX8_back
theorem wi_816 : ww_816 ∈ mj_tb := mj_t3 (i := 224) rfl rfl
abbrev ww_817 : Cond := .selects RX8 yX8_back yX8_back
theorem wi_817 : ww_817 ∈ mj_tb := mj_t3 (i := 225) rfl rfl
abbrev ww_818 : Cond := .code yX8_init cX8_init 1 none
theorem wi_818 : ww_818 ∈ mj_tb := mj_t2 (i := 74) rfl rfl
abbrev ww_819 : Cond := .instanceMethod yX8_init
theorem wi_819 : ww_819 ∈ mj_tb := mj_t2 (i := 73) rfl rfl
abbrev ww_820 : Cond := .code yX8_keep cX8_keep 4 none
theorem wi_820 : ww_820 ∈ mj_tb := mj_t3 (i := 214) rfl rfl
abbrev ww_821 : Cond := .instanceMethod yX8_keep
theorem wi_821 : ww_821 ∈ mj_tb := mj_t3 (i := 212) rfl rfl
abbrev ww_822 : Cond := .selects RX8 yX8_keep yX8_keep
theorem wi_822 : ww_822 ∈ mj_tb := mj_t3 (i := 213) rfl rfl
abbrev ww_823 : Cond := .code yX10_bridgeTo cX10_bridgeTo 5 (some .int)
theorem wi_823 : ww_823 ∈ mj_tb := mj_t4 (i := 84) rfl rfl
abbrev ww_824 : Cond := .instanceMethod yX10_bridgeTo
theorem wi_824 : ww_824 ∈ mj_tb := mj_t4 (i := 83) rfl rfl
abbrev ww_825 : Cond := .selects RX10 yX10_bridgeTo yX10_bridgeTo
theorem wi_825 : ww_825 ∈ mj_tb := mj_q2 (i := 2) rfl rfl rfl
abbrev ww_826 : Cond := .code yX10_canPay cX10_canPay 3 (some .boolean)
theorem wi_826 : ww_826 ∈ mj_tb := mj_t4 (i := 61) rfl rfl
abbrev ww_827 : Cond := .instanceMethod yX10_canPay
theorem wi_827 : ww_827 ∈ mj_tb := mj_t4 (i := 59) rfl rfl
abbrev ww_828 : Cond := .selects RX10 yX10_canPay yX10_canPay
theorem wi_828 : ww_828 ∈ mj_tb := mj_t4 (i := 60) rfl rfl
abbrev ww_829 : Cond := .code yX10_copy cX10_copy 3 none
theorem wi_829 : ww_829 ∈ mj_tb := mj_t5 (i := 28) rfl rfl
abbrev ww_830 : Cond := .instanceMethod yX10_copy
theorem wi_830 : ww_830 ∈ mj_tb := mj_t5 (i := 26) rfl rfl
abbrev ww_831 : Cond := .selects RX10 yX10_copy yX10_copy
theorem wi_831 : ww_831 ∈ mj_tb := mj_t5 (i := 27) rfl rfl
abbrev ww_832 : Cond := .code yX10_draw cX10_draw 6 none
theorem wi_832 : ww_832 ∈ mj_tb := mj_t5 (i := 122) rfl rfl
abbrev ww_833 : Cond := .instanceMethod yX10_draw
theorem wi_833 : ww_833 ∈ mj_tb := mj_t5 (i := 120) rfl rfl
abbrev ww_834 : Cond := .selects RX10 yX10_draw yX10_draw
theorem wi_834 : ww_834 ∈ mj_tb := mj_t5 (i := 121) rfl rfl
abbrev ww_835 : Cond := .code yX10_drink cX10_drink 6 none
theorem wi_835 : ww_835 ∈ mj_tb := mj_t4 (i := 100) rfl rfl
abbrev ww_836 : Cond := .instanceMethod yX10_drink
theorem wi_836 : ww_836 ∈ mj_tb := mj_t4 (i := 99) rfl rfl
abbrev ww_837 : Cond := .selects RX10 yX10_drink yX10_drink
theorem wi_837 : ww_837 ∈ mj_tb := mj_q2 (i := 5) rfl rfl rfl
abbrev ww_838 : Cond := .code yX10_goOn cX10_goOn 5 none
theorem wi_838 : ww_838 ∈ mj_tb := mj_t4 (i := 48) rfl rfl
abbrev ww_839 : Cond := .instanceMethod yX10_goOn
theorem wi_839 : ww_839 ∈ mj_tb := mj_t4 (i := 46) rfl rfl
abbrev ww_840 : Cond := .selects RX10 yX10_goOn yX10_goOn
theorem wi_840 : ww_840 ∈ mj_tb := mj_t4 (i := 47) rfl rfl
abbrev ww_841 : Cond := .code yX10_harvest cX10_harvest 3 none
theorem wi_841 : ww_841 ∈ mj_tb := mj_t4 (i := 108) rfl rfl
abbrev ww_842 : Cond := .instanceMethod yX10_harvest
theorem wi_842 : ww_842 ∈ mj_tb := mj_t4 (i := 107) rfl rfl
abbrev ww_843 : Cond := .selects RX10 yX10_harvest yX10_harvest
theorem wi_843 : ww_843 ∈ mj_tb := mj_q2 (i := 7) rfl rfl rfl
abbrev ww_844 : Cond := .code yX10_inPonds cX10_inPonds 3 (some .int)
theorem wi_844 : ww_844 ∈ mj_tb := mj_t4 (i := 120) rfl rfl
abbrev ww_845 : Cond := .instanceMethod yX10_inPonds
theorem wi_845 : ww_845 ∈ mj_tb := mj_t4 (i := 119) rfl rfl
abbrev ww_846 : Cond := .selects RX10 yX10_inPonds yX10_inPonds
theorem wi_846 : ww_846 ∈ mj_tb := mj_q2 (i := 8) rfl rfl rfl
abbrev ww_847 : Cond := .code yX10_init cX10_init 1 none
theorem wi_847 : ww_847 ∈ mj_tb := mj_t1 (i := 233) rfl rfl
abbrev ww_848 : Cond := .instanceMethod yX10_init
theorem wi_848 : ww_848 ∈ mj_tb := mj_t1 (i := 232) rfl rfl
abbrev ww_849 : Cond := .code yX10_lacks cX10_lacks 3 (some .boolean)
theorem wi_849 : ww_849 ∈ mj_tb := mj_t5 (i := 75) rfl rfl
abbrev ww_850 : Cond := .instanceMethod yX10_lacks
theorem wi_850 : ww_850 ∈ mj_tb := mj_t5 (i := 73) rfl rfl
abbrev ww_851 : Cond := .selects RX10 yX10_lacks yX10_lacks
theorem wi_851 : ww_851 ∈ mj_tb := mj_t5 (i := 74) rfl rfl
abbrev ww_852 : Cond := .code yX10_leakFrom cX10_leakFrom 3 none
theorem wi_852 : ww_852 ∈ mj_tb := mj_t5 (i := 34) rfl rfl
abbrev ww_853 : Cond := .instanceMethod yX10_leakFrom
theorem wi_853 : ww_853 ∈ mj_tb := mj_t5 (i := 32) rfl rfl
abbrev ww_854 : Cond := .selects RX10 yX10_leakFrom yX10_leakFrom
theorem wi_854 : ww_854 ∈ mj_tb := mj_t5 (i := 33) rfl rfl
abbrev ww_855 : Cond := .code yX10_leastBid cX10_leastBid 7 (some .int)
theorem wi_855 : ww_855 ∈ mj_tb := mj_t5 (i := 136) rfl rfl
abbrev ww_856 : Cond := .instanceMethod yX10_leastBid
theorem wi_856 : ww_856 ∈ mj_tb := mj_t5 (i := 134) rfl rfl
abbrev ww_857 : Cond := .selects RX10 yX10_leastBid yX10_leastBid
theorem wi_857 : ww_857 ∈ mj_tb := mj_t5 (i := 135) rfl rfl
abbrev ww_858 : Cond := .code yX10_letByBids cX10_letByBids 6 none
theorem wi_858 : ww_858 ∈ mj_tb := mj_t4 (i := 69) rfl rfl
abbrev ww_859 : Cond := .instanceMethod yX10_letByBids
theorem wi_859 : ww_859 ∈ mj_tb := mj_t4 (i := 68) rfl rfl
abbrev ww_860 : Cond := .selects RX10 yX10_letByBids yX10_letByBids
theorem wi_860 : ww_860 ∈ mj_tb := mj_q2 (i := 0) rfl rfl rfl
abbrev ww_861 : Cond := .code yX10_letByContract cX10_letByContract 7 none
theorem wi_861 : ww_861 ∈ mj_tb := mj_t4 (i := 57) rfl rfl
abbrev ww_862 : Cond := .instanceMethod yX10_letByContract
theorem wi_862 : ww_862 ∈ mj_tb := mj_t4 (i := 56) rfl rfl
abbrev ww_863 : Cond := .selects RX10 yX10_letByContract yX10_letByContract
theorem wi_863 : ww_863 ∈ mj_tb := mj_q1 (i := 14) rfl rfl rfl
abbrev ww_864 : Cond := .code yX10_moveRiver cX10_moveRiver 5 none
theorem wi_864 : ww_864 ∈ mj_tb := mj_t4 (i := 73) rfl rfl
abbrev ww_865 : Cond := .instanceMethod yX10_moveRiver
theorem wi_865 : ww_865 ∈ mj_tb := mj_t4 (i := 72) rfl rfl
abbrev ww_866 : Cond := .selects RX10 yX10_moveRiver yX10_moveRiver
theorem wi_866 : ww_866 ∈ mj_tb := mj_q2 (i := 1) rfl rfl rfl
abbrev ww_867 : Cond := .code yX10_nextMonth cX10_nextMonth 5 none
theorem wi_867 : ww_867 ∈ mj_tb := mj_t4 (i := 52) rfl rfl
abbrev ww_868 : Cond := .instanceMethod yX10_nextMonth
theorem wi_868 : ww_868 ∈ mj_tb := mj_t4 (i := 50) rfl rfl
abbrev ww_869 : Cond := .selects RX10 yX10_nextMonth yX10_nextMonth
theorem wi_869 : ww_869 ∈ mj_tb := mj_t4 (i := 51) rfl rfl
abbrev ww_870 : Cond := .code yX10_number cX10_number 2 (some .int)
theorem wi_870 : ww_870 ∈ mj_tb := mj_t4 (i := 116) rfl rfl
abbrev ww_871 : Cond := .instanceMethod yX10_number
theorem wi_871 : ww_871 ∈ mj_tb := mj_t4 (i := 114) rfl rfl
abbrev ww_872 : Cond := .selects RX10 yX10_number yX10_number
theorem wi_872 : ww_872 ∈ mj_tb := mj_t4 (i := 115) rfl rfl
abbrev ww_873 : Cond := .code yX10_pay cX10_pay 3 none
theorem wi_873 : ww_873 ∈ mj_tb := mj_t4 (i := 65) rfl rfl
abbrev ww_874 : Cond := .instanceMethod yX10_pay
theorem wi_874 : ww_874 ∈ mj_tb := mj_t4 (i := 64) rfl rfl
abbrev ww_875 : Cond := .selects RX10 yX10_pay yX10_pay
theorem wi_875 : ww_875 ∈ mj_tb := mj_q1 (i := 15) rfl rfl rfl
abbrev ww_876 : Cond := .code yX10_pour cX10_pour 6 none
theorem wi_876 : ww_876 ∈ mj_tb := mj_t4 (i := 91) rfl rfl
abbrev ww_877 : Cond := .instanceMethod yX10_pour
theorem wi_877 : ww_877 ∈ mj_tb := mj_t4 (i := 90) rfl rfl
abbrev ww_878 : Cond := .selects RX10 yX10_pour yX10_pour
theorem wi_878 : ww_878 ∈ mj_tb := mj_q2 (i := 3) rfl rfl rfl
abbrev ww_879 : Cond := .code yX10_pourTo cX10_pourTo 8 none
theorem wi_879 : ww_879 ∈ mj_tb := mj_t4 (i := 95) rfl rfl
abbrev ww_880 : Cond := .instanceMethod yX10_pourTo
theorem wi_880 : ww_880 ∈ mj_tb := mj_t4 (i := 94) rfl rfl
abbrev ww_881 : Cond := .selects RX10 yX10_pourTo yX10_pourTo
theorem wi_881 : ww_881 ∈ mj_tb := mj_q2 (i := 4) rfl rfl rfl
abbrev ww_882 : Cond := .code yX10_start cX10_start 4 none
theorem wi_882 : ww_882 ∈ mj_tb := mj_t4 (i := 40) rfl rfl
abbrev ww_883 : Cond := .instanceMethod yX10_start
theorem wi_883 : ww_883 ∈ mj_tb := mj_t4 (i := 38) rfl rfl
abbrev ww_884 : Cond := .selects RX10 yX10_start yX10_start
theorem wi_884 : ww_884 ∈ mj_tb := mj_t4 (i := 39) rfl rfl
abbrev ww_885 : Cond := .code yX10_waterField cX10_waterField 5 none
theorem wi_885 : ww_885 ∈ mj_tb := mj_t4 (i := 104) rfl rfl
abbrev ww_886 : Cond := .instanceMethod yX10_waterField
theorem wi_886 : ww_886 ∈ mj_tb := mj_t4 (i := 103) rfl rfl
abbrev ww_887 : Cond := .selects RX10 yX10_waterField yX10_waterField
theorem wi_887 : ww_887 ∈ mj_tb := mj_q2 (i := 6) rfl rfl rfl
abbrev ww_888 : Cond := .code yX11_begin cX11_begin 1 (some .boolean)
theorem wi_888 : ww_888 ∈ mj_tb := mj_t4 (i := 36) rfl rfl
abbrev ww_889 : Cond := .initialized RX11
theorem wi_889 : ww_889 ∈ mj_tb := mj_t1 (i := 1) rfl rfl
abbrev ww_890 : Cond := .instanceMethod yX11_begin
theorem wi_890 : ww_890 ∈ mj_tb := mj_t4 (i := 34) rfl rfl
abbrev ww_891 : Cond := .selects RX11 yX11_begin yX11_begin
theorem wi_891 : ww_891 ∈ mj_tb := mj_t4 (i := 35) rfl rfl
abbrev ww_892 : Cond := .code yX11_bid cX11_bid 3 (some .int)
theorem wi_892 : ww_892 ∈ mj_tb := mj_t3 (i := 199) rfl rfl
abbrev ww_893 : Cond := .instanceMethod yX11_bid
theorem wi_893 : ww_893 ∈ mj_tb := mj_t3 (i := 197) rfl rfl
abbrev ww_894 : Cond := .selects RX11 yX11_bid yX11_bid
theorem wi_894 : ww_894 ∈ mj_tb := mj_t3 (i := 198) rfl rfl
abbrev ww_895 : Cond := .code yX11_bidsOf cX11_bidsOf 4 (some .int)
theorem wi_895 : ww_895 ∈ mj_tb := mj_t5 (i := 79) rfl rfl
abbrev ww_896 : Cond := .instanceMethod yX11_bidsOf
theorem wi_896 : ww_896 ∈ mj_tb := mj_t5 (i := 77) rfl rfl
abbrev ww_897 : Cond := .selects RX11 yX11_bidsOf yX11_bidsOf
theorem wi_897 : ww_897 ∈ mj_tb := mj_t5 (i := 78) rfl rfl
abbrev ww_898 : Cond := .code yX11_byteAt cX11_byteAt 2 (some .int)
theorem wi_898 : ww_898 ∈ mj_tb := mj_t5 (i := 105) rfl rfl
abbrev ww_899 : Cond := .instanceMethod yX11_byteAt
theorem wi_899 : ww_899 ∈ mj_tb := mj_t5 (i := 103) rfl rfl
abbrev ww_900 : Cond := .selects RX11 yX11_byteAt yX11_byteAt
theorem wi_900 : ww_900 ∈ mj_tb := mj_t5 (i := 104) rfl rfl
abbrev ww_901 : Cond := .code yX11_cheapest cX11_cheapest 1 (some .int)
theorem wi_901 : ww_901 ∈ mj_tb := mj_t4 (i := 136) rfl rfl
abbrev ww_902 : Cond := .instanceMethod yX11_cheapest
theorem wi_902 : ww_902 ∈ mj_tb := mj_t4 (i := 134) rfl rfl
abbrev ww_903 : Cond := .selects RX11 yX11_cheapest yX11_cheapest
theorem wi_903 : ww_903 ∈ mj_tb := mj_t4 (i := 135) rfl rfl
abbrev ww_904 : Cond := .code yX11_closeTape cX11_closeTape 2 (some .int)
theorem wi_904 : ww_904 ∈ mj_tb := mj_t3 (i := 191) rfl rfl
abbrev ww_905 : Cond := .instanceMethod yX11_closeTape
theorem wi_905 : ww_905 ∈ mj_tb := mj_t3 (i := 190) rfl rfl
abbrev ww_906 : Cond := .selects RX11 yX11_closeTape yX11_closeTape
theorem wi_906 : ww_906 ∈ mj_tb := mj_q1 (i := 10) rfl rfl rfl
abbrev ww_907 : Cond := .code yX11_contract cX11_contract 3 (some .int)
theorem wi_907 : ww_907 ∈ mj_tb := mj_t4 (i := 31) rfl rfl
abbrev ww_908 : Cond := .instanceMethod yX11_contract
theorem wi_908 : ww_908 ∈ mj_tb := mj_t4 (i := 29) rfl rfl
abbrev ww_909 : Cond := .selects RX11 yX11_contract yX11_contract
theorem wi_909 : ww_909 ∈ mj_tb := mj_t4 (i := 30) rfl rfl
abbrev ww_910 : Cond := .code yX11_contracts cX11_contracts 2 (some .int)
theorem wi_910 : ww_910 ∈ mj_tb := mj_t3 (i := 235) rfl rfl
abbrev ww_911 : Cond := .instanceMethod yX11_contracts
theorem wi_911 : ww_911 ∈ mj_tb := mj_t3 (i := 233) rfl rfl
abbrev ww_912 : Cond := .selects RX11 yX11_contracts yX11_contracts
theorem wi_912 : ww_912 ∈ mj_tb := mj_t3 (i := 234) rfl rfl
abbrev ww_913 : Cond := .code yX11_count cX11_count 2 (some .int)
theorem wi_913 : ww_913 ∈ mj_tb := mj_t6 (i := 4) rfl rfl
abbrev ww_914 : Cond := .instanceMethod yX11_count
theorem wi_914 : ww_914 ∈ mj_tb := mj_t6 (i := 2) rfl rfl
abbrev ww_915 : Cond := .selects RX11 yX11_count yX11_count
theorem wi_915 : ww_915 ∈ mj_tb := mj_t6 (i := 3) rfl rfl
abbrev ww_916 : Cond := .code yX11_drawn cX11_drawn 2 (some .int)
theorem wi_916 : ww_916 ∈ mj_tb := mj_t5 (i := 118) rfl rfl
abbrev ww_917 : Cond := .instanceMethod yX11_drawn
theorem wi_917 : ww_917 ∈ mj_tb := mj_t5 (i := 116) rfl rfl
abbrev ww_918 : Cond := .selects RX11 yX11_drawn yX11_drawn
theorem wi_918 : ww_918 ∈ mj_tb := mj_t5 (i := 117) rfl rfl
abbrev ww_919 : Cond := .code yX11_droughts cX11_droughts 3 (some .int)
theorem wi_919 : ww_919 ∈ mj_tb := mj_t4 (i := 132) rfl rfl
abbrev ww_920 : Cond := .instanceMethod yX11_droughts
theorem wi_920 : ww_920 ∈ mj_tb := mj_t4 (i := 130) rfl rfl
abbrev ww_921 : Cond := .selects RX11 yX11_droughts yX11_droughts
theorem wi_921 : ww_921 ∈ mj_tb := mj_t4 (i := 131) rfl rfl
abbrev ww_922 : Cond := .code yX11_end cX11_end 2 (some .boolean)
theorem wi_922 : ww_922 ∈ mj_tb := mj_t3 (i := 36) rfl rfl
abbrev ww_923 : Cond := .instanceMethod yX11_end
theorem wi_923 : ww_923 ∈ mj_tb := mj_t3 (i := 34) rfl rfl
abbrev ww_924 : Cond := .selects RX11 yX11_end yX11_end
theorem wi_924 : ww_924 ∈ mj_tb := mj_t3 (i := 35) rfl rfl
abbrev ww_925 : Cond := .code yX11_enough cX11_enough 6 (some .int)
theorem wi_925 : ww_925 ∈ mj_tb := mj_t5 (i := 54) rfl rfl
abbrev ww_926 : Cond := .instanceMethod yX11_enough
theorem wi_926 : ww_926 ∈ mj_tb := mj_t5 (i := 52) rfl rfl
abbrev ww_927 : Cond := .selects RX11 yX11_enough yX11_enough
theorem wi_927 : ww_927 ∈ mj_tb := mj_t5 (i := 53) rfl rfl
abbrev ww_928 : Cond := .code yX11_fault cX11_fault 1 (some .int)
theorem wi_928 : ww_928 ∈ mj_tb := mj_t3 (i := 195) rfl rfl
abbrev ww_929 : Cond := .instanceMethod yX11_fault
theorem wi_929 : ww_929 ∈ mj_tb := mj_t3 (i := 193) rfl rfl
abbrev ww_930 : Cond := .selects RX11 yX11_fault yX11_fault
theorem wi_930 : ww_930 ∈ mj_tb := mj_t3 (i := 194) rfl rfl
abbrev ww_931 : Cond := .code yX11_feed cX11_feed 6 (some .int)
theorem wi_931 : ww_931 ∈ mj_tb := mj_t3 (i := 24) rfl rfl
abbrev ww_932 : Cond := .instanceMethod yX11_feed
theorem wi_932 : ww_932 ∈ mj_tb := mj_t3 (i := 22) rfl rfl
abbrev ww_933 : Cond := .selects RX11 yX11_feed yX11_feed
theorem wi_933 : ww_933 ∈ mj_tb := mj_t3 (i := 23) rfl rfl
abbrev ww_934 : Cond := .code yX11_greatest cX11_greatest 5 (some .int)
theorem wi_934 : ww_934 ∈ mj_tb := mj_t5 (i := 83) rfl rfl
abbrev ww_935 : Cond := .instanceMethod yX11_greatest
theorem wi_935 : ww_935 ∈ mj_tb := mj_t5 (i := 81) rfl rfl
abbrev ww_936 : Cond := .selects RX11 yX11_greatest yX11_greatest
theorem wi_936 : ww_936 ∈ mj_tb := mj_t5 (i := 82) rfl rfl
abbrev ww_937 : Cond := .code yX11_has cX11_has 2 (some .int)
theorem wi_937 : ww_937 ∈ mj_tb := mj_t5 (i := 2) rfl rfl
abbrev ww_938 : Cond := .instanceMethod yX11_has
theorem wi_938 : ww_938 ∈ mj_tb := mj_t5 (i := 0) rfl rfl
abbrev ww_939 : Cond := .selects RX11 yX11_has yX11_has
theorem wi_939 : ww_939 ∈ mj_tb := mj_t5 (i := 1) rfl rfl
abbrev ww_940 : Cond := .code yX11_image cX11_image 2 (some .boolean)
theorem wi_940 : ww_940 ∈ mj_tb := mj_t5 (i := 221) rfl rfl
abbrev ww_941 : Cond := .instanceMethod yX11_image
theorem wi_941 : ww_941 ∈ mj_tb := mj_t5 (i := 219) rfl rfl
abbrev ww_942 : Cond := .selects RX11 yX11_image yX11_image
theorem wi_942 : ww_942 ∈ mj_tb := mj_t5 (i := 220) rfl rfl
abbrev ww_943 : Cond := .code yX11_init cX11_init 2 none
theorem wi_943 : ww_943 ∈ mj_tb := mj_t1 (i := 25) rfl rfl
abbrev ww_944 : Cond := .instanceMethod yX11_init
theorem wi_944 : ww_944 ∈ mj_tb := mj_t1 (i := 24) rfl rfl
abbrev ww_945 : Cond := .code yX11_isMonth cX11_isMonth 1 (some .boolean)
theorem wi_945 : ww_945 ∈ mj_tb := mj_t3 (i := 206) rfl rfl
abbrev ww_946 : Cond := .static yX11_isMonth
theorem wi_946 : ww_946 ∈ mj_tb := mj_t3 (i := 205) rfl rfl
abbrev ww_947 : Cond := .code yX11_isTown cX11_isTown 2 (some .boolean)
theorem wi_947 : ww_947 ∈ mj_tb := mj_t3 (i := 203) rfl rfl
abbrev ww_948 : Cond := .instanceMethod yX11_isTown
theorem wi_948 : ww_948 ∈ mj_tb := mj_t3 (i := 202) rfl rfl
abbrev ww_949 : Cond := .selects RX11 yX11_isTown yX11_isTown
theorem wi_949 : ww_949 ∈ mj_tb := mj_q1 (i := 11) rfl rfl rfl
abbrev ww_950 : Cond := .code yX11_leak cX11_leak 3 (some .int)
theorem wi_950 : ww_950 ∈ mj_tb := mj_t5 (i := 46) rfl rfl
abbrev ww_951 : Cond := .instanceMethod yX11_leak
theorem wi_951 : ww_951 ∈ mj_tb := mj_t5 (i := 44) rfl rfl
abbrev ww_952 : Cond := .selects RX11 yX11_leak yX11_leak
theorem wi_952 : ww_952 ∈ mj_tb := mj_t5 (i := 45) rfl rfl
abbrev ww_953 : Cond := .code yX11_leaks cX11_leaks 2 (some .int)
theorem wi_953 : ww_953 ∈ mj_tb := mj_t5 (i := 10) rfl rfl
abbrev ww_954 : Cond := .instanceMethod yX11_leaks
theorem wi_954 : ww_954 ∈ mj_tb := mj_t5 (i := 8) rfl rfl
abbrev ww_955 : Cond := .selects RX11 yX11_leaks yX11_leaks
theorem wi_955 : ww_955 ∈ mj_tb := mj_t5 (i := 9) rfl rfl
abbrev ww_956 : Cond := .code yX11_let cX11_let 3 (some .int)
theorem wi_956 : ww_956 ∈ mj_tb := mj_t4 (i := 128) rfl rfl
abbrev ww_957 : Cond := .instanceMethod yX11_let
theorem wi_957 : ww_957 ∈ mj_tb := mj_t4 (i := 126) rfl rfl
abbrev ww_958 : Cond := .selects RX11 yX11_let yX11_let
theorem wi_958 : ww_958 ∈ mj_tb := mj_t4 (i := 127) rfl rfl
abbrev ww_959 : Cond := .code yX11_mostGain cX11_mostGain 7 (some .int)
theorem wi_959 : ww_959 ∈ mj_tb := mj_t5 (i := 58) rfl rfl
abbrev ww_960 : Cond := .instanceMethod yX11_mostGain
theorem wi_960 : ww_960 ∈ mj_tb := mj_t5 (i := 57) rfl rfl
abbrev ww_961 : Cond := .selects RX11 yX11_mostGain yX11_mostGain
theorem wi_961 : ww_961 ∈ mj_tb := mj_q3 (i := 14) rfl rfl rfl
abbrev ww_962 : Cond := .code yX11_must cX11_must 4 (some .int)
theorem wi_962 : ww_962 ∈ mj_tb := mj_t5 (i := 131) rfl rfl
abbrev ww_963 : Cond := .instanceMethod yX11_must
theorem wi_963 : ww_963 ∈ mj_tb := mj_t5 (i := 129) rfl rfl
abbrev ww_964 : Cond := .selects RX11 yX11_must yX11_must
theorem wi_964 : ww_964 ∈ mj_tb := mj_t5 (i := 130) rfl rfl
abbrev ww_965 : Cond := .code yX11_offer cX11_offer 5 (some .boolean)
theorem wi_965 : ww_965 ∈ mj_tb := mj_t3 (i := 210) rfl rfl
abbrev ww_966 : Cond := .instanceMethod yX11_offer
theorem wi_966 : ww_966 ∈ mj_tb := mj_t3 (i := 208) rfl rfl
abbrev ww_967 : Cond := .selects RX11 yX11_offer yX11_offer
theorem wi_967 : ww_967 ∈ mj_tb := mj_t3 (i := 209) rfl rfl
abbrev ww_968 : Cond := .code yX11_on cX11_on 3 (some .int)
theorem wi_968 : ww_968 ∈ mj_tb := mj_t4 (i := 44) rfl rfl
abbrev ww_969 : Cond := .instanceMethod yX11_on
theorem wi_969 : ww_969 ∈ mj_tb := mj_t4 (i := 42) rfl rfl
abbrev ww_970 : Cond := .selects RX11 yX11_on yX11_on
theorem wi_970 : ww_970 ∈ mj_tb := mj_t4 (i := 43) rfl rfl
abbrev ww_971 : Cond := .code yX11_plain cX11_plain 3 (some .int)
theorem wi_971 : ww_971 ∈ mj_tb := mj_t3 (i := 40) rfl rfl
abbrev ww_972 : Cond := .instanceMethod yX11_plain
theorem wi_972 : ww_972 ∈ mj_tb := mj_t3 (i := 38) rfl rfl
abbrev ww_973 : Cond := .selects RX11 yX11_plain yX11_plain
theorem wi_973 : ww_973 ∈ mj_tb := mj_t3 (i := 39) rfl rfl
abbrev ww_974 : Cond := .code yX11_plan cX11_plan 2 (some .int)
theorem wi_974 : ww_974 ∈ mj_tb := mj_t4 (i := 213) rfl rfl
abbrev ww_975 : Cond := .instanceMethod yX11_plan
theorem wi_975 : ww_975 ∈ mj_tb := mj_t4 (i := 211) rfl rfl
abbrev ww_976 : Cond := .selects RX11 yX11_plan yX11_plan
theorem wi_976 : ww_976 ∈ mj_tb := mj_t4 (i := 212) rfl rfl
abbrev ww_977 : Cond := .code yX11_price cX11_price 2 (some .int)
theorem wi_977 : ww_977 ∈ mj_tb := mj_t5 (i := 6) rfl rfl
abbrev ww_978 : Cond := .instanceMethod yX11_price
theorem wi_978 : ww_978 ∈ mj_tb := mj_t5 (i := 4) rfl rfl
abbrev ww_979 : Cond := .selects RX11 yX11_price yX11_price
theorem wi_979 : ww_979 ∈ mj_tb := mj_t5 (i := 5) rfl rfl
abbrev ww_980 : Cond := .code yX11_putByte cX11_putByte 2 none
theorem wi_980 : ww_980 ∈ mj_tb := mj_t5 (i := 95) rfl rfl
abbrev ww_981 : Cond := .instanceMethod yX11_putByte
theorem wi_981 : ww_981 ∈ mj_tb := mj_t5 (i := 94) rfl rfl
abbrev ww_982 : Cond := .selects RX11 yX11_putByte yX11_putByte
theorem wi_982 : ww_982 ∈ mj_tb := mj_q4 (i := 1) rfl rfl rfl
abbrev ww_983 : Cond := .code yX11_putNumber cX11_putNumber 2 none
theorem wi_983 : ww_983 ∈ mj_tb := mj_t5 (i := 91) rfl rfl
abbrev ww_984 : Cond := .instanceMethod yX11_putNumber
theorem wi_984 : ww_984 ∈ mj_tb := mj_t5 (i := 90) rfl rfl
abbrev ww_985 : Cond := .selects RX11 yX11_putNumber yX11_putNumber
theorem wi_985 : ww_985 ∈ mj_tb := mj_q4 (i := 0) rfl rfl rfl
abbrev ww_986 : Cond := .code yX11_putTenant cX11_putTenant 6 none
theorem wi_986 : ww_986 ∈ mj_tb := mj_t5 (i := 99) rfl rfl
abbrev ww_987 : Cond := .instanceMethod yX11_putTenant
theorem wi_987 : ww_987 ∈ mj_tb := mj_t5 (i := 98) rfl rfl
abbrev ww_988 : Cond := .selects RX11 yX11_putTenant yX11_putTenant
theorem wi_988 : ww_988 ∈ mj_tb := mj_q4 (i := 2) rfl rfl rfl
abbrev ww_989 : Cond := .code yX11_restore cX11_restore 2 (some .boolean)
theorem wi_989 : ww_989 ∈ mj_tb := mj_t6 (i := 0) rfl rfl
abbrev ww_990 : Cond := .instanceMethod yX11_restore
theorem wi_990 : ww_990 ∈ mj_tb := mj_t5 (i := 238) rfl rfl
abbrev ww_991 : Cond := .selects RX11 yX11_restore yX11_restore
theorem wi_991 : ww_991 ∈ mj_tb := mj_t5 (i := 239) rfl rfl
abbrev ww_992 : Cond := .code yX11_rounds cX11_rounds 2 (some .int)
theorem wi_992 : ww_992 ∈ mj_tb := mj_t4 (i := 222) rfl rfl
abbrev ww_993 : Cond := .instanceMethod yX11_rounds
theorem wi_993 : ww_993 ∈ mj_tb := mj_t4 (i := 220) rfl rfl
abbrev ww_994 : Cond := .selects RX11 yX11_rounds yX11_rounds
theorem wi_994 : ww_994 ∈ mj_tb := mj_t4 (i := 221) rfl rfl
abbrev ww_995 : Cond := .code yX11_said cX11_said 4 (some .int)
theorem wi_995 : ww_995 ∈ mj_tb := mj_t5 (i := 208) rfl rfl
abbrev ww_996 : Cond := .instanceMethod yX11_said
theorem wi_996 : ww_996 ∈ mj_tb := mj_t5 (i := 206) rfl rfl
abbrev ww_997 : Cond := .selects RX11 yX11_said yX11_said
theorem wi_997 : ww_997 ∈ mj_tb := mj_t5 (i := 207) rfl rfl
abbrev ww_998 : Cond := .code yX11_sentence cX11_sentence 2 (some .int)
theorem wi_998 : ww_998 ∈ mj_tb := mj_t5 (i := 140) rfl rfl
abbrev ww_999 : Cond := .instanceMethod yX11_sentence
theorem wi_999 : ww_999 ∈ mj_tb := mj_t5 (i := 138) rfl rfl
abbrev ww_1000 : Cond := .selects RX11 yX11_sentence yX11_sentence
theorem wi_1000 : ww_1000 ∈ mj_tb := mj_t5 (i := 139) rfl rfl
abbrev ww_1001 : Cond := .code yX11_shores cX11_shores 6 (some .int)
theorem wi_1001 : ww_1001 ∈ mj_tb := mj_t5 (i := 127) rfl rfl
abbrev ww_1002 : Cond := .instanceMethod yX11_shores
theorem wi_1002 : ww_1002 ∈ mj_tb := mj_t5 (i := 125) rfl rfl
abbrev ww_1003 : Cond := .selects RX11 yX11_shores yX11_shores
theorem wi_1003 : ww_1003 ∈ mj_tb := mj_t5 (i := 126) rfl rfl
abbrev ww_1004 : Cond := .code yX11_shoresOf cX11_shoresOf 3 (some .int)
theorem wi_1004 : ww_1004 ∈ mj_tb := mj_t5 (i := 63) rfl rfl
abbrev ww_1005 : Cond := .instanceMethod yX11_shoresOf
theorem wi_1005 : ww_1005 ∈ mj_tb := mj_t5 (i := 61) rfl rfl
abbrev ww_1006 : Cond := .selects RX11 yX11_shoresOf yX11_shoresOf
theorem wi_1006 : ww_1006 ∈ mj_tb := mj_t5 (i := 62) rfl rfl
abbrev ww_1007 : Cond := .code yX11_take cX11_take 3 (some .boolean)
theorem wi_1007 : ww_1007 ∈ mj_tb := mj_t4 (i := 217) rfl rfl
abbrev ww_1008 : Cond := .instanceMethod yX11_take
theorem wi_1008 : ww_1008 ∈ mj_tb := mj_t4 (i := 215) rfl rfl
abbrev ww_1009 : Cond := .selects RX11 yX11_take yX11_take
theorem wi_1009 : ww_1009 ∈ mj_tb := mj_t4 (i := 216) rfl rfl
abbrev ww_1010 : Cond := .code yX11_thirsty cX11_thirsty 3 (some .int)
theorem wi_1010 : ww_1010 ∈ mj_tb := mj_t5 (i := 71) rfl rfl
abbrev ww_1011 : Cond := .instanceMethod yX11_thirsty
theorem wi_1011 : ww_1011 ∈ mj_tb := mj_t5 (i := 69) rfl rfl
abbrev ww_1012 : Cond := .selects RX11 yX11_thirsty yX11_thirsty
theorem wi_1012 : ww_1012 ∈ mj_tb := mj_t5 (i := 70) rfl rfl
abbrev ww_1013 : Cond := .code yX11_town cX11_town 3 (some .int)
theorem wi_1013 : ww_1013 ∈ mj_tb := mj_t4 (i := 124) rfl rfl
abbrev ww_1014 : Cond := .instanceMethod yX11_town
theorem wi_1014 : ww_1014 ∈ mj_tb := mj_t4 (i := 122) rfl rfl
abbrev ww_1015 : Cond := .selects RX11 yX11_town yX11_town
theorem wi_1015 : ww_1015 ∈ mj_tb := mj_t4 (i := 123) rfl rfl
abbrev ww_1016 : Cond := .code yX11_tryYear cX11_tryYear 2 none
theorem wi_1016 : ww_1016 ∈ mj_tb := mj_t5 (i := 67) rfl rfl
abbrev ww_1017 : Cond := .instanceMethod yX11_tryYear
theorem wi_1017 : ww_1017 ∈ mj_tb := mj_t5 (i := 66) rfl rfl
abbrev ww_1018 : Cond := .selects RX11 yX11_tryYear yX11_tryYear
theorem wi_1018 : ww_1018 ∈ mj_tb := mj_q3 (i := 15) rfl rfl rfl
abbrev ww_1019 : Cond := .code yX11_undo cX11_undo 1 (some .int)
theorem wi_1019 : ww_1019 ∈ mj_tb := mj_t3 (i := 222) rfl rfl
abbrev ww_1020 : Cond := .instanceMethod yX11_undo
theorem wi_1020 : ww_1020 ∈ mj_tb := mj_t3 (i := 220) rfl rfl
abbrev ww_1021 : Cond := .selects RX11 yX11_undo yX11_undo
theorem wi_1021 : ww_1021 ∈ mj_tb := mj_t3 (i := 221) rfl rfl
abbrev ww_1022 : Cond := .code yX11_water cX11_water 2 (some .int)
theorem wi_1022 : ww_1022 ∈ mj_tb := mj_t3 (i := 231) rfl rfl
abbrev ww_1023 : Cond := .instanceMethod yX11_water
theorem wi_1023 : ww_1023 ∈ mj_tb := mj_t3 (i := 229) rfl rfl
abbrev ww_1024 : Cond := .selects RX11 yX11_water yX11_water
theorem wi_1024 : ww_1024 ∈ mj_tb := mj_t3 (i := 230) rfl rfl
abbrev ww_1025 : Cond := .code yX11_wettest cX11_wettest 4 (some .int)
theorem wi_1025 : ww_1025 ∈ mj_tb := mj_t5 (i := 50) rfl rfl
abbrev ww_1026 : Cond := .instanceMethod yX11_wettest
theorem wi_1026 : ww_1026 ∈ mj_tb := mj_t5 (i := 48) rfl rfl
abbrev ww_1027 : Cond := .selects RX11 yX11_wettest yX11_wettest
theorem wi_1027 : ww_1027 ∈ mj_tb := mj_t5 (i := 49) rfl rfl
abbrev ww_1028 : Cond := .code yX11_worth cX11_worth 4 (some .int)
theorem wi_1028 : ww_1028 ∈ mj_tb := mj_t5 (i := 109) rfl rfl
abbrev ww_1029 : Cond := .instanceMethod yX11_worth
theorem wi_1029 : ww_1029 ∈ mj_tb := mj_t5 (i := 107) rfl rfl
abbrev ww_1030 : Cond := .selects RX11 yX11_worth yX11_worth
theorem wi_1030 : ww_1030 ∈ mj_tb := mj_t5 (i := 108) rfl rfl
abbrev ww_1031 : Cond := .code yX11_write cX11_write 2 (some .int)
theorem wi_1031 : ww_1031 ∈ mj_tb := mj_t5 (i := 87) rfl rfl
abbrev ww_1032 : Cond := .instanceMethod yX11_write
theorem wi_1032 : ww_1032 ∈ mj_tb := mj_t5 (i := 85) rfl rfl
abbrev ww_1033 : Cond := .selects RX11 yX11_write yX11_write
theorem wi_1033 : ww_1033 ∈ mj_tb := mj_t5 (i := 86) rfl rfl
abbrev ww_1034 : Cond := .code yX11_year cX11_year 2 (some .int)
theorem wi_1034 : ww_1034 ∈ mj_tb := mj_t4 (i := 112) rfl rfl
abbrev ww_1035 : Cond := .instanceMethod yX11_year
theorem wi_1035 : ww_1035 ∈ mj_tb := mj_t4 (i := 110) rfl rfl
abbrev ww_1036 : Cond := .selects RX11 yX11_year yX11_year
theorem wi_1036 : ww_1036 ∈ mj_tb := mj_t4 (i := 111) rfl rfl
abbrev ww_1037 : Cond := .code yX12_areLevels cX12_areLevels 7 (some .boolean)
theorem wi_1037 : ww_1037 ∈ mj_tb := mj_t8 (i := 85) rfl rfl
abbrev ww_1038 : Cond := .initialized RX12
theorem wi_1038 : ww_1038 ∈ mj_tb := mj_t1 (i := 12) rfl rfl
abbrev ww_1039 : Cond := .instanceMethod yX12_areLevels
theorem wi_1039 : ww_1039 ∈ mj_tb := mj_t8 (i := 84) rfl rfl
abbrev ww_1040 : Cond := .selects RX12 yX12_areLevels yX12_areLevels
theorem wi_1040 : ww_1040 ∈ mj_tb := mj_q7 (i := 1) rfl rfl rfl
abbrev ww_1041 : Cond := .code yX12_bad cX12_bad 2 (some .boolean)
theorem wi_1041 : ww_1041 ∈ mj_tb := mj_t7 (i := 104) rfl rfl
abbrev ww_1042 : Cond := .instanceMethod yX12_bad
theorem wi_1042 : ww_1042 ∈ mj_tb := mj_t7 (i := 103) rfl rfl
abbrev ww_1043 : Cond := .selects RX12 yX12_bad yX12_bad
theorem wi_1043 : ww_1043 ∈ mj_tb := mj_q5 (i := 2) rfl rfl rfl
abbrev ww_1044 : Cond := .code yX12_begin cX12_begin 1 (some .boolean)
theorem wi_1044 : ww_1044 ∈ mj_tb := mj_t7 (i := 201) rfl rfl
abbrev ww_1045 : Cond := .instanceMethod yX12_begin
theorem wi_1045 : ww_1045 ∈ mj_tb := mj_t7 (i := 199) rfl rfl
abbrev ww_1046 : Cond := .selects RX12 yX12_begin yX12_begin
theorem wi_1046 : ww_1046 ∈ mj_tb := mj_t7 (i := 200) rfl rfl
abbrev ww_1047 : Cond := .code yX12_begins cX12_begins 2 none
theorem wi_1047 : ww_1047 ∈ mj_tb := mj_t7 (i := 205) rfl rfl
abbrev ww_1048 : Cond := .instanceMethod yX12_begins
theorem wi_1048 : ww_1048 ∈ mj_tb := mj_t7 (i := 204) rfl rfl
abbrev ww_1049 : Cond := .selects RX12 yX12_begins yX12_begins
theorem wi_1049 : ww_1049 ∈ mj_tb := mj_q6 (i := 0) rfl rfl rfl
abbrev ww_1050 : Cond := .code yX12_behind cX12_behind 1 (some .boolean)
theorem wi_1050 : ww_1050 ∈ mj_tb := mj_t8 (i := 183) rfl rfl
abbrev ww_1051 : Cond := .instanceMethod yX12_behind
theorem wi_1051 : ww_1051 ∈ mj_tb := mj_t8 (i := 182) rfl rfl
abbrev ww_1052 : Cond := .selects RX12 yX12_behind yX12_behind
theorem wi_1052 : ww_1052 ∈ mj_tb := mj_q7 (i := 11) rfl rfl rfl
abbrev ww_1053 : Cond := .code yX12_bid cX12_bid 3 (some .int)
theorem wi_1053 : ww_1053 ∈ mj_tb := mj_t7 (i := 162) rfl rfl
abbrev ww_1054 : Cond := .instanceMethod yX12_bid
theorem wi_1054 : ww_1054 ∈ mj_tb := mj_t7 (i := 160) rfl rfl
abbrev ww_1055 : Cond := .selects RX12 yX12_bid yX12_bid
theorem wi_1055 : ww_1055 ∈ mj_tb := mj_t7 (i := 161) rfl rfl
abbrev ww_1056 : Cond := .code yX12_bidMany cX12_bidMany 3 (some .int)
theorem wi_1056 : ww_1056 ∈ mj_tb := mj_t7 (i := 181) rfl rfl
abbrev ww_1057 : Cond := .instanceMethod yX12_bidMany
theorem wi_1057 : ww_1057 ∈ mj_tb := mj_t7 (i := 180) rfl rfl
abbrev ww_1058 : Cond := .selects RX12 yX12_bidMany yX12_bidMany
theorem wi_1058 : ww_1058 ∈ mj_tb := mj_q5 (i := 14) rfl rfl rfl
abbrev ww_1059 : Cond := .code yX12_bidOf cX12_bidOf 3 (some .int)
theorem wi_1059 : ww_1059 ∈ mj_tb := mj_t7 (i := 169) rfl rfl
abbrev ww_1060 : Cond := .instanceMethod yX12_bidOf
theorem wi_1060 : ww_1060 ∈ mj_tb := mj_t7 (i := 168) rfl rfl
abbrev ww_1061 : Cond := .selects RX12 yX12_bidOf yX12_bidOf
theorem wi_1061 : ww_1061 ∈ mj_tb := mj_q5 (i := 13) rfl rfl rfl
abbrev ww_1062 : Cond := .code yX12_bidsOf cX12_bidsOf 4 (some .int)
theorem wi_1062 : ww_1062 ∈ mj_tb := mj_t8 (i := 122) rfl rfl
abbrev ww_1063 : Cond := .instanceMethod yX12_bidsOf
theorem wi_1063 : ww_1063 ∈ mj_tb := mj_t8 (i := 120) rfl rfl
abbrev ww_1064 : Cond := .selects RX12 yX12_bidsOf yX12_bidsOf
theorem wi_1064 : ww_1064 ∈ mj_tb := mj_t8 (i := 121) rfl rfl
abbrev ww_1065 : Cond := .code yX12_bitOf cX12_bitOf 2 (some .boolean)
theorem wi_1065 : ww_1065 ∈ mj_tb := mj_t7 (i := 122) rfl rfl
abbrev ww_1066 : Cond := .static yX12_bitOf
theorem wi_1066 : ww_1066 ∈ mj_tb := mj_t7 (i := 121) rfl rfl
abbrev ww_1067 : Cond := .code yX12_byteAt cX12_byteAt 2 (some .int)
theorem wi_1067 : ww_1067 ∈ mj_tb := mj_t8 (i := 147) rfl rfl
abbrev ww_1068 : Cond := .instanceMethod yX12_byteAt
theorem wi_1068 : ww_1068 ∈ mj_tb := mj_t8 (i := 145) rfl rfl
abbrev ww_1069 : Cond := .selects RX12 yX12_byteAt yX12_byteAt
theorem wi_1069 : ww_1069 ∈ mj_tb := mj_t8 (i := 146) rfl rfl
abbrev ww_1070 : Cond := .code yX12_canBe cX12_canBe 5 (some .boolean)
theorem wi_1070 : ww_1070 ∈ mj_tb := mj_t8 (i := 37) rfl rfl
abbrev ww_1071 : Cond := .instanceMethod yX12_canBe
theorem wi_1071 : ww_1071 ∈ mj_tb := mj_t8 (i := 36) rfl rfl
abbrev ww_1072 : Cond := .selects RX12 yX12_canBe yX12_canBe
theorem wi_1072 : ww_1072 ∈ mj_tb := mj_q6 (i := 11) rfl rfl rfl
abbrev ww_1073 : Cond := .code yX12_canPay cX12_canPay 3 (some .boolean)
theorem wi_1073 : ww_1073 ∈ mj_tb := mj_t7 (i := 221) rfl rfl
abbrev ww_1074 : Cond := .instanceMethod yX12_canPay
theorem wi_1074 : ww_1074 ∈ mj_tb := mj_t7 (i := 220) rfl rfl
abbrev ww_1075 : Cond := .selects RX12 yX12_canPay yX12_canPay
theorem wi_1075 : ww_1075 ∈ mj_tb := mj_q6 (i := 3) rfl rfl rfl
abbrev ww_1076 : Cond := .code yX12_cheapest cX12_cheapest 5 (some .int)
theorem wi_1076 : ww_1076 ∈ mj_tb := mj_t8 (i := 32) rfl rfl
abbrev ww_1077 : Cond := .instanceMethod yX12_cheapest
theorem wi_1077 : ww_1077 ∈ mj_tb := mj_t8 (i := 30) rfl rfl
abbrev ww_1078 : Cond := .selects RX12 yX12_cheapest yX12_cheapest
theorem wi_1078 : ww_1078 ∈ mj_tb := mj_t8 (i := 31) rfl rfl
abbrev ww_1079 : Cond := .code yX12_code cX12_code 4 none
theorem wi_1079 : ww_1079 ∈ mj_tb := mj_t8 (i := 175) rfl rfl
abbrev ww_1080 : Cond := .instanceMethod yX12_code
theorem wi_1080 : ww_1080 ∈ mj_tb := mj_t8 (i := 174) rfl rfl
abbrev ww_1081 : Cond := .selects RX12 yX12_code yX12_code
theorem wi_1081 : ww_1081 ∈ mj_tb := mj_q7 (i := 9) rfl rfl rfl
abbrev ww_1082 : Cond := .code yX12_comes cX12_comes 6 none
theorem wi_1082 : ww_1082 ∈ mj_tb := mj_t8 (i := 8) rfl rfl
abbrev ww_1083 : Cond := .instanceMethod yX12_comes
theorem wi_1083 : ww_1083 ∈ mj_tb := mj_t8 (i := 7) rfl rfl
abbrev ww_1084 : Cond := .selects RX12 yX12_comes yX12_comes
theorem wi_1084 : ww_1084 ∈ mj_tb := mj_q6 (i := 9) rfl rfl rfl
abbrev ww_1085 : Cond := .code yX12_contract cX12_contract 3 (some .int)
theorem wi_1085 : ww_1085 ∈ mj_tb := mj_t7 (i := 197) rfl rfl
abbrev ww_1086 : Cond := .instanceMethod yX12_contract
theorem wi_1086 : ww_1086 ∈ mj_tb := mj_t7 (i := 195) rfl rfl
abbrev ww_1087 : Cond := .selects RX12 yX12_contract yX12_contract
theorem wi_1087 : ww_1087 ∈ mj_tb := mj_t7 (i := 196) rfl rfl
abbrev ww_1088 : Cond := .code yX12_contracts cX12_contracts 3 (some .int)
theorem wi_1088 : ww_1088 ∈ mj_tb := mj_t7 (i := 189) rfl rfl
abbrev ww_1089 : Cond := .instanceMethod yX12_contracts
theorem wi_1089 : ww_1089 ∈ mj_tb := mj_t7 (i := 187) rfl rfl
abbrev ww_1090 : Cond := .selects RX12 yX12_contracts yX12_contracts
theorem wi_1090 : ww_1090 ∈ mj_tb := mj_t7 (i := 188) rfl rfl
abbrev ww_1091 : Cond := .code yX12_costOf cX12_costOf 4 (some .int)
theorem wi_1091 : ww_1091 ∈ mj_tb := mj_t8 (i := 45) rfl rfl
abbrev ww_1092 : Cond := .instanceMethod yX12_costOf
theorem wi_1092 : ww_1092 ∈ mj_tb := mj_t8 (i := 44) rfl rfl
abbrev ww_1093 : Cond := .selects RX12 yX12_costOf yX12_costOf
theorem wi_1093 : ww_1093 ∈ mj_tb := mj_q6 (i := 13) rfl rfl rfl
abbrev ww_1094 : Cond := .code yX12_count cX12_count 2 (some .int)
theorem wi_1094 : ww_1094 ∈ mj_tb := mj_t8 (i := 215) rfl rfl
abbrev ww_1095 : Cond := .instanceMethod yX12_count
theorem wi_1095 : ww_1095 ∈ mj_tb := mj_t8 (i := 213) rfl rfl
abbrev ww_1096 : Cond := .selects RX12 yX12_count yX12_count
theorem wi_1096 : ww_1096 ∈ mj_tb := mj_t8 (i := 214) rfl rfl
abbrev ww_1097 : Cond := .code yX12_dealRow cX12_dealRow 5 (some .boolean)
theorem wi_1097 : ww_1097 ∈ mj_tb := mj_t7 (i := 193) rfl rfl
abbrev ww_1098 : Cond := .instanceMethod yX12_dealRow
theorem wi_1098 : ww_1098 ∈ mj_tb := mj_t7 (i := 192) rfl rfl
abbrev ww_1099 : Cond := .selects RX12 yX12_dealRow yX12_dealRow
theorem wi_1099 : ww_1099 ∈ mj_tb := mj_q5 (i := 15) rfl rfl rfl
abbrev ww_1100 : Cond := .code yX12_draw cX12_draw 2 (some .int)
theorem wi_1100 : ww_1100 ∈ mj_tb := mj_t8 (i := 113) rfl rfl
abbrev ww_1101 : Cond := .instanceMethod yX12_draw
theorem wi_1101 : ww_1101 ∈ mj_tb := mj_t8 (i := 112) rfl rfl
abbrev ww_1102 : Cond := .selects RX12 yX12_draw yX12_draw
theorem wi_1102 : ww_1102 ∈ mj_tb := mj_q7 (i := 4) rfl rfl rfl
abbrev ww_1103 : Cond := .code yX12_drawn cX12_drawn 3 (some .int)
theorem wi_1103 : ww_1103 ∈ mj_tb := mj_t8 (i := 155) rfl rfl
abbrev ww_1104 : Cond := .instanceMethod yX12_drawn
theorem wi_1104 : ww_1104 ∈ mj_tb := mj_t8 (i := 153) rfl rfl
abbrev ww_1105 : Cond := .selects RX12 yX12_drawn yX12_drawn
theorem wi_1105 : ww_1105 ∈ mj_tb := mj_t8 (i := 154) rfl rfl
abbrev ww_1106 : Cond := .code yX12_droughts cX12_droughts 3 (some .int)
theorem wi_1106 : ww_1106 ∈ mj_tb := mj_t8 (i := 28) rfl rfl
abbrev ww_1107 : Cond := .instanceMethod yX12_droughts
theorem wi_1107 : ww_1107 ∈ mj_tb := mj_t8 (i := 26) rfl rfl
abbrev ww_1108 : Cond := .selects RX12 yX12_droughts yX12_droughts
theorem wi_1108 : ww_1108 ∈ mj_tb := mj_t8 (i := 27) rfl rfl
abbrev ww_1109 : Cond := .code yX12_end cX12_end 2 (some .boolean)
theorem wi_1109 : ww_1109 ∈ mj_tb := mj_t6 (i := 90) rfl rfl
abbrev ww_1110 : Cond := .instanceMethod yX12_end
theorem wi_1110 : ww_1110 ∈ mj_tb := mj_t6 (i := 88) rfl rfl
abbrev ww_1111 : Cond := .selects RX12 yX12_end yX12_end
theorem wi_1111 : ww_1111 ∈ mj_tb := mj_t6 (i := 89) rfl rfl
abbrev ww_1112 : Cond := .code yX12_enough cX12_enough 7 (some .int)
theorem wi_1112 : ww_1112 ∈ mj_tb := mj_t8 (i := 101) rfl rfl
abbrev ww_1113 : Cond := .instanceMethod yX12_enough
theorem wi_1113 : ww_1113 ∈ mj_tb := mj_t8 (i := 99) rfl rfl
abbrev ww_1114 : Cond := .selects RX12 yX12_enough yX12_enough
theorem wi_1114 : ww_1114 ∈ mj_tb := mj_t8 (i := 100) rfl rfl
abbrev ww_1115 : Cond := .code yX12_fault cX12_fault 1 (some .int)
theorem wi_1115 : ww_1115 ∈ mj_tb := mj_t7 (i := 142) rfl rfl
abbrev ww_1116 : Cond := .instanceMethod yX12_fault
theorem wi_1116 : ww_1116 ∈ mj_tb := mj_t7 (i := 140) rfl rfl
abbrev ww_1117 : Cond := .selects RX12 yX12_fault yX12_fault
theorem wi_1117 : ww_1117 ∈ mj_tb := mj_t7 (i := 141) rfl rfl
abbrev ww_1118 : Cond := .code yX12_feed cX12_feed 6 (some .int)
theorem wi_1118 : ww_1118 ∈ mj_tb := mj_t6 (i := 81) rfl rfl
abbrev ww_1119 : Cond := .instanceMethod yX12_feed
theorem wi_1119 : ww_1119 ∈ mj_tb := mj_t6 (i := 79) rfl rfl
abbrev ww_1120 : Cond := .selects RX12 yX12_feed yX12_feed
theorem wi_1120 : ww_1120 ∈ mj_tb := mj_t6 (i := 80) rfl rfl
abbrev ww_1121 : Cond := .code yX12_find cX12_find 4 (some .int)
theorem wi_1121 : ww_1121 ∈ mj_tb := mj_t7 (i := 112) rfl rfl
abbrev ww_1122 : Cond := .instanceMethod yX12_find
theorem wi_1122 : ww_1122 ∈ mj_tb := mj_t7 (i := 111) rfl rfl
abbrev ww_1123 : Cond := .selects RX12 yX12_find yX12_find
theorem wi_1123 : ww_1123 ∈ mj_tb := mj_q5 (i := 4) rfl rfl rfl
abbrev ww_1124 : Cond := .code yX12_forgets cX12_forgets 2 none
theorem wi_1124 : ww_1124 ∈ mj_tb := mj_t8 (i := 89) rfl rfl
abbrev ww_1125 : Cond := .instanceMethod yX12_forgets
theorem wi_1125 : ww_1125 ∈ mj_tb := mj_t8 (i := 88) rfl rfl
abbrev ww_1126 : Cond := .selects RX12 yX12_forgets yX12_forgets
theorem wi_1126 : ww_1126 ∈ mj_tb := mj_q7 (i := 2) rfl rfl rfl
abbrev ww_1127 : Cond := .code yX12_four cX12_four 3 none
theorem wi_1127 : ww_1127 ∈ mj_tb := mj_t6 (i := 86) rfl rfl
abbrev ww_1128 : Cond := .instanceMethod yX12_four
theorem wi_1128 : ww_1128 ∈ mj_tb := mj_t6 (i := 84) rfl rfl
abbrev ww_1129 : Cond := .selects RX12 yX12_four yX12_four
theorem wi_1129 : ww_1129 ∈ mj_tb := mj_q4 (i := 11) rfl rfl rfl
abbrev ww_1130 : Cond := .code yX12_gains cX12_gains 3 (some .int)
theorem wi_1130 : ww_1130 ∈ mj_tb := mj_t8 (i := 41) rfl rfl
abbrev ww_1131 : Cond := .instanceMethod yX12_gains
theorem wi_1131 : ww_1131 ∈ mj_tb := mj_t8 (i := 40) rfl rfl
abbrev ww_1132 : Cond := .selects RX12 yX12_gains yX12_gains
theorem wi_1132 : ww_1132 ∈ mj_tb := mj_q6 (i := 12) rfl rfl rfl
abbrev ww_1133 : Cond := .code yX12_greatest cX12_greatest 4 (some .int)
theorem wi_1133 : ww_1133 ∈ mj_tb := mj_t8 (i := 126) rfl rfl
abbrev ww_1134 : Cond := .instanceMethod yX12_greatest
theorem wi_1134 : ww_1134 ∈ mj_tb := mj_t8 (i := 124) rfl rfl
abbrev ww_1135 : Cond := .selects RX12 yX12_greatest yX12_greatest
theorem wi_1135 : ww_1135 ∈ mj_tb := mj_t8 (i := 125) rfl rfl
abbrev ww_1136 : Cond := .code yX12_has cX12_has 2 (some .int)
theorem wi_1136 : ww_1136 ∈ mj_tb := mj_t8 (i := 65) rfl rfl
abbrev ww_1137 : Cond := .instanceMethod yX12_has
theorem wi_1137 : ww_1137 ∈ mj_tb := mj_t8 (i := 63) rfl rfl
abbrev ww_1138 : Cond := .selects RX12 yX12_has yX12_has
theorem wi_1138 : ww_1138 ∈ mj_tb := mj_t8 (i := 64) rfl rfl
abbrev ww_1139 : Cond := .code yX12_holderOf cX12_holderOf 3 (some .int)
theorem wi_1139 : ww_1139 ∈ mj_tb := mj_t8 (i := 61) rfl rfl
abbrev ww_1140 : Cond := .instanceMethod yX12_holderOf
theorem wi_1140 : ww_1140 ∈ mj_tb := mj_t8 (i := 60) rfl rfl
abbrev ww_1141 : Cond := .selects RX12 yX12_holderOf yX12_holderOf
theorem wi_1141 : ww_1141 ∈ mj_tb := mj_q6 (i := 14) rfl rfl rfl
abbrev ww_1142 : Cond := .code yX12_image cX12_image 3 (some .boolean)
theorem wi_1142 : ww_1142 ∈ mj_tb := mj_t8 (i := 207) rfl rfl
abbrev ww_1143 : Cond := .instanceMethod yX12_image
theorem wi_1143 : ww_1143 ∈ mj_tb := mj_t8 (i := 205) rfl rfl
abbrev ww_1144 : Cond := .selects RX12 yX12_image yX12_image
theorem wi_1144 : ww_1144 ∈ mj_tb := mj_t8 (i := 206) rfl rfl
abbrev ww_1145 : Cond := .code yX12_init cX12_init 1 none
theorem wi_1145 : ww_1145 ∈ mj_tb := mj_t6 (i := 94) rfl rfl
abbrev ww_1146 : Cond := .instanceMethod yX12_init
theorem wi_1146 : ww_1146 ∈ mj_tb := mj_t6 (i := 93) rfl rfl
abbrev ww_1147 : Cond := .code yX12_isDigit cX12_isDigit 1 (some .boolean)
theorem wi_1147 : ww_1147 ∈ mj_tb := mj_t7 (i := 88) rfl rfl
abbrev ww_1148 : Cond := .static yX12_isDigit
theorem wi_1148 : ww_1148 ∈ mj_tb := mj_t7 (i := 87) rfl rfl
abbrev ww_1149 : Cond := .code yX12_isIn cX12_isIn 3 (some .boolean)
theorem wi_1149 : ww_1149 ∈ mj_tb := mj_t7 (i := 119) rfl rfl
abbrev ww_1150 : Cond := .static yX12_isIn
theorem wi_1150 : ww_1150 ∈ mj_tb := mj_t7 (i := 118) rfl rfl
abbrev ww_1151 : Cond := .code yX12_isLeaf cX12_isLeaf 6 (some .boolean)
theorem wi_1151 : ww_1151 ∈ mj_tb := mj_t8 (i := 203) rfl rfl
abbrev ww_1152 : Cond := .instanceMethod yX12_isLeaf
theorem wi_1152 : ww_1152 ∈ mj_tb := mj_t8 (i := 202) rfl rfl
abbrev ww_1153 : Cond := .selects RX12 yX12_isLeaf yX12_isLeaf
theorem wi_1153 : ww_1153 ∈ mj_tb := mj_q7 (i := 15) rfl rfl rfl
abbrev ww_1154 : Cond := .code yX12_isMonth cX12_isMonth 1 (some .boolean)
theorem wi_1154 : ww_1154 ∈ mj_tb := mj_t7 (i := 165) rfl rfl
abbrev ww_1155 : Cond := .static yX12_isMonth
theorem wi_1155 : ww_1155 ∈ mj_tb := mj_t7 (i := 164) rfl rfl
abbrev ww_1156 : Cond := .code yX12_isName cX12_isName 3 (some .boolean)
theorem wi_1156 : ww_1156 ∈ mj_tb := mj_t7 (i := 108) rfl rfl
abbrev ww_1157 : Cond := .instanceMethod yX12_isName
theorem wi_1157 : ww_1157 ∈ mj_tb := mj_t7 (i := 107) rfl rfl
abbrev ww_1158 : Cond := .selects RX12 yX12_isName yX12_isName
theorem wi_1158 : ww_1158 ∈ mj_tb := mj_q5 (i := 3) rfl rfl rfl
abbrev ww_1159 : Cond := .code yX12_isSaid cX12_isSaid 5 (some .boolean)
theorem wi_1159 : ww_1159 ∈ mj_tb := mj_t8 (i := 199) rfl rfl
abbrev ww_1160 : Cond := .instanceMethod yX12_isSaid
theorem wi_1160 : ww_1160 ∈ mj_tb := mj_t8 (i := 198) rfl rfl
abbrev ww_1161 : Cond := .selects RX12 yX12_isSaid yX12_isSaid
theorem wi_1161 : ww_1161 ∈ mj_tb := mj_q7 (i := 14) rfl rfl rfl
abbrev ww_1162 : Cond := .code yX12_isSign cX12_isSign 2 (some .boolean)
theorem wi_1162 : ww_1162 ∈ mj_tb := mj_t7 (i := 138) rfl rfl
abbrev ww_1163 : Cond := .instanceMethod yX12_isSign
theorem wi_1163 : ww_1163 ∈ mj_tb := mj_t7 (i := 137) rfl rfl
abbrev ww_1164 : Cond := .selects RX12 yX12_isSign yX12_isSign
theorem wi_1164 : ww_1164 ∈ mj_tb := mj_q5 (i := 9) rfl rfl rfl
abbrev ww_1165 : Cond := .code yX12_isSmall cX12_isSmall 1 (some .boolean)
theorem wi_1165 : ww_1165 ∈ mj_tb := mj_t7 (i := 85) rfl rfl
abbrev ww_1166 : Cond := .static yX12_isSmall
theorem wi_1166 : ww_1166 ∈ mj_tb := mj_t7 (i := 84) rfl rfl
abbrev ww_1167 : Cond := .code yX12_isTown cX12_isTown 2 (some .boolean)
theorem wi_1167 : ww_1167 ∈ mj_tb := mj_t7 (i := 150) rfl rfl
abbrev ww_1168 : Cond := .instanceMethod yX12_isTown
theorem wi_1168 : ww_1168 ∈ mj_tb := mj_t7 (i := 149) rfl rfl
abbrev ww_1169 : Cond := .selects RX12 yX12_isTown yX12_isTown
theorem wi_1169 : ww_1169 ∈ mj_tb := mj_q5 (i := 10) rfl rfl rfl
abbrev ww_1170 : Cond := .code yX12_isWord cX12_isWord 3 (some .boolean)
theorem wi_1170 : ww_1170 ∈ mj_tb := mj_t7 (i := 96) rfl rfl
abbrev ww_1171 : Cond := .instanceMethod yX12_isWord
theorem wi_1171 : ww_1171 ∈ mj_tb := mj_t7 (i := 95) rfl rfl
abbrev ww_1172 : Cond := .selects RX12 yX12_isWord yX12_isWord
theorem wi_1172 : ww_1172 ∈ mj_tb := mj_q5 (i := 0) rfl rfl rfl
abbrev ww_1173 : Cond := .code yX12_joins cX12_joins 2 none
theorem wi_1173 : ww_1173 ∈ mj_tb := mj_t8 (i := 179) rfl rfl
abbrev ww_1174 : Cond := .instanceMethod yX12_joins
theorem wi_1174 : ww_1174 ∈ mj_tb := mj_t8 (i := 178) rfl rfl
abbrev ww_1175 : Cond := .selects RX12 yX12_joins yX12_joins
theorem wi_1175 : ww_1175 ∈ mj_tb := mj_q7 (i := 10) rfl rfl rfl
abbrev ww_1176 : Cond := .code yX12_leafOf cX12_leafOf 1 (some .int)
theorem wi_1176 : ww_1176 ∈ mj_tb := mj_t8 (i := 191) rfl rfl
abbrev ww_1177 : Cond := .instanceMethod yX12_leafOf
theorem wi_1177 : ww_1177 ∈ mj_tb := mj_t8 (i := 190) rfl rfl
abbrev ww_1178 : Cond := .selects RX12 yX12_leafOf yX12_leafOf
theorem wi_1178 : ww_1178 ∈ mj_tb := mj_q7 (i := 13) rfl rfl rfl
abbrev ww_1179 : Cond := .code yX12_leak cX12_leak 3 (some .int)
theorem wi_1179 : ww_1179 ∈ mj_tb := mj_t8 (i := 93) rfl rfl
abbrev ww_1180 : Cond := .instanceMethod yX12_leak
theorem wi_1180 : ww_1180 ∈ mj_tb := mj_t8 (i := 91) rfl rfl
abbrev ww_1181 : Cond := .selects RX12 yX12_leak yX12_leak
theorem wi_1181 : ww_1181 ∈ mj_tb := mj_t8 (i := 92) rfl rfl
abbrev ww_1182 : Cond := .code yX12_leaks cX12_leaks 7 (some .int)
theorem wi_1182 : ww_1182 ∈ mj_tb := mj_t8 (i := 73) rfl rfl
abbrev ww_1183 : Cond := .instanceMethod yX12_leaks
theorem wi_1183 : ww_1183 ∈ mj_tb := mj_t8 (i := 71) rfl rfl
abbrev ww_1184 : Cond := .selects RX12 yX12_leaks yX12_leaks
theorem wi_1184 : ww_1184 ∈ mj_tb := mj_t8 (i := 72) rfl rfl
abbrev ww_1185 : Cond := .code yX12_let cX12_let 3 (some .int)
theorem wi_1185 : ww_1185 ∈ mj_tb := mj_t8 (i := 24) rfl rfl
abbrev ww_1186 : Cond := .instanceMethod yX12_let
theorem wi_1186 : ww_1186 ∈ mj_tb := mj_t8 (i := 22) rfl rfl
abbrev ww_1187 : Cond := .selects RX12 yX12_let yX12_let
theorem wi_1187 : ww_1187 ∈ mj_tb := mj_t8 (i := 23) rfl rfl
abbrev ww_1188 : Cond := .code yX12_lets cX12_lets 6 none
theorem wi_1188 : ww_1188 ∈ mj_tb := mj_t7 (i := 217) rfl rfl
abbrev ww_1189 : Cond := .instanceMethod yX12_lets
theorem wi_1189 : ww_1189 ∈ mj_tb := mj_t7 (i := 216) rfl rfl
abbrev ww_1190 : Cond := .selects RX12 yX12_lets yX12_lets
theorem wi_1190 : ww_1190 ∈ mj_tb := mj_q6 (i := 2) rfl rfl rfl
abbrev ww_1191 : Cond := .code yX12_month cX12_month 7 none
theorem wi_1191 : ww_1191 ∈ mj_tb := mj_t7 (i := 213) rfl rfl
abbrev ww_1192 : Cond := .instanceMethod yX12_month
theorem wi_1192 : ww_1192 ∈ mj_tb := mj_t7 (i := 212) rfl rfl
abbrev ww_1193 : Cond := .selects RX12 yX12_month yX12_month
theorem wi_1193 : ww_1193 ∈ mj_tb := mj_q6 (i := 1) rfl rfl rfl
abbrev ww_1194 : Cond := .code yX12_more cX12_more 4 none
theorem wi_1194 : ww_1194 ∈ mj_tb := mj_t7 (i := 233) rfl rfl
abbrev ww_1195 : Cond := .instanceMethod yX12_more
theorem wi_1195 : ww_1195 ∈ mj_tb := mj_t7 (i := 232) rfl rfl
abbrev ww_1196 : Cond := .selects RX12 yX12_more yX12_more
theorem wi_1196 : ww_1196 ∈ mj_tb := mj_q6 (i := 6) rfl rfl rfl
abbrev ww_1197 : Cond := .code yX12_must cX12_must 7 (some .int)
theorem wi_1197 : ww_1197 ∈ mj_tb := mj_t8 (i := 163) rfl rfl
abbrev ww_1198 : Cond := .instanceMethod yX12_must
theorem wi_1198 : ww_1198 ∈ mj_tb := mj_t8 (i := 161) rfl rfl
abbrev ww_1199 : Cond := .selects RX12 yX12_must yX12_must
theorem wi_1199 : ww_1199 ∈ mj_tb := mj_t8 (i := 162) rfl rfl
abbrev ww_1200 : Cond := .code yX12_next cX12_next 4 none
theorem wi_1200 : ww_1200 ∈ mj_tb := mj_t7 (i := 78) rfl rfl
abbrev ww_1201 : Cond := .instanceMethod yX12_next
theorem wi_1201 : ww_1201 ∈ mj_tb := mj_t7 (i := 77) rfl rfl
abbrev ww_1202 : Cond := .selects RX12 yX12_next yX12_next
theorem wi_1202 : ww_1202 ∈ mj_tb := mj_q4 (i := 13) rfl rfl rfl
abbrev ww_1203 : Cond := .code yX12_nots cX12_nots 1 none
theorem wi_1203 : ww_1203 ∈ mj_tb := mj_t8 (i := 171) rfl rfl
abbrev ww_1204 : Cond := .instanceMethod yX12_nots
theorem wi_1204 : ww_1204 ∈ mj_tb := mj_t8 (i := 170) rfl rfl
abbrev ww_1205 : Cond := .selects RX12 yX12_nots yX12_nots
theorem wi_1205 : ww_1205 ∈ mj_tb := mj_q7 (i := 8) rfl rfl rfl
abbrev ww_1206 : Cond := .code yX12_octet cX12_octet 2 (some .int)
theorem wi_1206 : ww_1206 ∈ mj_tb := mj_t8 (i := 77) rfl rfl
abbrev ww_1207 : Cond := .instanceMethod yX12_octet
theorem wi_1207 : ww_1207 ∈ mj_tb := mj_t8 (i := 76) rfl rfl
abbrev ww_1208 : Cond := .selects RX12 yX12_octet yX12_octet
theorem wi_1208 : ww_1208 ∈ mj_tb := mj_q6 (i := 15) rfl rfl rfl
abbrev ww_1209 : Cond := .code yX12_of cX12_of 3 (some .int)
theorem wi_1209 : ww_1209 ∈ mj_tb := mj_t7 (i := 225) rfl rfl
abbrev ww_1210 : Cond := .instanceMethod yX12_of
theorem wi_1210 : ww_1210 ∈ mj_tb := mj_t7 (i := 224) rfl rfl
abbrev ww_1211 : Cond := .selects RX12 yX12_of yX12_of
theorem wi_1211 : ww_1211 ∈ mj_tb := mj_q6 (i := 4) rfl rfl rfl
abbrev ww_1212 : Cond := .code yX12_offer cX12_offer 5 (some .boolean)
theorem wi_1212 : ww_1212 ∈ mj_tb := mj_t7 (i := 177) rfl rfl
abbrev ww_1213 : Cond := .instanceMethod yX12_offer
theorem wi_1213 : ww_1213 ∈ mj_tb := mj_t7 (i := 175) rfl rfl
abbrev ww_1214 : Cond := .selects RX12 yX12_offer yX12_offer
theorem wi_1214 : ww_1214 ∈ mj_tb := mj_t7 (i := 176) rfl rfl
abbrev ww_1215 : Cond := .code yX12_on cX12_on 4 (some .int)
theorem wi_1215 : ww_1215 ∈ mj_tb := mj_t7 (i := 209) rfl rfl
abbrev ww_1216 : Cond := .instanceMethod yX12_on
theorem wi_1216 : ww_1216 ∈ mj_tb := mj_t7 (i := 207) rfl rfl
abbrev ww_1217 : Cond := .selects RX12 yX12_on yX12_on
theorem wi_1217 : ww_1217 ∈ mj_tb := mj_t7 (i := 208) rfl rfl
abbrev ww_1218 : Cond := .code yX12_operand cX12_operand 5 (some .boolean)
theorem wi_1218 : ww_1218 ∈ mj_tb := mj_t8 (i := 187) rfl rfl
abbrev ww_1219 : Cond := .instanceMethod yX12_operand
theorem wi_1219 : ww_1219 ∈ mj_tb := mj_t8 (i := 186) rfl rfl
abbrev ww_1220 : Cond := .selects RX12 yX12_operand yX12_operand
theorem wi_1220 : ww_1220 ∈ mj_tb := mj_q7 (i := 12) rfl rfl rfl
abbrev ww_1221 : Cond := .code yX12_pays cX12_pays 3 none
theorem wi_1221 : ww_1221 ∈ mj_tb := mj_t7 (i := 229) rfl rfl
abbrev ww_1222 : Cond := .instanceMethod yX12_pays
theorem wi_1222 : ww_1222 ∈ mj_tb := mj_t7 (i := 228) rfl rfl
abbrev ww_1223 : Cond := .selects RX12 yX12_pays yX12_pays
theorem wi_1223 : ww_1223 ∈ mj_tb := mj_q6 (i := 5) rfl rfl rfl
abbrev ww_1224 : Cond := .code yX12_peek cX12_peek 1 (some .int)
theorem wi_1224 : ww_1224 ∈ mj_tb := mj_t7 (i := 82) rfl rfl
abbrev ww_1225 : Cond := .instanceMethod yX12_peek
theorem wi_1225 : ww_1225 ∈ mj_tb := mj_t7 (i := 81) rfl rfl
abbrev ww_1226 : Cond := .selects RX12 yX12_peek yX12_peek
theorem wi_1226 : ww_1226 ∈ mj_tb := mj_q4 (i := 14) rfl rfl rfl
abbrev ww_1227 : Cond := .code yX12_placeOf cX12_placeOf 2 (some .int)
theorem wi_1227 : ww_1227 ∈ mj_tb := mj_t7 (i := 237) rfl rfl
abbrev ww_1228 : Cond := .instanceMethod yX12_placeOf
theorem wi_1228 : ww_1228 ∈ mj_tb := mj_t7 (i := 236) rfl rfl
abbrev ww_1229 : Cond := .selects RX12 yX12_placeOf yX12_placeOf
theorem wi_1229 : ww_1229 ∈ mj_tb := mj_q6 (i := 7) rfl rfl rfl
abbrev ww_1230 : Cond := .code yX12_plain cX12_plain 2 (some .int)
theorem wi_1230 : ww_1230 ∈ mj_tb := mj_t7 (i := 70) rfl rfl
abbrev ww_1231 : Cond := .instanceMethod yX12_plain
theorem wi_1231 : ww_1231 ∈ mj_tb := mj_t7 (i := 68) rfl rfl
abbrev ww_1232 : Cond := .selects RX12 yX12_plain yX12_plain
theorem wi_1232 : ww_1232 ∈ mj_tb := mj_t7 (i := 69) rfl rfl
abbrev ww_1233 : Cond := .code yX12_plan cX12_plan 2 (some .int)
theorem wi_1233 : ww_1233 ∈ mj_tb := mj_t8 (i := 49) rfl rfl
abbrev ww_1234 : Cond := .instanceMethod yX12_plan
theorem wi_1234 : ww_1234 ∈ mj_tb := mj_t8 (i := 47) rfl rfl
abbrev ww_1235 : Cond := .selects RX12 yX12_plan yX12_plan
theorem wi_1235 : ww_1235 ∈ mj_tb := mj_t8 (i := 48) rfl rfl
abbrev ww_1236 : Cond := .code yX12_price cX12_price 2 (some .int)
theorem wi_1236 : ww_1236 ∈ mj_tb := mj_t8 (i := 69) rfl rfl
abbrev ww_1237 : Cond := .instanceMethod yX12_price
theorem wi_1237 : ww_1237 ∈ mj_tb := mj_t8 (i := 67) rfl rfl
abbrev ww_1238 : Cond := .selects RX12 yX12_price yX12_price
theorem wi_1238 : ww_1238 ∈ mj_tb := mj_t8 (i := 68) rfl rfl
abbrev ww_1239 : Cond := .code yX12_put cX12_put 2 none
theorem wi_1239 : ww_1239 ∈ mj_tb := mj_t8 (i := 138) rfl rfl
abbrev ww_1240 : Cond := .instanceMethod yX12_put
theorem wi_1240 : ww_1240 ∈ mj_tb := mj_t8 (i := 137) rfl rfl
abbrev ww_1241 : Cond := .selects RX12 yX12_put yX12_put
theorem wi_1241 : ww_1241 ∈ mj_tb := mj_q7 (i := 6) rfl rfl rfl
abbrev ww_1242 : Cond := .code yX12_putName cX12_putName 4 none
theorem wi_1242 : ww_1242 ∈ mj_tb := mj_t8 (i := 142) rfl rfl
abbrev ww_1243 : Cond := .instanceMethod yX12_putName
theorem wi_1243 : ww_1243 ∈ mj_tb := mj_t8 (i := 141) rfl rfl
abbrev ww_1244 : Cond := .selects RX12 yX12_putName yX12_putName
theorem wi_1244 : ww_1244 ∈ mj_tb := mj_q7 (i := 7) rfl rfl rfl
abbrev ww_1245 : Cond := .code yX12_putNumber cX12_putNumber 2 none
theorem wi_1245 : ww_1245 ∈ mj_tb := mj_t8 (i := 134) rfl rfl
abbrev ww_1246 : Cond := .instanceMethod yX12_putNumber
theorem wi_1246 : ww_1246 ∈ mj_tb := mj_t8 (i := 133) rfl rfl
abbrev ww_1247 : Cond := .selects RX12 yX12_putNumber yX12_putNumber
theorem wi_1247 : ww_1247 ∈ mj_tb := mj_q7 (i := 5) rfl rfl rfl
abbrev ww_1248 : Cond := .code yX12_readBid cX12_readBid 3 (some .boolean)
theorem wi_1248 : ww_1248 ∈ mj_tb := mj_t7 (i := 126) rfl rfl
abbrev ww_1249 : Cond := .instanceMethod yX12_readBid
theorem wi_1249 : ww_1249 ∈ mj_tb := mj_t7 (i := 125) rfl rfl
abbrev ww_1250 : Cond := .selects RX12 yX12_readBid yX12_readBid
theorem wi_1250 : ww_1250 ∈ mj_tb := mj_q5 (i := 6) rfl rfl rfl
abbrev ww_1251 : Cond := .code yX12_readOf cX12_readOf 5 (some .boolean)
theorem wi_1251 : ww_1251 ∈ mj_tb := mj_t7 (i := 130) rfl rfl
abbrev ww_1252 : Cond := .instanceMethod yX12_readOf
theorem wi_1252 : ww_1252 ∈ mj_tb := mj_t7 (i := 129) rfl rfl
abbrev ww_1253 : Cond := .selects RX12 yX12_readOf yX12_readOf
theorem wi_1253 : ww_1253 ∈ mj_tb := mj_q5 (i := 7) rfl rfl rfl
abbrev ww_1254 : Cond := .code yX12_readTown cX12_readTown 3 (some .boolean)
theorem wi_1254 : ww_1254 ∈ mj_tb := mj_t7 (i := 100) rfl rfl
abbrev ww_1255 : Cond := .instanceMethod yX12_readTown
theorem wi_1255 : ww_1255 ∈ mj_tb := mj_t7 (i := 99) rfl rfl
abbrev ww_1256 : Cond := .selects RX12 yX12_readTown yX12_readTown
theorem wi_1256 : ww_1256 ∈ mj_tb := mj_q5 (i := 1) rfl rfl rfl
abbrev ww_1257 : Cond := .code yX12_restore cX12_restore 3 (some .boolean)
theorem wi_1257 : ww_1257 ∈ mj_tb := mj_t8 (i := 211) rfl rfl
abbrev ww_1258 : Cond := .instanceMethod yX12_restore
theorem wi_1258 : ww_1258 ∈ mj_tb := mj_t8 (i := 209) rfl rfl
abbrev ww_1259 : Cond := .selects RX12 yX12_restore yX12_restore
theorem wi_1259 : ww_1259 ∈ mj_tb := mj_t8 (i := 210) rfl rfl
abbrev ww_1260 : Cond := .code yX12_rounds cX12_rounds 9 (some .int)
theorem wi_1260 : ww_1260 ∈ mj_tb := mj_t8 (i := 57) rfl rfl
abbrev ww_1261 : Cond := .instanceMethod yX12_rounds
theorem wi_1261 : ww_1261 ∈ mj_tb := mj_t8 (i := 55) rfl rfl
abbrev ww_1262 : Cond := .selects RX12 yX12_rounds yX12_rounds
theorem wi_1262 : ww_1262 ∈ mj_tb := mj_t8 (i := 56) rfl rfl
abbrev ww_1263 : Cond := .code yX12_row cX12_row 2 (some .boolean)
theorem wi_1263 : ww_1263 ∈ mj_tb := mj_t7 (i := 92) rfl rfl
abbrev ww_1264 : Cond := .instanceMethod yX12_row
theorem wi_1264 : ww_1264 ∈ mj_tb := mj_t7 (i := 91) rfl rfl
abbrev ww_1265 : Cond := .selects RX12 yX12_row yX12_row
theorem wi_1265 : ww_1265 ∈ mj_tb := mj_q4 (i := 15) rfl rfl rfl
abbrev ww_1266 : Cond := .code yX12_said cX12_said 4 (some .int)
theorem wi_1266 : ww_1266 ∈ mj_tb := mj_t8 (i := 195) rfl rfl
abbrev ww_1267 : Cond := .instanceMethod yX12_said
theorem wi_1267 : ww_1267 ∈ mj_tb := mj_t8 (i := 193) rfl rfl
abbrev ww_1268 : Cond := .selects RX12 yX12_said yX12_said
theorem wi_1268 : ww_1268 ∈ mj_tb := mj_t8 (i := 194) rfl rfl
abbrev ww_1269 : Cond := .code yX12_sentence cX12_sentence 3 (some .int)
theorem wi_1269 : ww_1269 ∈ mj_tb := mj_t8 (i := 167) rfl rfl
abbrev ww_1270 : Cond := .instanceMethod yX12_sentence
theorem wi_1270 : ww_1270 ∈ mj_tb := mj_t8 (i := 165) rfl rfl
abbrev ww_1271 : Cond := .selects RX12 yX12_sentence yX12_sentence
theorem wi_1271 : ww_1271 ∈ mj_tb := mj_t8 (i := 166) rfl rfl
abbrev ww_1272 : Cond := .code yX12_shores cX12_shores 6 (some .int)
theorem wi_1272 : ww_1272 ∈ mj_tb := mj_t8 (i := 159) rfl rfl
abbrev ww_1273 : Cond := .instanceMethod yX12_shores
theorem wi_1273 : ww_1273 ∈ mj_tb := mj_t8 (i := 157) rfl rfl
abbrev ww_1274 : Cond := .selects RX12 yX12_shores yX12_shores
theorem wi_1274 : ww_1274 ∈ mj_tb := mj_t8 (i := 158) rfl rfl
abbrev ww_1275 : Cond := .code yX12_shoresOf cX12_shoresOf 3 (some .int)
theorem wi_1275 : ww_1275 ∈ mj_tb := mj_t8 (i := 105) rfl rfl
abbrev ww_1276 : Cond := .instanceMethod yX12_shoresOf
theorem wi_1276 : ww_1276 ∈ mj_tb := mj_t8 (i := 103) rfl rfl
abbrev ww_1277 : Cond := .selects RX12 yX12_shoresOf yX12_shoresOf
theorem wi_1277 : ww_1277 ∈ mj_tb := mj_t8 (i := 104) rfl rfl
abbrev ww_1278 : Cond := .code yX12_sign cX12_sign 2 (some .boolean)
theorem wi_1278 : ww_1278 ∈ mj_tb := mj_t7 (i := 134) rfl rfl
abbrev ww_1279 : Cond := .instanceMethod yX12_sign
theorem wi_1279 : ww_1279 ∈ mj_tb := mj_t7 (i := 133) rfl rfl
abbrev ww_1280 : Cond := .selects RX12 yX12_sign yX12_sign
theorem wi_1280 : ww_1280 ∈ mj_tb := mj_q5 (i := 8) rfl rfl rfl
abbrev ww_1281 : Cond := .code yX12_sizeOf cX12_sizeOf 1 (some .int)
theorem wi_1281 : ww_1281 ∈ mj_tb := mj_t8 (i := 0) rfl rfl
abbrev ww_1282 : Cond := .static yX12_sizeOf
theorem wi_1282 : ww_1282 ∈ mj_tb := mj_t7 (i := 239) rfl rfl
abbrev ww_1283 : Cond := .code yX12_take cX12_take 2 (some .boolean)
theorem wi_1283 : ww_1283 ∈ mj_tb := mj_t8 (i := 53) rfl rfl
abbrev ww_1284 : Cond := .instanceMethod yX12_take
theorem wi_1284 : ww_1284 ∈ mj_tb := mj_t8 (i := 51) rfl rfl
abbrev ww_1285 : Cond := .selects RX12 yX12_take yX12_take
theorem wi_1285 : ww_1285 ∈ mj_tb := mj_t8 (i := 52) rfl rfl
abbrev ww_1286 : Cond := .code yX12_taken cX12_taken 2 none
theorem wi_1286 : ww_1286 ∈ mj_tb := mj_t7 (i := 74) rfl rfl
abbrev ww_1287 : Cond := .instanceMethod yX12_taken
theorem wi_1287 : ww_1287 ∈ mj_tb := mj_t7 (i := 73) rfl rfl
abbrev ww_1288 : Cond := .selects RX12 yX12_taken yX12_taken
theorem wi_1288 : ww_1288 ∈ mj_tb := mj_q4 (i := 12) rfl rfl rfl
abbrev ww_1289 : Cond := .code yX12_takes cX12_takes 3 (some .boolean)
theorem wi_1289 : ww_1289 ∈ mj_tb := mj_t7 (i := 116) rfl rfl
abbrev ww_1290 : Cond := .instanceMethod yX12_takes
theorem wi_1290 : ww_1290 ∈ mj_tb := mj_t7 (i := 115) rfl rfl
abbrev ww_1291 : Cond := .selects RX12 yX12_takes yX12_takes
theorem wi_1291 : ww_1291 ∈ mj_tb := mj_q5 (i := 5) rfl rfl rfl
abbrev ww_1292 : Cond := .code yX12_thinks cX12_thinks 2 none
theorem wi_1292 : ww_1292 ∈ mj_tb := mj_t8 (i := 81) rfl rfl
abbrev ww_1293 : Cond := .instanceMethod yX12_thinks
theorem wi_1293 : ww_1293 ∈ mj_tb := mj_t8 (i := 80) rfl rfl
abbrev ww_1294 : Cond := .selects RX12 yX12_thinks yX12_thinks
theorem wi_1294 : ww_1294 ∈ mj_tb := mj_q7 (i := 0) rfl rfl rfl
abbrev ww_1295 : Cond := .code yX12_thirsty cX12_thirsty 3 (some .int)
theorem wi_1295 : ww_1295 ∈ mj_tb := mj_t8 (i := 118) rfl rfl
abbrev ww_1296 : Cond := .instanceMethod yX12_thirsty
theorem wi_1296 : ww_1296 ∈ mj_tb := mj_t8 (i := 116) rfl rfl
abbrev ww_1297 : Cond := .selects RX12 yX12_thirsty yX12_thirsty
theorem wi_1297 : ww_1297 ∈ mj_tb := mj_t8 (i := 117) rfl rfl
abbrev ww_1298 : Cond := .code yX12_throwsIf cX12_throwsIf 2 (some .boolean)
theorem wi_1298 : ww_1298 ∈ mj_tb := mj_t7 (i := 154) rfl rfl
abbrev ww_1299 : Cond := .instanceMethod yX12_throwsIf
theorem wi_1299 : ww_1299 ∈ mj_tb := mj_t7 (i := 153) rfl rfl
abbrev ww_1300 : Cond := .selects RX12 yX12_throwsIf yX12_throwsIf
theorem wi_1300 : ww_1300 ∈ mj_tb := mj_q5 (i := 11) rfl rfl rfl
abbrev ww_1301 : Cond := .code yX12_told cX12_told 3 (some .int)
theorem wi_1301 : ww_1301 ∈ mj_tb := mj_t7 (i := 146) rfl rfl
abbrev ww_1302 : Cond := .instanceMethod yX12_told
theorem wi_1302 : ww_1302 ∈ mj_tb := mj_t7 (i := 144) rfl rfl
abbrev ww_1303 : Cond := .selects RX12 yX12_told yX12_told
theorem wi_1303 : ww_1303 ∈ mj_tb := mj_t7 (i := 145) rfl rfl
abbrev ww_1304 : Cond := .code yX12_toldOf cX12_toldOf 3 (some .int)
theorem wi_1304 : ww_1304 ∈ mj_tb := mj_t7 (i := 158) rfl rfl
abbrev ww_1305 : Cond := .instanceMethod yX12_toldOf
theorem wi_1305 : ww_1305 ∈ mj_tb := mj_t7 (i := 157) rfl rfl
abbrev ww_1306 : Cond := .selects RX12 yX12_toldOf yX12_toldOf
theorem wi_1306 : ww_1306 ∈ mj_tb := mj_q5 (i := 12) rfl rfl rfl
abbrev ww_1307 : Cond := .code yX12_town cX12_town 3 (some .int)
theorem wi_1307 : ww_1307 ∈ mj_tb := mj_t8 (i := 20) rfl rfl
abbrev ww_1308 : Cond := .instanceMethod yX12_town
theorem wi_1308 : ww_1308 ∈ mj_tb := mj_t8 (i := 18) rfl rfl
abbrev ww_1309 : Cond := .selects RX12 yX12_town yX12_town
theorem wi_1309 : ww_1309 ∈ mj_tb := mj_t8 (i := 19) rfl rfl
abbrev ww_1310 : Cond := .code yX12_undo cX12_undo 1 (some .int)
theorem wi_1310 : ww_1310 ∈ mj_tb := mj_t7 (i := 185) rfl rfl
abbrev ww_1311 : Cond := .instanceMethod yX12_undo
theorem wi_1311 : ww_1311 ∈ mj_tb := mj_t7 (i := 183) rfl rfl
abbrev ww_1312 : Cond := .selects RX12 yX12_undo yX12_undo
theorem wi_1312 : ww_1312 ∈ mj_tb := mj_t7 (i := 184) rfl rfl
abbrev ww_1313 : Cond := .code yX12_uses cX12_uses 5 none
theorem wi_1313 : ww_1313 ∈ mj_tb := mj_t8 (i := 12) rfl rfl
abbrev ww_1314 : Cond := .instanceMethod yX12_uses
theorem wi_1314 : ww_1314 ∈ mj_tb := mj_t8 (i := 11) rfl rfl
abbrev ww_1315 : Cond := .selects RX12 yX12_uses yX12_uses
theorem wi_1315 : ww_1315 ∈ mj_tb := mj_q6 (i := 10) rfl rfl rfl
abbrev ww_1316 : Cond := .code yX12_wasLet cX12_wasLet 3 (some .boolean)
theorem wi_1316 : ww_1316 ∈ mj_tb := mj_t8 (i := 4) rfl rfl
abbrev ww_1317 : Cond := .instanceMethod yX12_wasLet
theorem wi_1317 : ww_1317 ∈ mj_tb := mj_t8 (i := 3) rfl rfl
abbrev ww_1318 : Cond := .selects RX12 yX12_wasLet yX12_wasLet
theorem wi_1318 : ww_1318 ∈ mj_tb := mj_q6 (i := 8) rfl rfl rfl
abbrev ww_1319 : Cond := .code yX12_water cX12_water 2 (some .int)
theorem wi_1319 : ww_1319 ∈ mj_tb := mj_t7 (i := 173) rfl rfl
abbrev ww_1320 : Cond := .instanceMethod yX12_water
theorem wi_1320 : ww_1320 ∈ mj_tb := mj_t7 (i := 171) rfl rfl
abbrev ww_1321 : Cond := .selects RX12 yX12_water yX12_water
theorem wi_1321 : ww_1321 ∈ mj_tb := mj_t7 (i := 172) rfl rfl
abbrev ww_1322 : Cond := .code yX12_wettest cX12_wettest 4 (some .int)
theorem wi_1322 : ww_1322 ∈ mj_tb := mj_t8 (i := 97) rfl rfl
abbrev ww_1323 : Cond := .instanceMethod yX12_wettest
theorem wi_1323 : ww_1323 ∈ mj_tb := mj_t8 (i := 95) rfl rfl
abbrev ww_1324 : Cond := .selects RX12 yX12_wettest yX12_wettest
theorem wi_1324 : ww_1324 ∈ mj_tb := mj_t8 (i := 96) rfl rfl
abbrev ww_1325 : Cond := .code yX12_wholeYear cX12_wholeYear 3 none
theorem wi_1325 : ww_1325 ∈ mj_tb := mj_t8 (i := 109) rfl rfl
abbrev ww_1326 : Cond := .instanceMethod yX12_wholeYear
theorem wi_1326 : ww_1326 ∈ mj_tb := mj_t8 (i := 108) rfl rfl
abbrev ww_1327 : Cond := .selects RX12 yX12_wholeYear yX12_wholeYear
theorem wi_1327 : ww_1327 ∈ mj_tb := mj_q7 (i := 3) rfl rfl rfl
abbrev ww_1328 : Cond := .code yX12_worth cX12_worth 5 (some .int)
theorem wi_1328 : ww_1328 ∈ mj_tb := mj_t8 (i := 151) rfl rfl
abbrev ww_1329 : Cond := .instanceMethod yX12_worth
theorem wi_1329 : ww_1329 ∈ mj_tb := mj_t8 (i := 149) rfl rfl
abbrev ww_1330 : Cond := .selects RX12 yX12_worth yX12_worth
theorem wi_1330 : ww_1330 ∈ mj_tb := mj_t8 (i := 150) rfl rfl
abbrev ww_1331 : Cond := .code yX12_write cX12_write 2 (some .int)
theorem wi_1331 : ww_1331 ∈ mj_tb := mj_t8 (i := 130) rfl rfl
abbrev ww_1332 : Cond := .instanceMethod yX12_write
theorem wi_1332 : ww_1332 ∈ mj_tb := mj_t8 (i := 128) rfl rfl
abbrev ww_1333 : Cond := .selects RX12 yX12_write yX12_write
theorem wi_1333 : ww_1333 ∈ mj_tb := mj_t8 (i := 129) rfl rfl
abbrev ww_1334 : Cond := .code yX12_year cX12_year 4 (some .int)
theorem wi_1334 : ww_1334 ∈ mj_tb := mj_t8 (i := 16) rfl rfl
abbrev ww_1335 : Cond := .instanceMethod yX12_year
theorem wi_1335 : ww_1335 ∈ mj_tb := mj_t8 (i := 14) rfl rfl
abbrev ww_1336 : Cond := .selects RX12 yX12_year yX12_year
theorem wi_1336 : ww_1336 ∈ mj_tb := mj_t8 (i := 15) rfl rfl
abbrev ww_1337 : Cond := .code yX9_find cX9_find 3 (some (.object "RentRiver$Word"))
theorem wi_1337 : ww_1337 ∈ mj_tb := mj_t3 (i := 76) rfl rfl
abbrev ww_1338 : Cond := .initialized RX9
theorem wi_1338 : ww_1338 ∈ mj_tb := mj_t1 (i := 15) rfl rfl
abbrev ww_1339 : Cond := .static yX9_find
theorem wi_1339 : ww_1339 ∈ mj_tb := mj_t3 (i := 75) rfl rfl
abbrev ww_1340 : Cond := .code yX9_isAboutTown cX9_isAboutTown 1 (some .boolean)
theorem wi_1340 : ww_1340 ∈ mj_tb := mj_t3 (i := 138) rfl rfl
abbrev ww_1341 : Cond := .instanceMethod yX9_isAboutTown
theorem wi_1341 : ww_1341 ∈ mj_tb := mj_t3 (i := 136) rfl rfl
abbrev ww_1342 : Cond := .selects RX9 yX9_isAboutTown yX9_isAboutTown
theorem wi_1342 : ww_1342 ∈ mj_tb := mj_t3 (i := 137) rfl rfl
abbrev ww_1343 : Cond := .code yX9_isMeasure cX9_isMeasure 1 (some .boolean)
theorem wi_1343 : ww_1343 ∈ mj_tb := mj_t5 (i := 171) rfl rfl
abbrev ww_1344 : Cond := .instanceMethod yX9_isMeasure
theorem wi_1344 : ww_1344 ∈ mj_tb := mj_t5 (i := 169) rfl rfl
abbrev ww_1345 : Cond := .selects RX9 yX9_isMeasure yX9_isMeasure
theorem wi_1345 : ww_1345 ∈ mj_tb := mj_t5 (i := 170) rfl rfl
abbrev ww_1346 : Cond := .classLink RL 8 RX11
theorem wi_1346 : ww_1346 ∈ mj_tb := mj_t1 (i := 21) rfl rfl
abbrev ww_1347 : Cond := .instantiable RX11 14
theorem wi_1347 : ww_1347 ∈ mj_tb := mj_t1 (i := 22) rfl rfl
abbrev ww_1348 : Cond := .methodLink RL 15 yX11_init
theorem wi_1348 : ww_1348 ∈ mj_tb := mj_t1 (i := 23) rfl rfl
abbrev ww_1349 : Cond := .classLink RL 16 RX12
theorem wi_1349 : ww_1349 ∈ mj_tb := mj_t6 (i := 91) rfl rfl
abbrev ww_1350 : Cond := .instantiable RX12 62
theorem wi_1350 : ww_1350 ∈ mj_tb := mj_t6 (i := 85) rfl rfl
abbrev ww_1351 : Cond := .methodLink RL 18 yX12_init
theorem wi_1351 : ww_1351 ∈ mj_tb := mj_t6 (i := 92) rfl rfl
abbrev ww_1352 : Cond := .methodLink RL 19 yX11_feed
theorem wi_1352 : ww_1352 ∈ mj_tb := mj_t3 (i := 21) rfl rfl
abbrev ww_1353 : Cond := .methodLink RL 23 yX12_feed
theorem wi_1353 : ww_1353 ∈ mj_tb := mj_t6 (i := 78) rfl rfl
abbrev ww_1354 : Cond := .methodLink RL 24 yX11_end
theorem wi_1354 : ww_1354 ∈ mj_tb := mj_t3 (i := 33) rfl rfl
abbrev ww_1355 : Cond := .methodLink RL 28 yX12_end
theorem wi_1355 : ww_1355 ∈ mj_tb := mj_t6 (i := 87) rfl rfl
abbrev ww_1356 : Cond := .methodLink RL 29 yX11_plain
theorem wi_1356 : ww_1356 ∈ mj_tb := mj_t3 (i := 37) rfl rfl
abbrev ww_1357 : Cond := .methodLink RL 33 yX12_plain
theorem wi_1357 : ww_1357 ∈ mj_tb := mj_t7 (i := 67) rfl rfl
abbrev ww_1358 : Cond := .methodLink RL 34 yX11_fault
theorem wi_1358 : ww_1358 ∈ mj_tb := mj_t3 (i := 192) rfl rfl
abbrev ww_1359 : Cond := .methodLink RL 37 yX12_fault
theorem wi_1359 : ww_1359 ∈ mj_tb := mj_t7 (i := 139) rfl rfl
abbrev ww_1360 : Cond := .methodLink RL 43 yX12_told
theorem wi_1360 : ww_1360 ∈ mj_tb := mj_t7 (i := 143) rfl rfl
abbrev ww_1361 : Cond := .methodLink RL 44 yX11_bid
theorem wi_1361 : ww_1361 ∈ mj_tb := mj_t3 (i := 196) rfl rfl
abbrev ww_1362 : Cond := .methodLink RL 47 yX12_bid
theorem wi_1362 : ww_1362 ∈ mj_tb := mj_t7 (i := 159) rfl rfl
abbrev ww_1363 : Cond := .methodLink RL 48 yX11_offer
theorem wi_1363 : ww_1363 ∈ mj_tb := mj_t3 (i := 207) rfl rfl
abbrev ww_1364 : Cond := .methodLink RL 52 yX12_offer
theorem wi_1364 : ww_1364 ∈ mj_tb := mj_t7 (i := 174) rfl rfl
abbrev ww_1365 : Cond := .methodLink RL 53 yX11_undo
theorem wi_1365 : ww_1365 ∈ mj_tb := mj_t3 (i := 219) rfl rfl
abbrev ww_1366 : Cond := .methodLink RL 56 yX12_undo
theorem wi_1366 : ww_1366 ∈ mj_tb := mj_t7 (i := 182) rfl rfl
abbrev ww_1367 : Cond := .methodLink RL 57 yX11_water
theorem wi_1367 : ww_1367 ∈ mj_tb := mj_t3 (i := 228) rfl rfl
abbrev ww_1368 : Cond := .methodLink RL 61 yX12_water
theorem wi_1368 : ww_1368 ∈ mj_tb := mj_t7 (i := 170) rfl rfl
abbrev ww_1369 : Cond := .methodLink RL 62 yX11_contracts
theorem wi_1369 : ww_1369 ∈ mj_tb := mj_t3 (i := 232) rfl rfl
abbrev ww_1370 : Cond := .methodLink RL 65 yX12_contracts
theorem wi_1370 : ww_1370 ∈ mj_tb := mj_t7 (i := 186) rfl rfl
abbrev ww_1371 : Cond := .methodLink RL 66 yX11_contract
theorem wi_1371 : ww_1371 ∈ mj_tb := mj_t4 (i := 28) rfl rfl
abbrev ww_1372 : Cond := .methodLink RL 69 yX12_contract
theorem wi_1372 : ww_1372 ∈ mj_tb := mj_t7 (i := 194) rfl rfl
abbrev ww_1373 : Cond := .methodLink RL 70 yX11_begin
theorem wi_1373 : ww_1373 ∈ mj_tb := mj_t4 (i := 33) rfl rfl
abbrev ww_1374 : Cond := .methodLink RL 74 yX12_begin
theorem wi_1374 : ww_1374 ∈ mj_tb := mj_t7 (i := 198) rfl rfl
abbrev ww_1375 : Cond := .methodLink RL 75 yX11_on
theorem wi_1375 : ww_1375 ∈ mj_tb := mj_t4 (i := 41) rfl rfl
abbrev ww_1376 : Cond := .methodLink RL 78 yX12_on
theorem wi_1376 : ww_1376 ∈ mj_tb := mj_t7 (i := 206) rfl rfl
abbrev ww_1377 : Cond := .methodLink RL 79 yX11_year
theorem wi_1377 : ww_1377 ∈ mj_tb := mj_t4 (i := 109) rfl rfl
abbrev ww_1378 : Cond := .methodLink RL 82 yX12_year
theorem wi_1378 : ww_1378 ∈ mj_tb := mj_t8 (i := 13) rfl rfl
abbrev ww_1379 : Cond := .methodLink RL 83 yX11_town
theorem wi_1379 : ww_1379 ∈ mj_tb := mj_t4 (i := 121) rfl rfl
abbrev ww_1380 : Cond := .methodLink RL 86 yX12_town
theorem wi_1380 : ww_1380 ∈ mj_tb := mj_t8 (i := 17) rfl rfl
abbrev ww_1381 : Cond := .methodLink RL 87 yX11_let
theorem wi_1381 : ww_1381 ∈ mj_tb := mj_t4 (i := 125) rfl rfl
abbrev ww_1382 : Cond := .methodLink RL 90 yX12_let
theorem wi_1382 : ww_1382 ∈ mj_tb := mj_t8 (i := 21) rfl rfl
abbrev ww_1383 : Cond := .methodLink RL 91 yX11_droughts
theorem wi_1383 : ww_1383 ∈ mj_tb := mj_t4 (i := 129) rfl rfl
abbrev ww_1384 : Cond := .methodLink RL 94 yX12_droughts
theorem wi_1384 : ww_1384 ∈ mj_tb := mj_t8 (i := 25) rfl rfl
abbrev ww_1385 : Cond := .methodLink RL 95 yX11_cheapest
theorem wi_1385 : ww_1385 ∈ mj_tb := mj_t4 (i := 133) rfl rfl
abbrev ww_1386 : Cond := .methodLink RL 98 yX12_cheapest
theorem wi_1386 : ww_1386 ∈ mj_tb := mj_t8 (i := 29) rfl rfl
abbrev ww_1387 : Cond := .methodLink RL 99 yX11_plan
theorem wi_1387 : ww_1387 ∈ mj_tb := mj_t4 (i := 210) rfl rfl
abbrev ww_1388 : Cond := .methodLink RL 102 yX12_plan
theorem wi_1388 : ww_1388 ∈ mj_tb := mj_t8 (i := 46) rfl rfl
abbrev ww_1389 : Cond := .methodLink RL 103 yX11_take
theorem wi_1389 : ww_1389 ∈ mj_tb := mj_t4 (i := 214) rfl rfl
abbrev ww_1390 : Cond := .methodLink RL 106 yX12_take
theorem wi_1390 : ww_1390 ∈ mj_tb := mj_t8 (i := 50) rfl rfl
abbrev ww_1391 : Cond := .methodLink RL 107 yX11_rounds
theorem wi_1391 : ww_1391 ∈ mj_tb := mj_t4 (i := 219) rfl rfl
abbrev ww_1392 : Cond := .methodLink RL 110 yX12_rounds
theorem wi_1392 : ww_1392 ∈ mj_tb := mj_t8 (i := 54) rfl rfl
abbrev ww_1393 : Cond := .methodLink RL 111 yX11_has
theorem wi_1393 : ww_1393 ∈ mj_tb := mj_t4 (i := 239) rfl rfl
abbrev ww_1394 : Cond := .methodLink RL 114 yX12_has
theorem wi_1394 : ww_1394 ∈ mj_tb := mj_t8 (i := 62) rfl rfl
abbrev ww_1395 : Cond := .methodLink RL 115 yX11_price
theorem wi_1395 : ww_1395 ∈ mj_tb := mj_t5 (i := 3) rfl rfl
abbrev ww_1396 : Cond := .methodLink RL 118 yX12_price
theorem wi_1396 : ww_1396 ∈ mj_tb := mj_t8 (i := 66) rfl rfl
abbrev ww_1397 : Cond := .methodLink RL 119 yX11_leaks
theorem wi_1397 : ww_1397 ∈ mj_tb := mj_t5 (i := 7) rfl rfl
abbrev ww_1398 : Cond := .methodLink RL 122 yX12_leaks
theorem wi_1398 : ww_1398 ∈ mj_tb := mj_t8 (i := 70) rfl rfl
abbrev ww_1399 : Cond := .methodLink RL 123 yX11_leak
theorem wi_1399 : ww_1399 ∈ mj_tb := mj_t5 (i := 43) rfl rfl
abbrev ww_1400 : Cond := .methodLink RL 126 yX12_leak
theorem wi_1400 : ww_1400 ∈ mj_tb := mj_t8 (i := 90) rfl rfl
abbrev ww_1401 : Cond := .methodLink RL 127 yX11_wettest
theorem wi_1401 : ww_1401 ∈ mj_tb := mj_t5 (i := 47) rfl rfl
abbrev ww_1402 : Cond := .methodLink RL 130 yX12_wettest
theorem wi_1402 : ww_1402 ∈ mj_tb := mj_t8 (i := 94) rfl rfl
abbrev ww_1403 : Cond := .methodLink RL 131 yX11_enough
theorem wi_1403 : ww_1403 ∈ mj_tb := mj_t5 (i := 51) rfl rfl
abbrev ww_1404 : Cond := .methodLink RL 134 yX12_enough
theorem wi_1404 : ww_1404 ∈ mj_tb := mj_t8 (i := 98) rfl rfl
abbrev ww_1405 : Cond := .methodLink RL 135 yX11_shoresOf
theorem wi_1405 : ww_1405 ∈ mj_tb := mj_t5 (i := 60) rfl rfl
abbrev ww_1406 : Cond := .methodLink RL 138 yX12_shoresOf
theorem wi_1406 : ww_1406 ∈ mj_tb := mj_t8 (i := 102) rfl rfl
abbrev ww_1407 : Cond := .methodLink RL 139 yX11_thirsty
theorem wi_1407 : ww_1407 ∈ mj_tb := mj_t5 (i := 68) rfl rfl
abbrev ww_1408 : Cond := .methodLink RL 142 yX12_thirsty
theorem wi_1408 : ww_1408 ∈ mj_tb := mj_t8 (i := 115) rfl rfl
abbrev ww_1409 : Cond := .methodLink RL 143 yX11_bidsOf
theorem wi_1409 : ww_1409 ∈ mj_tb := mj_t5 (i := 76) rfl rfl
abbrev ww_1410 : Cond := .methodLink RL 146 yX12_bidsOf
theorem wi_1410 : ww_1410 ∈ mj_tb := mj_t8 (i := 119) rfl rfl
abbrev ww_1411 : Cond := .methodLink RL 147 yX11_greatest
theorem wi_1411 : ww_1411 ∈ mj_tb := mj_t5 (i := 80) rfl rfl
abbrev ww_1412 : Cond := .methodLink RL 150 yX12_greatest
theorem wi_1412 : ww_1412 ∈ mj_tb := mj_t8 (i := 123) rfl rfl
abbrev ww_1413 : Cond := .methodLink RL 151 yX11_write
theorem wi_1413 : ww_1413 ∈ mj_tb := mj_t5 (i := 84) rfl rfl
abbrev ww_1414 : Cond := .methodLink RL 154 yX12_write
theorem wi_1414 : ww_1414 ∈ mj_tb := mj_t8 (i := 127) rfl rfl
abbrev ww_1415 : Cond := .methodLink RL 155 yX11_byteAt
theorem wi_1415 : ww_1415 ∈ mj_tb := mj_t5 (i := 102) rfl rfl
abbrev ww_1416 : Cond := .methodLink RL 158 yX12_byteAt
theorem wi_1416 : ww_1416 ∈ mj_tb := mj_t8 (i := 144) rfl rfl
abbrev ww_1417 : Cond := .methodLink RL 159 yX11_worth
theorem wi_1417 : ww_1417 ∈ mj_tb := mj_t5 (i := 106) rfl rfl
abbrev ww_1418 : Cond := .methodLink RL 162 yX12_worth
theorem wi_1418 : ww_1418 ∈ mj_tb := mj_t8 (i := 148) rfl rfl
abbrev ww_1419 : Cond := .methodLink RL 163 yX11_drawn
theorem wi_1419 : ww_1419 ∈ mj_tb := mj_t5 (i := 115) rfl rfl
abbrev ww_1420 : Cond := .methodLink RL 166 yX12_drawn
theorem wi_1420 : ww_1420 ∈ mj_tb := mj_t8 (i := 152) rfl rfl
abbrev ww_1421 : Cond := .methodLink RL 167 yX11_shores
theorem wi_1421 : ww_1421 ∈ mj_tb := mj_t5 (i := 124) rfl rfl
abbrev ww_1422 : Cond := .methodLink RL 171 yX12_shores
theorem wi_1422 : ww_1422 ∈ mj_tb := mj_t8 (i := 156) rfl rfl
abbrev ww_1423 : Cond := .methodLink RL 172 yX11_must
theorem wi_1423 : ww_1423 ∈ mj_tb := mj_t5 (i := 128) rfl rfl
abbrev ww_1424 : Cond := .methodLink RL 175 yX12_must
theorem wi_1424 : ww_1424 ∈ mj_tb := mj_t8 (i := 160) rfl rfl
abbrev ww_1425 : Cond := .methodLink RL 176 yX11_sentence
theorem wi_1425 : ww_1425 ∈ mj_tb := mj_t5 (i := 137) rfl rfl
abbrev ww_1426 : Cond := .methodLink RL 179 yX12_sentence
theorem wi_1426 : ww_1426 ∈ mj_tb := mj_t8 (i := 164) rfl rfl
abbrev ww_1427 : Cond := .methodLink RL 180 yX11_said
theorem wi_1427 : ww_1427 ∈ mj_tb := mj_t5 (i := 205) rfl rfl
abbrev ww_1428 : Cond := .methodLink RL 183 yX12_said
theorem wi_1428 : ww_1428 ∈ mj_tb := mj_t8 (i := 192) rfl rfl
abbrev ww_1429 : Cond := .methodLink RL 184 yX11_image
theorem wi_1429 : ww_1429 ∈ mj_tb := mj_t5 (i := 218) rfl rfl
abbrev ww_1430 : Cond := .methodLink RL 187 yX12_image
theorem wi_1430 : ww_1430 ∈ mj_tb := mj_t8 (i := 204) rfl rfl
abbrev ww_1431 : Cond := .methodLink RL 188 yX11_restore
theorem wi_1431 : ww_1431 ∈ mj_tb := mj_t5 (i := 237) rfl rfl
abbrev ww_1432 : Cond := .methodLink RL 191 yX12_restore
theorem wi_1432 : ww_1432 ∈ mj_tb := mj_t8 (i := 208) rfl rfl
abbrev ww_1433 : Cond := .methodLink RL 192 yX11_count
theorem wi_1433 : ww_1433 ∈ mj_tb := mj_t6 (i := 1) rfl rfl
abbrev ww_1434 : Cond := .methodLink RL 195 yX12_count
theorem wi_1434 : ww_1434 ∈ mj_tb := mj_t8 (i := 212) rfl rfl
def mj_wi (i : Nat) : Cond := (cond (Nat.blt i 717) (cond (Nat.blt i 358) (cond (Nat.blt i 179) (cond (Nat.blt i 89) (cond (Nat.blt i 44) (cond (Nat.blt i 22) (cond (Nat.blt i 11) (cond (Nat.blt i 5) (cond (Nat.blt i 2) (cond (Nat.blt i 1) ww_0 ww_1) (cond (Nat.blt i 3) ww_2 (cond (Nat.blt i 4) ww_3 ww_4))) (cond (Nat.blt i 8) (cond (Nat.blt i 6) ww_5 (cond (Nat.blt i 7) ww_6 ww_7)) (cond (Nat.blt i 9) ww_8 (cond (Nat.blt i 10) ww_9 ww_10)))) (cond (Nat.blt i 16) (cond (Nat.blt i 13) (cond (Nat.blt i 12) ww_11 ww_12) (cond (Nat.blt i 14) ww_13 (cond (Nat.blt i 15) ww_14 ww_15))) (cond (Nat.blt i 19) (cond (Nat.blt i 17) ww_16 (cond (Nat.blt i 18) ww_17 ww_18)) (cond (Nat.blt i 20) ww_19 (cond (Nat.blt i 21) ww_20 ww_21))))) (cond (Nat.blt i 33) (cond (Nat.blt i 27) (cond (Nat.blt i 24) (cond (Nat.blt i 23) ww_22 ww_23) (cond (Nat.blt i 25) ww_24 (cond (Nat.blt i 26) ww_25 ww_26))) (cond (Nat.blt i 30) (cond (Nat.blt i 28) ww_27 (cond (Nat.blt i 29) ww_28 ww_29)) (cond (Nat.blt i 31) ww_30 (cond (Nat.blt i 32) ww_31 ww_32)))) (cond (Nat.blt i 38) (cond (Nat.blt i 35) (cond (Nat.blt i 34) ww_33 ww_34) (cond (Nat.blt i 36) ww_35 (cond (Nat.blt i 37) ww_36 ww_37))) (cond (Nat.blt i 41) (cond (Nat.blt i 39) ww_38 (cond (Nat.blt i 40) ww_39 ww_40)) (cond (Nat.blt i 42) ww_41 (cond (Nat.blt i 43) ww_42 ww_43)))))) (cond (Nat.blt i 66) (cond (Nat.blt i 55) (cond (Nat.blt i 49) (cond (Nat.blt i 46) (cond (Nat.blt i 45) ww_44 ww_45) (cond (Nat.blt i 47) ww_46 (cond (Nat.blt i 48) ww_47 ww_48))) (cond (Nat.blt i 52) (cond (Nat.blt i 50) ww_49 (cond (Nat.blt i 51) ww_50 ww_51)) (cond (Nat.blt i 53) ww_52 (cond (Nat.blt i 54) ww_53 ww_54)))) (cond (Nat.blt i 60) (cond (Nat.blt i 57) (cond (Nat.blt i 56) ww_55 ww_56) (cond (Nat.blt i 58) ww_57 (cond (Nat.blt i 59) ww_58 ww_59))) (cond (Nat.blt i 63) (cond (Nat.blt i 61) ww_60 (cond (Nat.blt i 62) ww_61 ww_62)) (cond (Nat.blt i 64) ww_63 (cond (Nat.blt i 65) ww_64 ww_65))))) (cond (Nat.blt i 77) (cond (Nat.blt i 71) (cond (Nat.blt i 68) (cond (Nat.blt i 67) ww_66 ww_67) (cond (Nat.blt i 69) ww_68 (cond (Nat.blt i 70) ww_69 ww_70))) (cond (Nat.blt i 74) (cond (Nat.blt i 72) ww_71 (cond (Nat.blt i 73) ww_72 ww_73)) (cond (Nat.blt i 75) ww_74 (cond (Nat.blt i 76) ww_75 ww_76)))) (cond (Nat.blt i 83) (cond (Nat.blt i 80) (cond (Nat.blt i 78) ww_77 (cond (Nat.blt i 79) ww_78 ww_79)) (cond (Nat.blt i 81) ww_80 (cond (Nat.blt i 82) ww_81 ww_82))) (cond (Nat.blt i 86) (cond (Nat.blt i 84) ww_83 (cond (Nat.blt i 85) ww_84 ww_85)) (cond (Nat.blt i 87) ww_86 (cond (Nat.blt i 88) ww_87 ww_88))))))) (cond (Nat.blt i 134) (cond (Nat.blt i 111) (cond (Nat.blt i 100) (cond (Nat.blt i 94) (cond (Nat.blt i 91) (cond (Nat.blt i 90) ww_89 ww_90) (cond (Nat.blt i 92) ww_91 (cond (Nat.blt i 93) ww_92 ww_93))) (cond (Nat.blt i 97) (cond (Nat.blt i 95) ww_94 (cond (Nat.blt i 96) ww_95 ww_96)) (cond (Nat.blt i 98) ww_97 (cond (Nat.blt i 99) ww_98 ww_99)))) (cond (Nat.blt i 105) (cond (Nat.blt i 102) (cond (Nat.blt i 101) ww_100 ww_101) (cond (Nat.blt i 103) ww_102 (cond (Nat.blt i 104) ww_103 ww_104))) (cond (Nat.blt i 108) (cond (Nat.blt i 106) ww_105 (cond (Nat.blt i 107) ww_106 ww_107)) (cond (Nat.blt i 109) ww_108 (cond (Nat.blt i 110) ww_109 ww_110))))) (cond (Nat.blt i 122) (cond (Nat.blt i 116) (cond (Nat.blt i 113) (cond (Nat.blt i 112) ww_111 ww_112) (cond (Nat.blt i 114) ww_113 (cond (Nat.blt i 115) ww_114 ww_115))) (cond (Nat.blt i 119) (cond (Nat.blt i 117) ww_116 (cond (Nat.blt i 118) ww_117 ww_118)) (cond (Nat.blt i 120) ww_119 (cond (Nat.blt i 121) ww_120 ww_121)))) (cond (Nat.blt i 128) (cond (Nat.blt i 125) (cond (Nat.blt i 123) ww_122 (cond (Nat.blt i 124) ww_123 ww_124)) (cond (Nat.blt i 126) ww_125 (cond (Nat.blt i 127) ww_126 ww_127))) (cond (Nat.blt i 131) (cond (Nat.blt i 129) ww_128 (cond (Nat.blt i 130) ww_129 ww_130)) (cond (Nat.blt i 132) ww_131 (cond (Nat.blt i 133) ww_132 ww_133)))))) (cond (Nat.blt i 156) (cond (Nat.blt i 145) (cond (Nat.blt i 139) (cond (Nat.blt i 136) (cond (Nat.blt i 135) ww_134 ww_135) (cond (Nat.blt i 137) ww_136 (cond (Nat.blt i 138) ww_137 ww_138))) (cond (Nat.blt i 142) (cond (Nat.blt i 140) ww_139 (cond (Nat.blt i 141) ww_140 ww_141)) (cond (Nat.blt i 143) ww_142 (cond (Nat.blt i 144) ww_143 ww_144)))) (cond (Nat.blt i 150) (cond (Nat.blt i 147) (cond (Nat.blt i 146) ww_145 ww_146) (cond (Nat.blt i 148) ww_147 (cond (Nat.blt i 149) ww_148 ww_149))) (cond (Nat.blt i 153) (cond (Nat.blt i 151) ww_150 (cond (Nat.blt i 152) ww_151 ww_152)) (cond (Nat.blt i 154) ww_153 (cond (Nat.blt i 155) ww_154 ww_155))))) (cond (Nat.blt i 167) (cond (Nat.blt i 161) (cond (Nat.blt i 158) (cond (Nat.blt i 157) ww_156 ww_157) (cond (Nat.blt i 159) ww_158 (cond (Nat.blt i 160) ww_159 ww_160))) (cond (Nat.blt i 164) (cond (Nat.blt i 162) ww_161 (cond (Nat.blt i 163) ww_162 ww_163)) (cond (Nat.blt i 165) ww_164 (cond (Nat.blt i 166) ww_165 ww_166)))) (cond (Nat.blt i 173) (cond (Nat.blt i 170) (cond (Nat.blt i 168) ww_167 (cond (Nat.blt i 169) ww_168 ww_169)) (cond (Nat.blt i 171) ww_170 (cond (Nat.blt i 172) ww_171 ww_172))) (cond (Nat.blt i 176) (cond (Nat.blt i 174) ww_173 (cond (Nat.blt i 175) ww_174 ww_175)) (cond (Nat.blt i 177) ww_176 (cond (Nat.blt i 178) ww_177 ww_178)))))))) (cond (Nat.blt i 268) (cond (Nat.blt i 223) (cond (Nat.blt i 201) (cond (Nat.blt i 190) (cond (Nat.blt i 184) (cond (Nat.blt i 181) (cond (Nat.blt i 180) ww_179 ww_180) (cond (Nat.blt i 182) ww_181 (cond (Nat.blt i 183) ww_182 ww_183))) (cond (Nat.blt i 187) (cond (Nat.blt i 185) ww_184 (cond (Nat.blt i 186) ww_185 ww_186)) (cond (Nat.blt i 188) ww_187 (cond (Nat.blt i 189) ww_188 ww_189)))) (cond (Nat.blt i 195) (cond (Nat.blt i 192) (cond (Nat.blt i 191) ww_190 ww_191) (cond (Nat.blt i 193) ww_192 (cond (Nat.blt i 194) ww_193 ww_194))) (cond (Nat.blt i 198) (cond (Nat.blt i 196) ww_195 (cond (Nat.blt i 197) ww_196 ww_197)) (cond (Nat.blt i 199) ww_198 (cond (Nat.blt i 200) ww_199 ww_200))))) (cond (Nat.blt i 212) (cond (Nat.blt i 206) (cond (Nat.blt i 203) (cond (Nat.blt i 202) ww_201 ww_202) (cond (Nat.blt i 204) ww_203 (cond (Nat.blt i 205) ww_204 ww_205))) (cond (Nat.blt i 209) (cond (Nat.blt i 207) ww_206 (cond (Nat.blt i 208) ww_207 ww_208)) (cond (Nat.blt i 210) ww_209 (cond (Nat.blt i 211) ww_210 ww_211)))) (cond (Nat.blt i 217) (cond (Nat.blt i 214) (cond (Nat.blt i 213) ww_212 ww_213) (cond (Nat.blt i 215) ww_214 (cond (Nat.blt i 216) ww_215 ww_216))) (cond (Nat.blt i 220) (cond (Nat.blt i 218) ww_217 (cond (Nat.blt i 219) ww_218 ww_219)) (cond (Nat.blt i 221) ww_220 (cond (Nat.blt i 222) ww_221 ww_222)))))) (cond (Nat.blt i 245) (cond (Nat.blt i 234) (cond (Nat.blt i 228) (cond (Nat.blt i 225) (cond (Nat.blt i 224) ww_223 ww_224) (cond (Nat.blt i 226) ww_225 (cond (Nat.blt i 227) ww_226 ww_227))) (cond (Nat.blt i 231) (cond (Nat.blt i 229) ww_228 (cond (Nat.blt i 230) ww_229 ww_230)) (cond (Nat.blt i 232) ww_231 (cond (Nat.blt i 233) ww_232 ww_233)))) (cond (Nat.blt i 239) (cond (Nat.blt i 236) (cond (Nat.blt i 235) ww_234 ww_235) (cond (Nat.blt i 237) ww_236 (cond (Nat.blt i 238) ww_237 ww_238))) (cond (Nat.blt i 242) (cond (Nat.blt i 240) ww_239 (cond (Nat.blt i 241) ww_240 ww_241)) (cond (Nat.blt i 243) ww_242 (cond (Nat.blt i 244) ww_243 ww_244))))) (cond (Nat.blt i 256) (cond (Nat.blt i 250) (cond (Nat.blt i 247) (cond (Nat.blt i 246) ww_245 ww_246) (cond (Nat.blt i 248) ww_247 (cond (Nat.blt i 249) ww_248 ww_249))) (cond (Nat.blt i 253) (cond (Nat.blt i 251) ww_250 (cond (Nat.blt i 252) ww_251 ww_252)) (cond (Nat.blt i 254) ww_253 (cond (Nat.blt i 255) ww_254 ww_255)))) (cond (Nat.blt i 262) (cond (Nat.blt i 259) (cond (Nat.blt i 257) ww_256 (cond (Nat.blt i 258) ww_257 ww_258)) (cond (Nat.blt i 260) ww_259 (cond (Nat.blt i 261) ww_260 ww_261))) (cond (Nat.blt i 265) (cond (Nat.blt i 263) ww_262 (cond (Nat.blt i 264) ww_263 ww_264)) (cond (Nat.blt i 266) ww_265 (cond (Nat.blt i 267) ww_266 ww_267))))))) (cond (Nat.blt i 313) (cond (Nat.blt i 290) (cond (Nat.blt i 279) (cond (Nat.blt i 273) (cond (Nat.blt i 270) (cond (Nat.blt i 269) ww_268 ww_269) (cond (Nat.blt i 271) ww_270 (cond (Nat.blt i 272) ww_271 ww_272))) (cond (Nat.blt i 276) (cond (Nat.blt i 274) ww_273 (cond (Nat.blt i 275) ww_274 ww_275)) (cond (Nat.blt i 277) ww_276 (cond (Nat.blt i 278) ww_277 ww_278)))) (cond (Nat.blt i 284) (cond (Nat.blt i 281) (cond (Nat.blt i 280) ww_279 ww_280) (cond (Nat.blt i 282) ww_281 (cond (Nat.blt i 283) ww_282 ww_283))) (cond (Nat.blt i 287) (cond (Nat.blt i 285) ww_284 (cond (Nat.blt i 286) ww_285 ww_286)) (cond (Nat.blt i 288) ww_287 (cond (Nat.blt i 289) ww_288 ww_289))))) (cond (Nat.blt i 301) (cond (Nat.blt i 295) (cond (Nat.blt i 292) (cond (Nat.blt i 291) ww_290 ww_291) (cond (Nat.blt i 293) ww_292 (cond (Nat.blt i 294) ww_293 ww_294))) (cond (Nat.blt i 298) (cond (Nat.blt i 296) ww_295 (cond (Nat.blt i 297) ww_296 ww_297)) (cond (Nat.blt i 299) ww_298 (cond (Nat.blt i 300) ww_299 ww_300)))) (cond (Nat.blt i 307) (cond (Nat.blt i 304) (cond (Nat.blt i 302) ww_301 (cond (Nat.blt i 303) ww_302 ww_303)) (cond (Nat.blt i 305) ww_304 (cond (Nat.blt i 306) ww_305 ww_306))) (cond (Nat.blt i 310) (cond (Nat.blt i 308) ww_307 (cond (Nat.blt i 309) ww_308 ww_309)) (cond (Nat.blt i 311) ww_310 (cond (Nat.blt i 312) ww_311 ww_312)))))) (cond (Nat.blt i 335) (cond (Nat.blt i 324) (cond (Nat.blt i 318) (cond (Nat.blt i 315) (cond (Nat.blt i 314) ww_313 ww_314) (cond (Nat.blt i 316) ww_315 (cond (Nat.blt i 317) ww_316 ww_317))) (cond (Nat.blt i 321) (cond (Nat.blt i 319) ww_318 (cond (Nat.blt i 320) ww_319 ww_320)) (cond (Nat.blt i 322) ww_321 (cond (Nat.blt i 323) ww_322 ww_323)))) (cond (Nat.blt i 329) (cond (Nat.blt i 326) (cond (Nat.blt i 325) ww_324 ww_325) (cond (Nat.blt i 327) ww_326 (cond (Nat.blt i 328) ww_327 ww_328))) (cond (Nat.blt i 332) (cond (Nat.blt i 330) ww_329 (cond (Nat.blt i 331) ww_330 ww_331)) (cond (Nat.blt i 333) ww_332 (cond (Nat.blt i 334) ww_333 ww_334))))) (cond (Nat.blt i 346) (cond (Nat.blt i 340) (cond (Nat.blt i 337) (cond (Nat.blt i 336) ww_335 ww_336) (cond (Nat.blt i 338) ww_337 (cond (Nat.blt i 339) ww_338 ww_339))) (cond (Nat.blt i 343) (cond (Nat.blt i 341) ww_340 (cond (Nat.blt i 342) ww_341 ww_342)) (cond (Nat.blt i 344) ww_343 (cond (Nat.blt i 345) ww_344 ww_345)))) (cond (Nat.blt i 352) (cond (Nat.blt i 349) (cond (Nat.blt i 347) ww_346 (cond (Nat.blt i 348) ww_347 ww_348)) (cond (Nat.blt i 350) ww_349 (cond (Nat.blt i 351) ww_350 ww_351))) (cond (Nat.blt i 355) (cond (Nat.blt i 353) ww_352 (cond (Nat.blt i 354) ww_353 ww_354)) (cond (Nat.blt i 356) ww_355 (cond (Nat.blt i 357) ww_356 ww_357))))))))) (cond (Nat.blt i 537) (cond (Nat.blt i 447) (cond (Nat.blt i 402) (cond (Nat.blt i 380) (cond (Nat.blt i 369) (cond (Nat.blt i 363) (cond (Nat.blt i 360) (cond (Nat.blt i 359) ww_358 ww_359) (cond (Nat.blt i 361) ww_360 (cond (Nat.blt i 362) ww_361 ww_362))) (cond (Nat.blt i 366) (cond (Nat.blt i 364) ww_363 (cond (Nat.blt i 365) ww_364 ww_365)) (cond (Nat.blt i 367) ww_366 (cond (Nat.blt i 368) ww_367 ww_368)))) (cond (Nat.blt i 374) (cond (Nat.blt i 371) (cond (Nat.blt i 370) ww_369 ww_370) (cond (Nat.blt i 372) ww_371 (cond (Nat.blt i 373) ww_372 ww_373))) (cond (Nat.blt i 377) (cond (Nat.blt i 375) ww_374 (cond (Nat.blt i 376) ww_375 ww_376)) (cond (Nat.blt i 378) ww_377 (cond (Nat.blt i 379) ww_378 ww_379))))) (cond (Nat.blt i 391) (cond (Nat.blt i 385) (cond (Nat.blt i 382) (cond (Nat.blt i 381) ww_380 ww_381) (cond (Nat.blt i 383) ww_382 (cond (Nat.blt i 384) ww_383 ww_384))) (cond (Nat.blt i 388) (cond (Nat.blt i 386) ww_385 (cond (Nat.blt i 387) ww_386 ww_387)) (cond (Nat.blt i 389) ww_388 (cond (Nat.blt i 390) ww_389 ww_390)))) (cond (Nat.blt i 396) (cond (Nat.blt i 393) (cond (Nat.blt i 392) ww_391 ww_392) (cond (Nat.blt i 394) ww_393 (cond (Nat.blt i 395) ww_394 ww_395))) (cond (Nat.blt i 399) (cond (Nat.blt i 397) ww_396 (cond (Nat.blt i 398) ww_397 ww_398)) (cond (Nat.blt i 400) ww_399 (cond (Nat.blt i 401) ww_400 ww_401)))))) (cond (Nat.blt i 424) (cond (Nat.blt i 413) (cond (Nat.blt i 407) (cond (Nat.blt i 404) (cond (Nat.blt i 403) ww_402 ww_403) (cond (Nat.blt i 405) ww_404 (cond (Nat.blt i 406) ww_405 ww_406))) (cond (Nat.blt i 410) (cond (Nat.blt i 408) ww_407 (cond (Nat.blt i 409) ww_408 ww_409)) (cond (Nat.blt i 411) ww_410 (cond (Nat.blt i 412) ww_411 ww_412)))) (cond (Nat.blt i 418) (cond (Nat.blt i 415) (cond (Nat.blt i 414) ww_413 ww_414) (cond (Nat.blt i 416) ww_415 (cond (Nat.blt i 417) ww_416 ww_417))) (cond (Nat.blt i 421) (cond (Nat.blt i 419) ww_418 (cond (Nat.blt i 420) ww_419 ww_420)) (cond (Nat.blt i 422) ww_421 (cond (Nat.blt i 423) ww_422 ww_423))))) (cond (Nat.blt i 435) (cond (Nat.blt i 429) (cond (Nat.blt i 426) (cond (Nat.blt i 425) ww_424 ww_425) (cond (Nat.blt i 427) ww_426 (cond (Nat.blt i 428) ww_427 ww_428))) (cond (Nat.blt i 432) (cond (Nat.blt i 430) ww_429 (cond (Nat.blt i 431) ww_430 ww_431)) (cond (Nat.blt i 433) ww_432 (cond (Nat.blt i 434) ww_433 ww_434)))) (cond (Nat.blt i 441) (cond (Nat.blt i 438) (cond (Nat.blt i 436) ww_435 (cond (Nat.blt i 437) ww_436 ww_437)) (cond (Nat.blt i 439) ww_438 (cond (Nat.blt i 440) ww_439 ww_440))) (cond (Nat.blt i 444) (cond (Nat.blt i 442) ww_441 (cond (Nat.blt i 443) ww_442 ww_443)) (cond (Nat.blt i 445) ww_444 (cond (Nat.blt i 446) ww_445 ww_446))))))) (cond (Nat.blt i 492) (cond (Nat.blt i 469) (cond (Nat.blt i 458) (cond (Nat.blt i 452) (cond (Nat.blt i 449) (cond (Nat.blt i 448) ww_447 ww_448) (cond (Nat.blt i 450) ww_449 (cond (Nat.blt i 451) ww_450 ww_451))) (cond (Nat.blt i 455) (cond (Nat.blt i 453) ww_452 (cond (Nat.blt i 454) ww_453 ww_454)) (cond (Nat.blt i 456) ww_455 (cond (Nat.blt i 457) ww_456 ww_457)))) (cond (Nat.blt i 463) (cond (Nat.blt i 460) (cond (Nat.blt i 459) ww_458 ww_459) (cond (Nat.blt i 461) ww_460 (cond (Nat.blt i 462) ww_461 ww_462))) (cond (Nat.blt i 466) (cond (Nat.blt i 464) ww_463 (cond (Nat.blt i 465) ww_464 ww_465)) (cond (Nat.blt i 467) ww_466 (cond (Nat.blt i 468) ww_467 ww_468))))) (cond (Nat.blt i 480) (cond (Nat.blt i 474) (cond (Nat.blt i 471) (cond (Nat.blt i 470) ww_469 ww_470) (cond (Nat.blt i 472) ww_471 (cond (Nat.blt i 473) ww_472 ww_473))) (cond (Nat.blt i 477) (cond (Nat.blt i 475) ww_474 (cond (Nat.blt i 476) ww_475 ww_476)) (cond (Nat.blt i 478) ww_477 (cond (Nat.blt i 479) ww_478 ww_479)))) (cond (Nat.blt i 486) (cond (Nat.blt i 483) (cond (Nat.blt i 481) ww_480 (cond (Nat.blt i 482) ww_481 ww_482)) (cond (Nat.blt i 484) ww_483 (cond (Nat.blt i 485) ww_484 ww_485))) (cond (Nat.blt i 489) (cond (Nat.blt i 487) ww_486 (cond (Nat.blt i 488) ww_487 ww_488)) (cond (Nat.blt i 490) ww_489 (cond (Nat.blt i 491) ww_490 ww_491)))))) (cond (Nat.blt i 514) (cond (Nat.blt i 503) (cond (Nat.blt i 497) (cond (Nat.blt i 494) (cond (Nat.blt i 493) ww_492 ww_493) (cond (Nat.blt i 495) ww_494 (cond (Nat.blt i 496) ww_495 ww_496))) (cond (Nat.blt i 500) (cond (Nat.blt i 498) ww_497 (cond (Nat.blt i 499) ww_498 ww_499)) (cond (Nat.blt i 501) ww_500 (cond (Nat.blt i 502) ww_501 ww_502)))) (cond (Nat.blt i 508) (cond (Nat.blt i 505) (cond (Nat.blt i 504) ww_503 ww_504) (cond (Nat.blt i 506) ww_505 (cond (Nat.blt i 507) ww_506 ww_507))) (cond (Nat.blt i 511) (cond (Nat.blt i 509) ww_508 (cond (Nat.blt i 510) ww_509 ww_510)) (cond (Nat.blt i 512) ww_511 (cond (Nat.blt i 513) ww_512 ww_513))))) (cond (Nat.blt i 525) (cond (Nat.blt i 519) (cond (Nat.blt i 516) (cond (Nat.blt i 515) ww_514 ww_515) (cond (Nat.blt i 517) ww_516 (cond (Nat.blt i 518) ww_517 ww_518))) (cond (Nat.blt i 522) (cond (Nat.blt i 520) ww_519 (cond (Nat.blt i 521) ww_520 ww_521)) (cond (Nat.blt i 523) ww_522 (cond (Nat.blt i 524) ww_523 ww_524)))) (cond (Nat.blt i 531) (cond (Nat.blt i 528) (cond (Nat.blt i 526) ww_525 (cond (Nat.blt i 527) ww_526 ww_527)) (cond (Nat.blt i 529) ww_528 (cond (Nat.blt i 530) ww_529 ww_530))) (cond (Nat.blt i 534) (cond (Nat.blt i 532) ww_531 (cond (Nat.blt i 533) ww_532 ww_533)) (cond (Nat.blt i 535) ww_534 (cond (Nat.blt i 536) ww_535 ww_536)))))))) (cond (Nat.blt i 627) (cond (Nat.blt i 582) (cond (Nat.blt i 559) (cond (Nat.blt i 548) (cond (Nat.blt i 542) (cond (Nat.blt i 539) (cond (Nat.blt i 538) ww_537 ww_538) (cond (Nat.blt i 540) ww_539 (cond (Nat.blt i 541) ww_540 ww_541))) (cond (Nat.blt i 545) (cond (Nat.blt i 543) ww_542 (cond (Nat.blt i 544) ww_543 ww_544)) (cond (Nat.blt i 546) ww_545 (cond (Nat.blt i 547) ww_546 ww_547)))) (cond (Nat.blt i 553) (cond (Nat.blt i 550) (cond (Nat.blt i 549) ww_548 ww_549) (cond (Nat.blt i 551) ww_550 (cond (Nat.blt i 552) ww_551 ww_552))) (cond (Nat.blt i 556) (cond (Nat.blt i 554) ww_553 (cond (Nat.blt i 555) ww_554 ww_555)) (cond (Nat.blt i 557) ww_556 (cond (Nat.blt i 558) ww_557 ww_558))))) (cond (Nat.blt i 570) (cond (Nat.blt i 564) (cond (Nat.blt i 561) (cond (Nat.blt i 560) ww_559 ww_560) (cond (Nat.blt i 562) ww_561 (cond (Nat.blt i 563) ww_562 ww_563))) (cond (Nat.blt i 567) (cond (Nat.blt i 565) ww_564 (cond (Nat.blt i 566) ww_565 ww_566)) (cond (Nat.blt i 568) ww_567 (cond (Nat.blt i 569) ww_568 ww_569)))) (cond (Nat.blt i 576) (cond (Nat.blt i 573) (cond (Nat.blt i 571) ww_570 (cond (Nat.blt i 572) ww_571 ww_572)) (cond (Nat.blt i 574) ww_573 (cond (Nat.blt i 575) ww_574 ww_575))) (cond (Nat.blt i 579) (cond (Nat.blt i 577) ww_576 (cond (Nat.blt i 578) ww_577 ww_578)) (cond (Nat.blt i 580) ww_579 (cond (Nat.blt i 581) ww_580 ww_581)))))) (cond (Nat.blt i 604) (cond (Nat.blt i 593) (cond (Nat.blt i 587) (cond (Nat.blt i 584) (cond (Nat.blt i 583) ww_582 ww_583) (cond (Nat.blt i 585) ww_584 (cond (Nat.blt i 586) ww_585 ww_586))) (cond (Nat.blt i 590) (cond (Nat.blt i 588) ww_587 (cond (Nat.blt i 589) ww_588 ww_589)) (cond (Nat.blt i 591) ww_590 (cond (Nat.blt i 592) ww_591 ww_592)))) (cond (Nat.blt i 598) (cond (Nat.blt i 595) (cond (Nat.blt i 594) ww_593 ww_594) (cond (Nat.blt i 596) ww_595 (cond (Nat.blt i 597) ww_596 ww_597))) (cond (Nat.blt i 601) (cond (Nat.blt i 599) ww_598 (cond (Nat.blt i 600) ww_599 ww_600)) (cond (Nat.blt i 602) ww_601 (cond (Nat.blt i 603) ww_602 ww_603))))) (cond (Nat.blt i 615) (cond (Nat.blt i 609) (cond (Nat.blt i 606) (cond (Nat.blt i 605) ww_604 ww_605) (cond (Nat.blt i 607) ww_606 (cond (Nat.blt i 608) ww_607 ww_608))) (cond (Nat.blt i 612) (cond (Nat.blt i 610) ww_609 (cond (Nat.blt i 611) ww_610 ww_611)) (cond (Nat.blt i 613) ww_612 (cond (Nat.blt i 614) ww_613 ww_614)))) (cond (Nat.blt i 621) (cond (Nat.blt i 618) (cond (Nat.blt i 616) ww_615 (cond (Nat.blt i 617) ww_616 ww_617)) (cond (Nat.blt i 619) ww_618 (cond (Nat.blt i 620) ww_619 ww_620))) (cond (Nat.blt i 624) (cond (Nat.blt i 622) ww_621 (cond (Nat.blt i 623) ww_622 ww_623)) (cond (Nat.blt i 625) ww_624 (cond (Nat.blt i 626) ww_625 ww_626))))))) (cond (Nat.blt i 672) (cond (Nat.blt i 649) (cond (Nat.blt i 638) (cond (Nat.blt i 632) (cond (Nat.blt i 629) (cond (Nat.blt i 628) ww_627 ww_628) (cond (Nat.blt i 630) ww_629 (cond (Nat.blt i 631) ww_630 ww_631))) (cond (Nat.blt i 635) (cond (Nat.blt i 633) ww_632 (cond (Nat.blt i 634) ww_633 ww_634)) (cond (Nat.blt i 636) ww_635 (cond (Nat.blt i 637) ww_636 ww_637)))) (cond (Nat.blt i 643) (cond (Nat.blt i 640) (cond (Nat.blt i 639) ww_638 ww_639) (cond (Nat.blt i 641) ww_640 (cond (Nat.blt i 642) ww_641 ww_642))) (cond (Nat.blt i 646) (cond (Nat.blt i 644) ww_643 (cond (Nat.blt i 645) ww_644 ww_645)) (cond (Nat.blt i 647) ww_646 (cond (Nat.blt i 648) ww_647 ww_648))))) (cond (Nat.blt i 660) (cond (Nat.blt i 654) (cond (Nat.blt i 651) (cond (Nat.blt i 650) ww_649 ww_650) (cond (Nat.blt i 652) ww_651 (cond (Nat.blt i 653) ww_652 ww_653))) (cond (Nat.blt i 657) (cond (Nat.blt i 655) ww_654 (cond (Nat.blt i 656) ww_655 ww_656)) (cond (Nat.blt i 658) ww_657 (cond (Nat.blt i 659) ww_658 ww_659)))) (cond (Nat.blt i 666) (cond (Nat.blt i 663) (cond (Nat.blt i 661) ww_660 (cond (Nat.blt i 662) ww_661 ww_662)) (cond (Nat.blt i 664) ww_663 (cond (Nat.blt i 665) ww_664 ww_665))) (cond (Nat.blt i 669) (cond (Nat.blt i 667) ww_666 (cond (Nat.blt i 668) ww_667 ww_668)) (cond (Nat.blt i 670) ww_669 (cond (Nat.blt i 671) ww_670 ww_671)))))) (cond (Nat.blt i 694) (cond (Nat.blt i 683) (cond (Nat.blt i 677) (cond (Nat.blt i 674) (cond (Nat.blt i 673) ww_672 ww_673) (cond (Nat.blt i 675) ww_674 (cond (Nat.blt i 676) ww_675 ww_676))) (cond (Nat.blt i 680) (cond (Nat.blt i 678) ww_677 (cond (Nat.blt i 679) ww_678 ww_679)) (cond (Nat.blt i 681) ww_680 (cond (Nat.blt i 682) ww_681 ww_682)))) (cond (Nat.blt i 688) (cond (Nat.blt i 685) (cond (Nat.blt i 684) ww_683 ww_684) (cond (Nat.blt i 686) ww_685 (cond (Nat.blt i 687) ww_686 ww_687))) (cond (Nat.blt i 691) (cond (Nat.blt i 689) ww_688 (cond (Nat.blt i 690) ww_689 ww_690)) (cond (Nat.blt i 692) ww_691 (cond (Nat.blt i 693) ww_692 ww_693))))) (cond (Nat.blt i 705) (cond (Nat.blt i 699) (cond (Nat.blt i 696) (cond (Nat.blt i 695) ww_694 ww_695) (cond (Nat.blt i 697) ww_696 (cond (Nat.blt i 698) ww_697 ww_698))) (cond (Nat.blt i 702) (cond (Nat.blt i 700) ww_699 (cond (Nat.blt i 701) ww_700 ww_701)) (cond (Nat.blt i 703) ww_702 (cond (Nat.blt i 704) ww_703 ww_704)))) (cond (Nat.blt i 711) (cond (Nat.blt i 708) (cond (Nat.blt i 706) ww_705 (cond (Nat.blt i 707) ww_706 ww_707)) (cond (Nat.blt i 709) ww_708 (cond (Nat.blt i 710) ww_709 ww_710))) (cond (Nat.blt i 714) (cond (Nat.blt i 712) ww_711 (cond (Nat.blt i 713) ww_712 ww_713)) (cond (Nat.blt i 715) ww_714 (cond (Nat.blt i 716) ww_715 ww_716)))))))))) (cond (Nat.blt i 1076) (cond (Nat.blt i 896) (cond (Nat.blt i 806) (cond (Nat.blt i 761) (cond (Nat.blt i 739) (cond (Nat.blt i 728) (cond (Nat.blt i 722) (cond (Nat.blt i 719) (cond (Nat.blt i 718) ww_717 ww_718) (cond (Nat.blt i 720) ww_719 (cond (Nat.blt i 721) ww_720 ww_721))) (cond (Nat.blt i 725) (cond (Nat.blt i 723) ww_722 (cond (Nat.blt i 724) ww_723 ww_724)) (cond (Nat.blt i 726) ww_725 (cond (Nat.blt i 727) ww_726 ww_727)))) (cond (Nat.blt i 733) (cond (Nat.blt i 730) (cond (Nat.blt i 729) ww_728 ww_729) (cond (Nat.blt i 731) ww_730 (cond (Nat.blt i 732) ww_731 ww_732))) (cond (Nat.blt i 736) (cond (Nat.blt i 734) ww_733 (cond (Nat.blt i 735) ww_734 ww_735)) (cond (Nat.blt i 737) ww_736 (cond (Nat.blt i 738) ww_737 ww_738))))) (cond (Nat.blt i 750) (cond (Nat.blt i 744) (cond (Nat.blt i 741) (cond (Nat.blt i 740) ww_739 ww_740) (cond (Nat.blt i 742) ww_741 (cond (Nat.blt i 743) ww_742 ww_743))) (cond (Nat.blt i 747) (cond (Nat.blt i 745) ww_744 (cond (Nat.blt i 746) ww_745 ww_746)) (cond (Nat.blt i 748) ww_747 (cond (Nat.blt i 749) ww_748 ww_749)))) (cond (Nat.blt i 755) (cond (Nat.blt i 752) (cond (Nat.blt i 751) ww_750 ww_751) (cond (Nat.blt i 753) ww_752 (cond (Nat.blt i 754) ww_753 ww_754))) (cond (Nat.blt i 758) (cond (Nat.blt i 756) ww_755 (cond (Nat.blt i 757) ww_756 ww_757)) (cond (Nat.blt i 759) ww_758 (cond (Nat.blt i 760) ww_759 ww_760)))))) (cond (Nat.blt i 783) (cond (Nat.blt i 772) (cond (Nat.blt i 766) (cond (Nat.blt i 763) (cond (Nat.blt i 762) ww_761 ww_762) (cond (Nat.blt i 764) ww_763 (cond (Nat.blt i 765) ww_764 ww_765))) (cond (Nat.blt i 769) (cond (Nat.blt i 767) ww_766 (cond (Nat.blt i 768) ww_767 ww_768)) (cond (Nat.blt i 770) ww_769 (cond (Nat.blt i 771) ww_770 ww_771)))) (cond (Nat.blt i 777) (cond (Nat.blt i 774) (cond (Nat.blt i 773) ww_772 ww_773) (cond (Nat.blt i 775) ww_774 (cond (Nat.blt i 776) ww_775 ww_776))) (cond (Nat.blt i 780) (cond (Nat.blt i 778) ww_777 (cond (Nat.blt i 779) ww_778 ww_779)) (cond (Nat.blt i 781) ww_780 (cond (Nat.blt i 782) ww_781 ww_782))))) (cond (Nat.blt i 794) (cond (Nat.blt i 788) (cond (Nat.blt i 785) (cond (Nat.blt i 784) ww_783 ww_784) (cond (Nat.blt i 786) ww_785 (cond (Nat.blt i 787) ww_786 ww_787))) (cond (Nat.blt i 791) (cond (Nat.blt i 789) ww_788 (cond (Nat.blt i 790) ww_789 ww_790)) (cond (Nat.blt i 792) ww_791 (cond (Nat.blt i 793) ww_792 ww_793)))) (cond (Nat.blt i 800) (cond (Nat.blt i 797) (cond (Nat.blt i 795) ww_794 (cond (Nat.blt i 796) ww_795 ww_796)) (cond (Nat.blt i 798) ww_797 (cond (Nat.blt i 799) ww_798 ww_799))) (cond (Nat.blt i 803) (cond (Nat.blt i 801) ww_800 (cond (Nat.blt i 802) ww_801 ww_802)) (cond (Nat.blt i 804) ww_803 (cond (Nat.blt i 805) ww_804 ww_805))))))) (cond (Nat.blt i 851) (cond (Nat.blt i 828) (cond (Nat.blt i 817) (cond (Nat.blt i 811) (cond (Nat.blt i 808) (cond (Nat.blt i 807) ww_806 ww_807) (cond (Nat.blt i 809) ww_808 (cond (Nat.blt i 810) ww_809 ww_810))) (cond (Nat.blt i 814) (cond (Nat.blt i 812) ww_811 (cond (Nat.blt i 813) ww_812 ww_813)) (cond (Nat.blt i 815) ww_814 (cond (Nat.blt i 816) ww_815 ww_816)))) (cond (Nat.blt i 822) (cond (Nat.blt i 819) (cond (Nat.blt i 818) ww_817 ww_818) (cond (Nat.blt i 820) ww_819 (cond (Nat.blt i 821) ww_820 ww_821))) (cond (Nat.blt i 825) (cond (Nat.blt i 823) ww_822 (cond (Nat.blt i 824) ww_823 ww_824)) (cond (Nat.blt i 826) ww_825 (cond (Nat.blt i 827) ww_826 ww_827))))) (cond (Nat.blt i 839) (cond (Nat.blt i 833) (cond (Nat.blt i 830) (cond (Nat.blt i 829) ww_828 ww_829) (cond (Nat.blt i 831) ww_830 (cond (Nat.blt i 832) ww_831 ww_832))) (cond (Nat.blt i 836) (cond (Nat.blt i 834) ww_833 (cond (Nat.blt i 835) ww_834 ww_835)) (cond (Nat.blt i 837) ww_836 (cond (Nat.blt i 838) ww_837 ww_838)))) (cond (Nat.blt i 845) (cond (Nat.blt i 842) (cond (Nat.blt i 840) ww_839 (cond (Nat.blt i 841) ww_840 ww_841)) (cond (Nat.blt i 843) ww_842 (cond (Nat.blt i 844) ww_843 ww_844))) (cond (Nat.blt i 848) (cond (Nat.blt i 846) ww_845 (cond (Nat.blt i 847) ww_846 ww_847)) (cond (Nat.blt i 849) ww_848 (cond (Nat.blt i 850) ww_849 ww_850)))))) (cond (Nat.blt i 873) (cond (Nat.blt i 862) (cond (Nat.blt i 856) (cond (Nat.blt i 853) (cond (Nat.blt i 852) ww_851 ww_852) (cond (Nat.blt i 854) ww_853 (cond (Nat.blt i 855) ww_854 ww_855))) (cond (Nat.blt i 859) (cond (Nat.blt i 857) ww_856 (cond (Nat.blt i 858) ww_857 ww_858)) (cond (Nat.blt i 860) ww_859 (cond (Nat.blt i 861) ww_860 ww_861)))) (cond (Nat.blt i 867) (cond (Nat.blt i 864) (cond (Nat.blt i 863) ww_862 ww_863) (cond (Nat.blt i 865) ww_864 (cond (Nat.blt i 866) ww_865 ww_866))) (cond (Nat.blt i 870) (cond (Nat.blt i 868) ww_867 (cond (Nat.blt i 869) ww_868 ww_869)) (cond (Nat.blt i 871) ww_870 (cond (Nat.blt i 872) ww_871 ww_872))))) (cond (Nat.blt i 884) (cond (Nat.blt i 878) (cond (Nat.blt i 875) (cond (Nat.blt i 874) ww_873 ww_874) (cond (Nat.blt i 876) ww_875 (cond (Nat.blt i 877) ww_876 ww_877))) (cond (Nat.blt i 881) (cond (Nat.blt i 879) ww_878 (cond (Nat.blt i 880) ww_879 ww_880)) (cond (Nat.blt i 882) ww_881 (cond (Nat.blt i 883) ww_882 ww_883)))) (cond (Nat.blt i 890) (cond (Nat.blt i 887) (cond (Nat.blt i 885) ww_884 (cond (Nat.blt i 886) ww_885 ww_886)) (cond (Nat.blt i 888) ww_887 (cond (Nat.blt i 889) ww_888 ww_889))) (cond (Nat.blt i 893) (cond (Nat.blt i 891) ww_890 (cond (Nat.blt i 892) ww_891 ww_892)) (cond (Nat.blt i 894) ww_893 (cond (Nat.blt i 895) ww_894 ww_895)))))))) (cond (Nat.blt i 986) (cond (Nat.blt i 941) (cond (Nat.blt i 918) (cond (Nat.blt i 907) (cond (Nat.blt i 901) (cond (Nat.blt i 898) (cond (Nat.blt i 897) ww_896 ww_897) (cond (Nat.blt i 899) ww_898 (cond (Nat.blt i 900) ww_899 ww_900))) (cond (Nat.blt i 904) (cond (Nat.blt i 902) ww_901 (cond (Nat.blt i 903) ww_902 ww_903)) (cond (Nat.blt i 905) ww_904 (cond (Nat.blt i 906) ww_905 ww_906)))) (cond (Nat.blt i 912) (cond (Nat.blt i 909) (cond (Nat.blt i 908) ww_907 ww_908) (cond (Nat.blt i 910) ww_909 (cond (Nat.blt i 911) ww_910 ww_911))) (cond (Nat.blt i 915) (cond (Nat.blt i 913) ww_912 (cond (Nat.blt i 914) ww_913 ww_914)) (cond (Nat.blt i 916) ww_915 (cond (Nat.blt i 917) ww_916 ww_917))))) (cond (Nat.blt i 929) (cond (Nat.blt i 923) (cond (Nat.blt i 920) (cond (Nat.blt i 919) ww_918 ww_919) (cond (Nat.blt i 921) ww_920 (cond (Nat.blt i 922) ww_921 ww_922))) (cond (Nat.blt i 926) (cond (Nat.blt i 924) ww_923 (cond (Nat.blt i 925) ww_924 ww_925)) (cond (Nat.blt i 927) ww_926 (cond (Nat.blt i 928) ww_927 ww_928)))) (cond (Nat.blt i 935) (cond (Nat.blt i 932) (cond (Nat.blt i 930) ww_929 (cond (Nat.blt i 931) ww_930 ww_931)) (cond (Nat.blt i 933) ww_932 (cond (Nat.blt i 934) ww_933 ww_934))) (cond (Nat.blt i 938) (cond (Nat.blt i 936) ww_935 (cond (Nat.blt i 937) ww_936 ww_937)) (cond (Nat.blt i 939) ww_938 (cond (Nat.blt i 940) ww_939 ww_940)))))) (cond (Nat.blt i 963) (cond (Nat.blt i 952) (cond (Nat.blt i 946) (cond (Nat.blt i 943) (cond (Nat.blt i 942) ww_941 ww_942) (cond (Nat.blt i 944) ww_943 (cond (Nat.blt i 945) ww_944 ww_945))) (cond (Nat.blt i 949) (cond (Nat.blt i 947) ww_946 (cond (Nat.blt i 948) ww_947 ww_948)) (cond (Nat.blt i 950) ww_949 (cond (Nat.blt i 951) ww_950 ww_951)))) (cond (Nat.blt i 957) (cond (Nat.blt i 954) (cond (Nat.blt i 953) ww_952 ww_953) (cond (Nat.blt i 955) ww_954 (cond (Nat.blt i 956) ww_955 ww_956))) (cond (Nat.blt i 960) (cond (Nat.blt i 958) ww_957 (cond (Nat.blt i 959) ww_958 ww_959)) (cond (Nat.blt i 961) ww_960 (cond (Nat.blt i 962) ww_961 ww_962))))) (cond (Nat.blt i 974) (cond (Nat.blt i 968) (cond (Nat.blt i 965) (cond (Nat.blt i 964) ww_963 ww_964) (cond (Nat.blt i 966) ww_965 (cond (Nat.blt i 967) ww_966 ww_967))) (cond (Nat.blt i 971) (cond (Nat.blt i 969) ww_968 (cond (Nat.blt i 970) ww_969 ww_970)) (cond (Nat.blt i 972) ww_971 (cond (Nat.blt i 973) ww_972 ww_973)))) (cond (Nat.blt i 980) (cond (Nat.blt i 977) (cond (Nat.blt i 975) ww_974 (cond (Nat.blt i 976) ww_975 ww_976)) (cond (Nat.blt i 978) ww_977 (cond (Nat.blt i 979) ww_978 ww_979))) (cond (Nat.blt i 983) (cond (Nat.blt i 981) ww_980 (cond (Nat.blt i 982) ww_981 ww_982)) (cond (Nat.blt i 984) ww_983 (cond (Nat.blt i 985) ww_984 ww_985))))))) (cond (Nat.blt i 1031) (cond (Nat.blt i 1008) (cond (Nat.blt i 997) (cond (Nat.blt i 991) (cond (Nat.blt i 988) (cond (Nat.blt i 987) ww_986 ww_987) (cond (Nat.blt i 989) ww_988 (cond (Nat.blt i 990) ww_989 ww_990))) (cond (Nat.blt i 994) (cond (Nat.blt i 992) ww_991 (cond (Nat.blt i 993) ww_992 ww_993)) (cond (Nat.blt i 995) ww_994 (cond (Nat.blt i 996) ww_995 ww_996)))) (cond (Nat.blt i 1002) (cond (Nat.blt i 999) (cond (Nat.blt i 998) ww_997 ww_998) (cond (Nat.blt i 1000) ww_999 (cond (Nat.blt i 1001) ww_1000 ww_1001))) (cond (Nat.blt i 1005) (cond (Nat.blt i 1003) ww_1002 (cond (Nat.blt i 1004) ww_1003 ww_1004)) (cond (Nat.blt i 1006) ww_1005 (cond (Nat.blt i 1007) ww_1006 ww_1007))))) (cond (Nat.blt i 1019) (cond (Nat.blt i 1013) (cond (Nat.blt i 1010) (cond (Nat.blt i 1009) ww_1008 ww_1009) (cond (Nat.blt i 1011) ww_1010 (cond (Nat.blt i 1012) ww_1011 ww_1012))) (cond (Nat.blt i 1016) (cond (Nat.blt i 1014) ww_1013 (cond (Nat.blt i 1015) ww_1014 ww_1015)) (cond (Nat.blt i 1017) ww_1016 (cond (Nat.blt i 1018) ww_1017 ww_1018)))) (cond (Nat.blt i 1025) (cond (Nat.blt i 1022) (cond (Nat.blt i 1020) ww_1019 (cond (Nat.blt i 1021) ww_1020 ww_1021)) (cond (Nat.blt i 1023) ww_1022 (cond (Nat.blt i 1024) ww_1023 ww_1024))) (cond (Nat.blt i 1028) (cond (Nat.blt i 1026) ww_1025 (cond (Nat.blt i 1027) ww_1026 ww_1027)) (cond (Nat.blt i 1029) ww_1028 (cond (Nat.blt i 1030) ww_1029 ww_1030)))))) (cond (Nat.blt i 1053) (cond (Nat.blt i 1042) (cond (Nat.blt i 1036) (cond (Nat.blt i 1033) (cond (Nat.blt i 1032) ww_1031 ww_1032) (cond (Nat.blt i 1034) ww_1033 (cond (Nat.blt i 1035) ww_1034 ww_1035))) (cond (Nat.blt i 1039) (cond (Nat.blt i 1037) ww_1036 (cond (Nat.blt i 1038) ww_1037 ww_1038)) (cond (Nat.blt i 1040) ww_1039 (cond (Nat.blt i 1041) ww_1040 ww_1041)))) (cond (Nat.blt i 1047) (cond (Nat.blt i 1044) (cond (Nat.blt i 1043) ww_1042 ww_1043) (cond (Nat.blt i 1045) ww_1044 (cond (Nat.blt i 1046) ww_1045 ww_1046))) (cond (Nat.blt i 1050) (cond (Nat.blt i 1048) ww_1047 (cond (Nat.blt i 1049) ww_1048 ww_1049)) (cond (Nat.blt i 1051) ww_1050 (cond (Nat.blt i 1052) ww_1051 ww_1052))))) (cond (Nat.blt i 1064) (cond (Nat.blt i 1058) (cond (Nat.blt i 1055) (cond (Nat.blt i 1054) ww_1053 ww_1054) (cond (Nat.blt i 1056) ww_1055 (cond (Nat.blt i 1057) ww_1056 ww_1057))) (cond (Nat.blt i 1061) (cond (Nat.blt i 1059) ww_1058 (cond (Nat.blt i 1060) ww_1059 ww_1060)) (cond (Nat.blt i 1062) ww_1061 (cond (Nat.blt i 1063) ww_1062 ww_1063)))) (cond (Nat.blt i 1070) (cond (Nat.blt i 1067) (cond (Nat.blt i 1065) ww_1064 (cond (Nat.blt i 1066) ww_1065 ww_1066)) (cond (Nat.blt i 1068) ww_1067 (cond (Nat.blt i 1069) ww_1068 ww_1069))) (cond (Nat.blt i 1073) (cond (Nat.blt i 1071) ww_1070 (cond (Nat.blt i 1072) ww_1071 ww_1072)) (cond (Nat.blt i 1074) ww_1073 (cond (Nat.blt i 1075) ww_1074 ww_1075))))))))) (cond (Nat.blt i 1255) (cond (Nat.blt i 1165) (cond (Nat.blt i 1120) (cond (Nat.blt i 1098) (cond (Nat.blt i 1087) (cond (Nat.blt i 1081) (cond (Nat.blt i 1078) (cond (Nat.blt i 1077) ww_1076 ww_1077) (cond (Nat.blt i 1079) ww_1078 (cond (Nat.blt i 1080) ww_1079 ww_1080))) (cond (Nat.blt i 1084) (cond (Nat.blt i 1082) ww_1081 (cond (Nat.blt i 1083) ww_1082 ww_1083)) (cond (Nat.blt i 1085) ww_1084 (cond (Nat.blt i 1086) ww_1085 ww_1086)))) (cond (Nat.blt i 1092) (cond (Nat.blt i 1089) (cond (Nat.blt i 1088) ww_1087 ww_1088) (cond (Nat.blt i 1090) ww_1089 (cond (Nat.blt i 1091) ww_1090 ww_1091))) (cond (Nat.blt i 1095) (cond (Nat.blt i 1093) ww_1092 (cond (Nat.blt i 1094) ww_1093 ww_1094)) (cond (Nat.blt i 1096) ww_1095 (cond (Nat.blt i 1097) ww_1096 ww_1097))))) (cond (Nat.blt i 1109) (cond (Nat.blt i 1103) (cond (Nat.blt i 1100) (cond (Nat.blt i 1099) ww_1098 ww_1099) (cond (Nat.blt i 1101) ww_1100 (cond (Nat.blt i 1102) ww_1101 ww_1102))) (cond (Nat.blt i 1106) (cond (Nat.blt i 1104) ww_1103 (cond (Nat.blt i 1105) ww_1104 ww_1105)) (cond (Nat.blt i 1107) ww_1106 (cond (Nat.blt i 1108) ww_1107 ww_1108)))) (cond (Nat.blt i 1114) (cond (Nat.blt i 1111) (cond (Nat.blt i 1110) ww_1109 ww_1110) (cond (Nat.blt i 1112) ww_1111 (cond (Nat.blt i 1113) ww_1112 ww_1113))) (cond (Nat.blt i 1117) (cond (Nat.blt i 1115) ww_1114 (cond (Nat.blt i 1116) ww_1115 ww_1116)) (cond (Nat.blt i 1118) ww_1117 (cond (Nat.blt i 1119) ww_1118 ww_1119)))))) (cond (Nat.blt i 1142) (cond (Nat.blt i 1131) (cond (Nat.blt i 1125) (cond (Nat.blt i 1122) (cond (Nat.blt i 1121) ww_1120 ww_1121) (cond (Nat.blt i 1123) ww_1122 (cond (Nat.blt i 1124) ww_1123 ww_1124))) (cond (Nat.blt i 1128) (cond (Nat.blt i 1126) ww_1125 (cond (Nat.blt i 1127) ww_1126 ww_1127)) (cond (Nat.blt i 1129) ww_1128 (cond (Nat.blt i 1130) ww_1129 ww_1130)))) (cond (Nat.blt i 1136) (cond (Nat.blt i 1133) (cond (Nat.blt i 1132) ww_1131 ww_1132) (cond (Nat.blt i 1134) ww_1133 (cond (Nat.blt i 1135) ww_1134 ww_1135))) (cond (Nat.blt i 1139) (cond (Nat.blt i 1137) ww_1136 (cond (Nat.blt i 1138) ww_1137 ww_1138)) (cond (Nat.blt i 1140) ww_1139 (cond (Nat.blt i 1141) ww_1140 ww_1141))))) (cond (Nat.blt i 1153) (cond (Nat.blt i 1147) (cond (Nat.blt i 1144) (cond (Nat.blt i 1143) ww_1142 ww_1143) (cond (Nat.blt i 1145) ww_1144 (cond (Nat.blt i 1146) ww_1145 ww_1146))) (cond (Nat.blt i 1150) (cond (Nat.blt i 1148) ww_1147 (cond (Nat.blt i 1149) ww_1148 ww_1149)) (cond (Nat.blt i 1151) ww_1150 (cond (Nat.blt i 1152) ww_1151 ww_1152)))) (cond (Nat.blt i 1159) (cond (Nat.blt i 1156) (cond (Nat.blt i 1154) ww_1153 (cond (Nat.blt i 1155) ww_1154 ww_1155)) (cond (Nat.blt i 1157) ww_1156 (cond (Nat.blt i 1158) ww_1157 ww_1158))) (cond (Nat.blt i 1162) (cond (Nat.blt i 1160) ww_1159 (cond (Nat.blt i 1161) ww_1160 ww_1161)) (cond (Nat.blt i 1163) ww_1162 (cond (Nat.blt i 1164) ww_1163 ww_1164))))))) (cond (Nat.blt i 1210) (cond (Nat.blt i 1187) (cond (Nat.blt i 1176) (cond (Nat.blt i 1170) (cond (Nat.blt i 1167) (cond (Nat.blt i 1166) ww_1165 ww_1166) (cond (Nat.blt i 1168) ww_1167 (cond (Nat.blt i 1169) ww_1168 ww_1169))) (cond (Nat.blt i 1173) (cond (Nat.blt i 1171) ww_1170 (cond (Nat.blt i 1172) ww_1171 ww_1172)) (cond (Nat.blt i 1174) ww_1173 (cond (Nat.blt i 1175) ww_1174 ww_1175)))) (cond (Nat.blt i 1181) (cond (Nat.blt i 1178) (cond (Nat.blt i 1177) ww_1176 ww_1177) (cond (Nat.blt i 1179) ww_1178 (cond (Nat.blt i 1180) ww_1179 ww_1180))) (cond (Nat.blt i 1184) (cond (Nat.blt i 1182) ww_1181 (cond (Nat.blt i 1183) ww_1182 ww_1183)) (cond (Nat.blt i 1185) ww_1184 (cond (Nat.blt i 1186) ww_1185 ww_1186))))) (cond (Nat.blt i 1198) (cond (Nat.blt i 1192) (cond (Nat.blt i 1189) (cond (Nat.blt i 1188) ww_1187 ww_1188) (cond (Nat.blt i 1190) ww_1189 (cond (Nat.blt i 1191) ww_1190 ww_1191))) (cond (Nat.blt i 1195) (cond (Nat.blt i 1193) ww_1192 (cond (Nat.blt i 1194) ww_1193 ww_1194)) (cond (Nat.blt i 1196) ww_1195 (cond (Nat.blt i 1197) ww_1196 ww_1197)))) (cond (Nat.blt i 1204) (cond (Nat.blt i 1201) (cond (Nat.blt i 1199) ww_1198 (cond (Nat.blt i 1200) ww_1199 ww_1200)) (cond (Nat.blt i 1202) ww_1201 (cond (Nat.blt i 1203) ww_1202 ww_1203))) (cond (Nat.blt i 1207) (cond (Nat.blt i 1205) ww_1204 (cond (Nat.blt i 1206) ww_1205 ww_1206)) (cond (Nat.blt i 1208) ww_1207 (cond (Nat.blt i 1209) ww_1208 ww_1209)))))) (cond (Nat.blt i 1232) (cond (Nat.blt i 1221) (cond (Nat.blt i 1215) (cond (Nat.blt i 1212) (cond (Nat.blt i 1211) ww_1210 ww_1211) (cond (Nat.blt i 1213) ww_1212 (cond (Nat.blt i 1214) ww_1213 ww_1214))) (cond (Nat.blt i 1218) (cond (Nat.blt i 1216) ww_1215 (cond (Nat.blt i 1217) ww_1216 ww_1217)) (cond (Nat.blt i 1219) ww_1218 (cond (Nat.blt i 1220) ww_1219 ww_1220)))) (cond (Nat.blt i 1226) (cond (Nat.blt i 1223) (cond (Nat.blt i 1222) ww_1221 ww_1222) (cond (Nat.blt i 1224) ww_1223 (cond (Nat.blt i 1225) ww_1224 ww_1225))) (cond (Nat.blt i 1229) (cond (Nat.blt i 1227) ww_1226 (cond (Nat.blt i 1228) ww_1227 ww_1228)) (cond (Nat.blt i 1230) ww_1229 (cond (Nat.blt i 1231) ww_1230 ww_1231))))) (cond (Nat.blt i 1243) (cond (Nat.blt i 1237) (cond (Nat.blt i 1234) (cond (Nat.blt i 1233) ww_1232 ww_1233) (cond (Nat.blt i 1235) ww_1234 (cond (Nat.blt i 1236) ww_1235 ww_1236))) (cond (Nat.blt i 1240) (cond (Nat.blt i 1238) ww_1237 (cond (Nat.blt i 1239) ww_1238 ww_1239)) (cond (Nat.blt i 1241) ww_1240 (cond (Nat.blt i 1242) ww_1241 ww_1242)))) (cond (Nat.blt i 1249) (cond (Nat.blt i 1246) (cond (Nat.blt i 1244) ww_1243 (cond (Nat.blt i 1245) ww_1244 ww_1245)) (cond (Nat.blt i 1247) ww_1246 (cond (Nat.blt i 1248) ww_1247 ww_1248))) (cond (Nat.blt i 1252) (cond (Nat.blt i 1250) ww_1249 (cond (Nat.blt i 1251) ww_1250 ww_1251)) (cond (Nat.blt i 1253) ww_1252 (cond (Nat.blt i 1254) ww_1253 ww_1254)))))))) (cond (Nat.blt i 1345) (cond (Nat.blt i 1300) (cond (Nat.blt i 1277) (cond (Nat.blt i 1266) (cond (Nat.blt i 1260) (cond (Nat.blt i 1257) (cond (Nat.blt i 1256) ww_1255 ww_1256) (cond (Nat.blt i 1258) ww_1257 (cond (Nat.blt i 1259) ww_1258 ww_1259))) (cond (Nat.blt i 1263) (cond (Nat.blt i 1261) ww_1260 (cond (Nat.blt i 1262) ww_1261 ww_1262)) (cond (Nat.blt i 1264) ww_1263 (cond (Nat.blt i 1265) ww_1264 ww_1265)))) (cond (Nat.blt i 1271) (cond (Nat.blt i 1268) (cond (Nat.blt i 1267) ww_1266 ww_1267) (cond (Nat.blt i 1269) ww_1268 (cond (Nat.blt i 1270) ww_1269 ww_1270))) (cond (Nat.blt i 1274) (cond (Nat.blt i 1272) ww_1271 (cond (Nat.blt i 1273) ww_1272 ww_1273)) (cond (Nat.blt i 1275) ww_1274 (cond (Nat.blt i 1276) ww_1275 ww_1276))))) (cond (Nat.blt i 1288) (cond (Nat.blt i 1282) (cond (Nat.blt i 1279) (cond (Nat.blt i 1278) ww_1277 ww_1278) (cond (Nat.blt i 1280) ww_1279 (cond (Nat.blt i 1281) ww_1280 ww_1281))) (cond (Nat.blt i 1285) (cond (Nat.blt i 1283) ww_1282 (cond (Nat.blt i 1284) ww_1283 ww_1284)) (cond (Nat.blt i 1286) ww_1285 (cond (Nat.blt i 1287) ww_1286 ww_1287)))) (cond (Nat.blt i 1294) (cond (Nat.blt i 1291) (cond (Nat.blt i 1289) ww_1288 (cond (Nat.blt i 1290) ww_1289 ww_1290)) (cond (Nat.blt i 1292) ww_1291 (cond (Nat.blt i 1293) ww_1292 ww_1293))) (cond (Nat.blt i 1297) (cond (Nat.blt i 1295) ww_1294 (cond (Nat.blt i 1296) ww_1295 ww_1296)) (cond (Nat.blt i 1298) ww_1297 (cond (Nat.blt i 1299) ww_1298 ww_1299)))))) (cond (Nat.blt i 1322) (cond (Nat.blt i 1311) (cond (Nat.blt i 1305) (cond (Nat.blt i 1302) (cond (Nat.blt i 1301) ww_1300 ww_1301) (cond (Nat.blt i 1303) ww_1302 (cond (Nat.blt i 1304) ww_1303 ww_1304))) (cond (Nat.blt i 1308) (cond (Nat.blt i 1306) ww_1305 (cond (Nat.blt i 1307) ww_1306 ww_1307)) (cond (Nat.blt i 1309) ww_1308 (cond (Nat.blt i 1310) ww_1309 ww_1310)))) (cond (Nat.blt i 1316) (cond (Nat.blt i 1313) (cond (Nat.blt i 1312) ww_1311 ww_1312) (cond (Nat.blt i 1314) ww_1313 (cond (Nat.blt i 1315) ww_1314 ww_1315))) (cond (Nat.blt i 1319) (cond (Nat.blt i 1317) ww_1316 (cond (Nat.blt i 1318) ww_1317 ww_1318)) (cond (Nat.blt i 1320) ww_1319 (cond (Nat.blt i 1321) ww_1320 ww_1321))))) (cond (Nat.blt i 1333) (cond (Nat.blt i 1327) (cond (Nat.blt i 1324) (cond (Nat.blt i 1323) ww_1322 ww_1323) (cond (Nat.blt i 1325) ww_1324 (cond (Nat.blt i 1326) ww_1325 ww_1326))) (cond (Nat.blt i 1330) (cond (Nat.blt i 1328) ww_1327 (cond (Nat.blt i 1329) ww_1328 ww_1329)) (cond (Nat.blt i 1331) ww_1330 (cond (Nat.blt i 1332) ww_1331 ww_1332)))) (cond (Nat.blt i 1339) (cond (Nat.blt i 1336) (cond (Nat.blt i 1334) ww_1333 (cond (Nat.blt i 1335) ww_1334 ww_1335)) (cond (Nat.blt i 1337) ww_1336 (cond (Nat.blt i 1338) ww_1337 ww_1338))) (cond (Nat.blt i 1342) (cond (Nat.blt i 1340) ww_1339 (cond (Nat.blt i 1341) ww_1340 ww_1341)) (cond (Nat.blt i 1343) ww_1342 (cond (Nat.blt i 1344) ww_1343 ww_1344))))))) (cond (Nat.blt i 1390) (cond (Nat.blt i 1367) (cond (Nat.blt i 1356) (cond (Nat.blt i 1350) (cond (Nat.blt i 1347) (cond (Nat.blt i 1346) ww_1345 ww_1346) (cond (Nat.blt i 1348) ww_1347 (cond (Nat.blt i 1349) ww_1348 ww_1349))) (cond (Nat.blt i 1353) (cond (Nat.blt i 1351) ww_1350 (cond (Nat.blt i 1352) ww_1351 ww_1352)) (cond (Nat.blt i 1354) ww_1353 (cond (Nat.blt i 1355) ww_1354 ww_1355)))) (cond (Nat.blt i 1361) (cond (Nat.blt i 1358) (cond (Nat.blt i 1357) ww_1356 ww_1357) (cond (Nat.blt i 1359) ww_1358 (cond (Nat.blt i 1360) ww_1359 ww_1360))) (cond (Nat.blt i 1364) (cond (Nat.blt i 1362) ww_1361 (cond (Nat.blt i 1363) ww_1362 ww_1363)) (cond (Nat.blt i 1365) ww_1364 (cond (Nat.blt i 1366) ww_1365 ww_1366))))) (cond (Nat.blt i 1378) (cond (Nat.blt i 1372) (cond (Nat.blt i 1369) (cond (Nat.blt i 1368) ww_1367 ww_1368) (cond (Nat.blt i 1370) ww_1369 (cond (Nat.blt i 1371) ww_1370 ww_1371))) (cond (Nat.blt i 1375) (cond (Nat.blt i 1373) ww_1372 (cond (Nat.blt i 1374) ww_1373 ww_1374)) (cond (Nat.blt i 1376) ww_1375 (cond (Nat.blt i 1377) ww_1376 ww_1377)))) (cond (Nat.blt i 1384) (cond (Nat.blt i 1381) (cond (Nat.blt i 1379) ww_1378 (cond (Nat.blt i 1380) ww_1379 ww_1380)) (cond (Nat.blt i 1382) ww_1381 (cond (Nat.blt i 1383) ww_1382 ww_1383))) (cond (Nat.blt i 1387) (cond (Nat.blt i 1385) ww_1384 (cond (Nat.blt i 1386) ww_1385 ww_1386)) (cond (Nat.blt i 1388) ww_1387 (cond (Nat.blt i 1389) ww_1388 ww_1389)))))) (cond (Nat.blt i 1412) (cond (Nat.blt i 1401) (cond (Nat.blt i 1395) (cond (Nat.blt i 1392) (cond (Nat.blt i 1391) ww_1390 ww_1391) (cond (Nat.blt i 1393) ww_1392 (cond (Nat.blt i 1394) ww_1393 ww_1394))) (cond (Nat.blt i 1398) (cond (Nat.blt i 1396) ww_1395 (cond (Nat.blt i 1397) ww_1396 ww_1397)) (cond (Nat.blt i 1399) ww_1398 (cond (Nat.blt i 1400) ww_1399 ww_1400)))) (cond (Nat.blt i 1406) (cond (Nat.blt i 1403) (cond (Nat.blt i 1402) ww_1401 ww_1402) (cond (Nat.blt i 1404) ww_1403 (cond (Nat.blt i 1405) ww_1404 ww_1405))) (cond (Nat.blt i 1409) (cond (Nat.blt i 1407) ww_1406 (cond (Nat.blt i 1408) ww_1407 ww_1408)) (cond (Nat.blt i 1410) ww_1409 (cond (Nat.blt i 1411) ww_1410 ww_1411))))) (cond (Nat.blt i 1423) (cond (Nat.blt i 1417) (cond (Nat.blt i 1414) (cond (Nat.blt i 1413) ww_1412 ww_1413) (cond (Nat.blt i 1415) ww_1414 (cond (Nat.blt i 1416) ww_1415 ww_1416))) (cond (Nat.blt i 1420) (cond (Nat.blt i 1418) ww_1417 (cond (Nat.blt i 1419) ww_1418 ww_1419)) (cond (Nat.blt i 1421) ww_1420 (cond (Nat.blt i 1422) ww_1421 ww_1422)))) (cond (Nat.blt i 1429) (cond (Nat.blt i 1426) (cond (Nat.blt i 1424) ww_1423 (cond (Nat.blt i 1425) ww_1424 ww_1425)) (cond (Nat.blt i 1427) ww_1426 (cond (Nat.blt i 1428) ww_1427 ww_1428))) (cond (Nat.blt i 1432) (cond (Nat.blt i 1430) ww_1429 (cond (Nat.blt i 1431) ww_1430 ww_1431)) (cond (Nat.blt i 1433) ww_1432 (cond (Nat.blt i 1434) ww_1433 ww_1434)))))))))))
theorem mj_wi_in (i : Nat) : mj_wi i ∈ mj_tb := by
  show (fun w => w ∈ mj_tb) (mj_wi i)
  unfold mj_wi
  exact (mj_condw (mj_condw (mj_condw (mj_condw (mj_condw (mj_condw (mj_condw (mj_condw (mj_condw (mj_condw wi_0 wi_1) (mj_condw wi_2 (mj_condw wi_3 wi_4))) (mj_condw (mj_condw wi_5 (mj_condw wi_6 wi_7)) (mj_condw wi_8 (mj_condw wi_9 wi_10)))) (mj_condw (mj_condw (mj_condw wi_11 wi_12) (mj_condw wi_13 (mj_condw wi_14 wi_15))) (mj_condw (mj_condw wi_16 (mj_condw wi_17 wi_18)) (mj_condw wi_19 (mj_condw wi_20 wi_21))))) (mj_condw (mj_condw (mj_condw (mj_condw wi_22 wi_23) (mj_condw wi_24 (mj_condw wi_25 wi_26))) (mj_condw (mj_condw wi_27 (mj_condw wi_28 wi_29)) (mj_condw wi_30 (mj_condw wi_31 wi_32)))) (mj_condw (mj_condw (mj_condw wi_33 wi_34) (mj_condw wi_35 (mj_condw wi_36 wi_37))) (mj_condw (mj_condw wi_38 (mj_condw wi_39 wi_40)) (mj_condw wi_41 (mj_condw wi_42 wi_43)))))) (mj_condw (mj_condw (mj_condw (mj_condw (mj_condw wi_44 wi_45) (mj_condw wi_46 (mj_condw wi_47 wi_48))) (mj_condw (mj_condw wi_49 (mj_condw wi_50 wi_51)) (mj_condw wi_52 (mj_condw wi_53 wi_54)))) (mj_condw (mj_condw (mj_condw wi_55 wi_56) (mj_condw wi_57 (mj_condw wi_58 wi_59))) (mj_condw (mj_condw wi_60 (mj_condw wi_61 wi_62)) (mj_condw wi_63 (mj_condw wi_64 wi_65))))) (mj_condw (mj_condw (mj_condw (mj_condw wi_66 wi_67) (mj_condw wi_68 (mj_condw wi_69 wi_70))) (mj_condw (mj_condw wi_71 (mj_condw wi_72 wi_73)) (mj_condw wi_74 (mj_condw wi_75 wi_76)))) (mj_condw (mj_condw (mj_condw wi_77 (mj_condw wi_78 wi_79)) (mj_condw wi_80 (mj_condw wi_81 wi_82))) (mj_condw (mj_condw wi_83 (mj_condw wi_84 wi_85)) (mj_condw wi_86 (mj_condw wi_87 wi_88))))))) (mj_condw (mj_condw (mj_condw (mj_condw (mj_condw (mj_condw wi_89 wi_90) (mj_condw wi_91 (mj_condw wi_92 wi_93))) (mj_condw (mj_condw wi_94 (mj_condw wi_95 wi_96)) (mj_condw wi_97 (mj_condw wi_98 wi_99)))) (mj_condw (mj_condw (mj_condw wi_100 wi_101) (mj_condw wi_102 (mj_condw wi_103 wi_104))) (mj_condw (mj_condw wi_105 (mj_condw wi_106 wi_107)) (mj_condw wi_108 (mj_condw wi_109 wi_110))))) (mj_condw (mj_condw (mj_condw (mj_condw wi_111 wi_112) (mj_condw wi_113 (mj_condw wi_114 wi_115))) (mj_condw (mj_condw wi_116 (mj_condw wi_117 wi_118)) (mj_condw wi_119 (mj_condw wi_120 wi_121)))) (mj_condw (mj_condw (mj_condw wi_122 (mj_condw wi_123 wi_124)) (mj_condw wi_125 (mj_condw wi_126 wi_127))) (mj_condw (mj_condw wi_128 (mj_condw wi_129 wi_130)) (mj_condw wi_131 (mj_condw wi_132 wi_133)))))) (mj_condw (mj_condw (mj_condw (mj_condw (mj_condw wi_134 wi_135) (mj_condw wi_136 (mj_condw wi_137 wi_138))) (mj_condw (mj_condw wi_139 (mj_condw wi_140 wi_141)) (mj_condw wi_142 (mj_condw wi_143 wi_144)))) (mj_condw (mj_condw (mj_condw wi_145 wi_146) (mj_condw wi_147 (mj_condw wi_148 wi_149))) (mj_condw (mj_condw wi_150 (mj_condw wi_151 wi_152)) (mj_condw wi_153 (mj_condw wi_154 wi_155))))) (mj_condw (mj_condw (mj_condw (mj_condw wi_156 wi_157) (mj_condw wi_158 (mj_condw wi_159 wi_160))) (mj_condw (mj_condw wi_161 (mj_condw wi_162 wi_163)) (mj_condw wi_164 (mj_condw wi_165 wi_166)))) (mj_condw (mj_condw (mj_condw wi_167 (mj_condw wi_168 wi_169)) (mj_condw wi_170 (mj_condw wi_171 wi_172))) (mj_condw (mj_condw wi_173 (mj_condw wi_174 wi_175)) (mj_condw wi_176 (mj_condw wi_177 wi_178)))))))) (mj_condw (mj_condw (mj_condw (mj_condw (mj_condw (mj_condw (mj_condw wi_179 wi_180) (mj_condw wi_181 (mj_condw wi_182 wi_183))) (mj_condw (mj_condw wi_184 (mj_condw wi_185 wi_186)) (mj_condw wi_187 (mj_condw wi_188 wi_189)))) (mj_condw (mj_condw (mj_condw wi_190 wi_191) (mj_condw wi_192 (mj_condw wi_193 wi_194))) (mj_condw (mj_condw wi_195 (mj_condw wi_196 wi_197)) (mj_condw wi_198 (mj_condw wi_199 wi_200))))) (mj_condw (mj_condw (mj_condw (mj_condw wi_201 wi_202) (mj_condw wi_203 (mj_condw wi_204 wi_205))) (mj_condw (mj_condw wi_206 (mj_condw wi_207 wi_208)) (mj_condw wi_209 (mj_condw wi_210 wi_211)))) (mj_condw (mj_condw (mj_condw wi_212 wi_213) (mj_condw wi_214 (mj_condw wi_215 wi_216))) (mj_condw (mj_condw wi_217 (mj_condw wi_218 wi_219)) (mj_condw wi_220 (mj_condw wi_221 wi_222)))))) (mj_condw (mj_condw (mj_condw (mj_condw (mj_condw wi_223 wi_224) (mj_condw wi_225 (mj_condw wi_226 wi_227))) (mj_condw (mj_condw wi_228 (mj_condw wi_229 wi_230)) (mj_condw wi_231 (mj_condw wi_232 wi_233)))) (mj_condw (mj_condw (mj_condw wi_234 wi_235) (mj_condw wi_236 (mj_condw wi_237 wi_238))) (mj_condw (mj_condw wi_239 (mj_condw wi_240 wi_241)) (mj_condw wi_242 (mj_condw wi_243 wi_244))))) (mj_condw (mj_condw (mj_condw (mj_condw wi_245 wi_246) (mj_condw wi_247 (mj_condw wi_248 wi_249))) (mj_condw (mj_condw wi_250 (mj_condw wi_251 wi_252)) (mj_condw wi_253 (mj_condw wi_254 wi_255)))) (mj_condw (mj_condw (mj_condw wi_256 (mj_condw wi_257 wi_258)) (mj_condw wi_259 (mj_condw wi_260 wi_261))) (mj_condw (mj_condw wi_262 (mj_condw wi_263 wi_264)) (mj_condw wi_265 (mj_condw wi_266 wi_267))))))) (mj_condw (mj_condw (mj_condw (mj_condw (mj_condw (mj_condw wi_268 wi_269) (mj_condw wi_270 (mj_condw wi_271 wi_272))) (mj_condw (mj_condw wi_273 (mj_condw wi_274 wi_275)) (mj_condw wi_276 (mj_condw wi_277 wi_278)))) (mj_condw (mj_condw (mj_condw wi_279 wi_280) (mj_condw wi_281 (mj_condw wi_282 wi_283))) (mj_condw (mj_condw wi_284 (mj_condw wi_285 wi_286)) (mj_condw wi_287 (mj_condw wi_288 wi_289))))) (mj_condw (mj_condw (mj_condw (mj_condw wi_290 wi_291) (mj_condw wi_292 (mj_condw wi_293 wi_294))) (mj_condw (mj_condw wi_295 (mj_condw wi_296 wi_297)) (mj_condw wi_298 (mj_condw wi_299 wi_300)))) (mj_condw (mj_condw (mj_condw wi_301 (mj_condw wi_302 wi_303)) (mj_condw wi_304 (mj_condw wi_305 wi_306))) (mj_condw (mj_condw wi_307 (mj_condw wi_308 wi_309)) (mj_condw wi_310 (mj_condw wi_311 wi_312)))))) (mj_condw (mj_condw (mj_condw (mj_condw (mj_condw wi_313 wi_314) (mj_condw wi_315 (mj_condw wi_316 wi_317))) (mj_condw (mj_condw wi_318 (mj_condw wi_319 wi_320)) (mj_condw wi_321 (mj_condw wi_322 wi_323)))) (mj_condw (mj_condw (mj_condw wi_324 wi_325) (mj_condw wi_326 (mj_condw wi_327 wi_328))) (mj_condw (mj_condw wi_329 (mj_condw wi_330 wi_331)) (mj_condw wi_332 (mj_condw wi_333 wi_334))))) (mj_condw (mj_condw (mj_condw (mj_condw wi_335 wi_336) (mj_condw wi_337 (mj_condw wi_338 wi_339))) (mj_condw (mj_condw wi_340 (mj_condw wi_341 wi_342)) (mj_condw wi_343 (mj_condw wi_344 wi_345)))) (mj_condw (mj_condw (mj_condw wi_346 (mj_condw wi_347 wi_348)) (mj_condw wi_349 (mj_condw wi_350 wi_351))) (mj_condw (mj_condw wi_352 (mj_condw wi_353 wi_354)) (mj_condw wi_355 (mj_condw wi_356 wi_357))))))))) (mj_condw (mj_condw (mj_condw (mj_condw (mj_condw (mj_condw (mj_condw (mj_condw wi_358 wi_359) (mj_condw wi_360 (mj_condw wi_361 wi_362))) (mj_condw (mj_condw wi_363 (mj_condw wi_364 wi_365)) (mj_condw wi_366 (mj_condw wi_367 wi_368)))) (mj_condw (mj_condw (mj_condw wi_369 wi_370) (mj_condw wi_371 (mj_condw wi_372 wi_373))) (mj_condw (mj_condw wi_374 (mj_condw wi_375 wi_376)) (mj_condw wi_377 (mj_condw wi_378 wi_379))))) (mj_condw (mj_condw (mj_condw (mj_condw wi_380 wi_381) (mj_condw wi_382 (mj_condw wi_383 wi_384))) (mj_condw (mj_condw wi_385 (mj_condw wi_386 wi_387)) (mj_condw wi_388 (mj_condw wi_389 wi_390)))) (mj_condw (mj_condw (mj_condw wi_391 wi_392) (mj_condw wi_393 (mj_condw wi_394 wi_395))) (mj_condw (mj_condw wi_396 (mj_condw wi_397 wi_398)) (mj_condw wi_399 (mj_condw wi_400 wi_401)))))) (mj_condw (mj_condw (mj_condw (mj_condw (mj_condw wi_402 wi_403) (mj_condw wi_404 (mj_condw wi_405 wi_406))) (mj_condw (mj_condw wi_407 (mj_condw wi_408 wi_409)) (mj_condw wi_410 (mj_condw wi_411 wi_412)))) (mj_condw (mj_condw (mj_condw wi_413 wi_414) (mj_condw wi_415 (mj_condw wi_416 wi_417))) (mj_condw (mj_condw wi_418 (mj_condw wi_419 wi_420)) (mj_condw wi_421 (mj_condw wi_422 wi_423))))) (mj_condw (mj_condw (mj_condw (mj_condw wi_424 wi_425) (mj_condw wi_426 (mj_condw wi_427 wi_428))) (mj_condw (mj_condw wi_429 (mj_condw wi_430 wi_431)) (mj_condw wi_432 (mj_condw wi_433 wi_434)))) (mj_condw (mj_condw (mj_condw wi_435 (mj_condw wi_436 wi_437)) (mj_condw wi_438 (mj_condw wi_439 wi_440))) (mj_condw (mj_condw wi_441 (mj_condw wi_442 wi_443)) (mj_condw wi_444 (mj_condw wi_445 wi_446))))))) (mj_condw (mj_condw (mj_condw (mj_condw (mj_condw (mj_condw wi_447 wi_448) (mj_condw wi_449 (mj_condw wi_450 wi_451))) (mj_condw (mj_condw wi_452 (mj_condw wi_453 wi_454)) (mj_condw wi_455 (mj_condw wi_456 wi_457)))) (mj_condw (mj_condw (mj_condw wi_458 wi_459) (mj_condw wi_460 (mj_condw wi_461 wi_462))) (mj_condw (mj_condw wi_463 (mj_condw wi_464 wi_465)) (mj_condw wi_466 (mj_condw wi_467 wi_468))))) (mj_condw (mj_condw (mj_condw (mj_condw wi_469 wi_470) (mj_condw wi_471 (mj_condw wi_472 wi_473))) (mj_condw (mj_condw wi_474 (mj_condw wi_475 wi_476)) (mj_condw wi_477 (mj_condw wi_478 wi_479)))) (mj_condw (mj_condw (mj_condw wi_480 (mj_condw wi_481 wi_482)) (mj_condw wi_483 (mj_condw wi_484 wi_485))) (mj_condw (mj_condw wi_486 (mj_condw wi_487 wi_488)) (mj_condw wi_489 (mj_condw wi_490 wi_491)))))) (mj_condw (mj_condw (mj_condw (mj_condw (mj_condw wi_492 wi_493) (mj_condw wi_494 (mj_condw wi_495 wi_496))) (mj_condw (mj_condw wi_497 (mj_condw wi_498 wi_499)) (mj_condw wi_500 (mj_condw wi_501 wi_502)))) (mj_condw (mj_condw (mj_condw wi_503 wi_504) (mj_condw wi_505 (mj_condw wi_506 wi_507))) (mj_condw (mj_condw wi_508 (mj_condw wi_509 wi_510)) (mj_condw wi_511 (mj_condw wi_512 wi_513))))) (mj_condw (mj_condw (mj_condw (mj_condw wi_514 wi_515) (mj_condw wi_516 (mj_condw wi_517 wi_518))) (mj_condw (mj_condw wi_519 (mj_condw wi_520 wi_521)) (mj_condw wi_522 (mj_condw wi_523 wi_524)))) (mj_condw (mj_condw (mj_condw wi_525 (mj_condw wi_526 wi_527)) (mj_condw wi_528 (mj_condw wi_529 wi_530))) (mj_condw (mj_condw wi_531 (mj_condw wi_532 wi_533)) (mj_condw wi_534 (mj_condw wi_535 wi_536)))))))) (mj_condw (mj_condw (mj_condw (mj_condw (mj_condw (mj_condw (mj_condw wi_537 wi_538) (mj_condw wi_539 (mj_condw wi_540 wi_541))) (mj_condw (mj_condw wi_542 (mj_condw wi_543 wi_544)) (mj_condw wi_545 (mj_condw wi_546 wi_547)))) (mj_condw (mj_condw (mj_condw wi_548 wi_549) (mj_condw wi_550 (mj_condw wi_551 wi_552))) (mj_condw (mj_condw wi_553 (mj_condw wi_554 wi_555)) (mj_condw wi_556 (mj_condw wi_557 wi_558))))) (mj_condw (mj_condw (mj_condw (mj_condw wi_559 wi_560) (mj_condw wi_561 (mj_condw wi_562 wi_563))) (mj_condw (mj_condw wi_564 (mj_condw wi_565 wi_566)) (mj_condw wi_567 (mj_condw wi_568 wi_569)))) (mj_condw (mj_condw (mj_condw wi_570 (mj_condw wi_571 wi_572)) (mj_condw wi_573 (mj_condw wi_574 wi_575))) (mj_condw (mj_condw wi_576 (mj_condw wi_577 wi_578)) (mj_condw wi_579 (mj_condw wi_580 wi_581)))))) (mj_condw (mj_condw (mj_condw (mj_condw (mj_condw wi_582 wi_583) (mj_condw wi_584 (mj_condw wi_585 wi_586))) (mj_condw (mj_condw wi_587 (mj_condw wi_588 wi_589)) (mj_condw wi_590 (mj_condw wi_591 wi_592)))) (mj_condw (mj_condw (mj_condw wi_593 wi_594) (mj_condw wi_595 (mj_condw wi_596 wi_597))) (mj_condw (mj_condw wi_598 (mj_condw wi_599 wi_600)) (mj_condw wi_601 (mj_condw wi_602 wi_603))))) (mj_condw (mj_condw (mj_condw (mj_condw wi_604 wi_605) (mj_condw wi_606 (mj_condw wi_607 wi_608))) (mj_condw (mj_condw wi_609 (mj_condw wi_610 wi_611)) (mj_condw wi_612 (mj_condw wi_613 wi_614)))) (mj_condw (mj_condw (mj_condw wi_615 (mj_condw wi_616 wi_617)) (mj_condw wi_618 (mj_condw wi_619 wi_620))) (mj_condw (mj_condw wi_621 (mj_condw wi_622 wi_623)) (mj_condw wi_624 (mj_condw wi_625 wi_626))))))) (mj_condw (mj_condw (mj_condw (mj_condw (mj_condw (mj_condw wi_627 wi_628) (mj_condw wi_629 (mj_condw wi_630 wi_631))) (mj_condw (mj_condw wi_632 (mj_condw wi_633 wi_634)) (mj_condw wi_635 (mj_condw wi_636 wi_637)))) (mj_condw (mj_condw (mj_condw wi_638 wi_639) (mj_condw wi_640 (mj_condw wi_641 wi_642))) (mj_condw (mj_condw wi_643 (mj_condw wi_644 wi_645)) (mj_condw wi_646 (mj_condw wi_647 wi_648))))) (mj_condw (mj_condw (mj_condw (mj_condw wi_649 wi_650) (mj_condw wi_651 (mj_condw wi_652 wi_653))) (mj_condw (mj_condw wi_654 (mj_condw wi_655 wi_656)) (mj_condw wi_657 (mj_condw wi_658 wi_659)))) (mj_condw (mj_condw (mj_condw wi_660 (mj_condw wi_661 wi_662)) (mj_condw wi_663 (mj_condw wi_664 wi_665))) (mj_condw (mj_condw wi_666 (mj_condw wi_667 wi_668)) (mj_condw wi_669 (mj_condw wi_670 wi_671)))))) (mj_condw (mj_condw (mj_condw (mj_condw (mj_condw wi_672 wi_673) (mj_condw wi_674 (mj_condw wi_675 wi_676))) (mj_condw (mj_condw wi_677 (mj_condw wi_678 wi_679)) (mj_condw wi_680 (mj_condw wi_681 wi_682)))) (mj_condw (mj_condw (mj_condw wi_683 wi_684) (mj_condw wi_685 (mj_condw wi_686 wi_687))) (mj_condw (mj_condw wi_688 (mj_condw wi_689 wi_690)) (mj_condw wi_691 (mj_condw wi_692 wi_693))))) (mj_condw (mj_condw (mj_condw (mj_condw wi_694 wi_695) (mj_condw wi_696 (mj_condw wi_697 wi_698))) (mj_condw (mj_condw wi_699 (mj_condw wi_700 wi_701)) (mj_condw wi_702 (mj_condw wi_703 wi_704)))) (mj_condw (mj_condw (mj_condw wi_705 (mj_condw wi_706 wi_707)) (mj_condw wi_708 (mj_condw wi_709 wi_710))) (mj_condw (mj_condw wi_711 (mj_condw wi_712 wi_713)) (mj_condw wi_714 (mj_condw wi_715 wi_716)))))))))) (mj_condw (mj_condw (mj_condw (mj_condw (mj_condw (mj_condw (mj_condw (mj_condw (mj_condw wi_717 wi_718) (mj_condw wi_719 (mj_condw wi_720 wi_721))) (mj_condw (mj_condw wi_722 (mj_condw wi_723 wi_724)) (mj_condw wi_725 (mj_condw wi_726 wi_727)))) (mj_condw (mj_condw (mj_condw wi_728 wi_729) (mj_condw wi_730 (mj_condw wi_731 wi_732))) (mj_condw (mj_condw wi_733 (mj_condw wi_734 wi_735)) (mj_condw wi_736 (mj_condw wi_737 wi_738))))) (mj_condw (mj_condw (mj_condw (mj_condw wi_739 wi_740) (mj_condw wi_741 (mj_condw wi_742 wi_743))) (mj_condw (mj_condw wi_744 (mj_condw wi_745 wi_746)) (mj_condw wi_747 (mj_condw wi_748 wi_749)))) (mj_condw (mj_condw (mj_condw wi_750 wi_751) (mj_condw wi_752 (mj_condw wi_753 wi_754))) (mj_condw (mj_condw wi_755 (mj_condw wi_756 wi_757)) (mj_condw wi_758 (mj_condw wi_759 wi_760)))))) (mj_condw (mj_condw (mj_condw (mj_condw (mj_condw wi_761 wi_762) (mj_condw wi_763 (mj_condw wi_764 wi_765))) (mj_condw (mj_condw wi_766 (mj_condw wi_767 wi_768)) (mj_condw wi_769 (mj_condw wi_770 wi_771)))) (mj_condw (mj_condw (mj_condw wi_772 wi_773) (mj_condw wi_774 (mj_condw wi_775 wi_776))) (mj_condw (mj_condw wi_777 (mj_condw wi_778 wi_779)) (mj_condw wi_780 (mj_condw wi_781 wi_782))))) (mj_condw (mj_condw (mj_condw (mj_condw wi_783 wi_784) (mj_condw wi_785 (mj_condw wi_786 wi_787))) (mj_condw (mj_condw wi_788 (mj_condw wi_789 wi_790)) (mj_condw wi_791 (mj_condw wi_792 wi_793)))) (mj_condw (mj_condw (mj_condw wi_794 (mj_condw wi_795 wi_796)) (mj_condw wi_797 (mj_condw wi_798 wi_799))) (mj_condw (mj_condw wi_800 (mj_condw wi_801 wi_802)) (mj_condw wi_803 (mj_condw wi_804 wi_805))))))) (mj_condw (mj_condw (mj_condw (mj_condw (mj_condw (mj_condw wi_806 wi_807) (mj_condw wi_808 (mj_condw wi_809 wi_810))) (mj_condw (mj_condw wi_811 (mj_condw wi_812 wi_813)) (mj_condw wi_814 (mj_condw wi_815 wi_816)))) (mj_condw (mj_condw (mj_condw wi_817 wi_818) (mj_condw wi_819 (mj_condw wi_820 wi_821))) (mj_condw (mj_condw wi_822 (mj_condw wi_823 wi_824)) (mj_condw wi_825 (mj_condw wi_826 wi_827))))) (mj_condw (mj_condw (mj_condw (mj_condw wi_828 wi_829) (mj_condw wi_830 (mj_condw wi_831 wi_832))) (mj_condw (mj_condw wi_833 (mj_condw wi_834 wi_835)) (mj_condw wi_836 (mj_condw wi_837 wi_838)))) (mj_condw (mj_condw (mj_condw wi_839 (mj_condw wi_840 wi_841)) (mj_condw wi_842 (mj_condw wi_843 wi_844))) (mj_condw (mj_condw wi_845 (mj_condw wi_846 wi_847)) (mj_condw wi_848 (mj_condw wi_849 wi_850)))))) (mj_condw (mj_condw (mj_condw (mj_condw (mj_condw wi_851 wi_852) (mj_condw wi_853 (mj_condw wi_854 wi_855))) (mj_condw (mj_condw wi_856 (mj_condw wi_857 wi_858)) (mj_condw wi_859 (mj_condw wi_860 wi_861)))) (mj_condw (mj_condw (mj_condw wi_862 wi_863) (mj_condw wi_864 (mj_condw wi_865 wi_866))) (mj_condw (mj_condw wi_867 (mj_condw wi_868 wi_869)) (mj_condw wi_870 (mj_condw wi_871 wi_872))))) (mj_condw (mj_condw (mj_condw (mj_condw wi_873 wi_874) (mj_condw wi_875 (mj_condw wi_876 wi_877))) (mj_condw (mj_condw wi_878 (mj_condw wi_879 wi_880)) (mj_condw wi_881 (mj_condw wi_882 wi_883)))) (mj_condw (mj_condw (mj_condw wi_884 (mj_condw wi_885 wi_886)) (mj_condw wi_887 (mj_condw wi_888 wi_889))) (mj_condw (mj_condw wi_890 (mj_condw wi_891 wi_892)) (mj_condw wi_893 (mj_condw wi_894 wi_895)))))))) (mj_condw (mj_condw (mj_condw (mj_condw (mj_condw (mj_condw (mj_condw wi_896 wi_897) (mj_condw wi_898 (mj_condw wi_899 wi_900))) (mj_condw (mj_condw wi_901 (mj_condw wi_902 wi_903)) (mj_condw wi_904 (mj_condw wi_905 wi_906)))) (mj_condw (mj_condw (mj_condw wi_907 wi_908) (mj_condw wi_909 (mj_condw wi_910 wi_911))) (mj_condw (mj_condw wi_912 (mj_condw wi_913 wi_914)) (mj_condw wi_915 (mj_condw wi_916 wi_917))))) (mj_condw (mj_condw (mj_condw (mj_condw wi_918 wi_919) (mj_condw wi_920 (mj_condw wi_921 wi_922))) (mj_condw (mj_condw wi_923 (mj_condw wi_924 wi_925)) (mj_condw wi_926 (mj_condw wi_927 wi_928)))) (mj_condw (mj_condw (mj_condw wi_929 (mj_condw wi_930 wi_931)) (mj_condw wi_932 (mj_condw wi_933 wi_934))) (mj_condw (mj_condw wi_935 (mj_condw wi_936 wi_937)) (mj_condw wi_938 (mj_condw wi_939 wi_940)))))) (mj_condw (mj_condw (mj_condw (mj_condw (mj_condw wi_941 wi_942) (mj_condw wi_943 (mj_condw wi_944 wi_945))) (mj_condw (mj_condw wi_946 (mj_condw wi_947 wi_948)) (mj_condw wi_949 (mj_condw wi_950 wi_951)))) (mj_condw (mj_condw (mj_condw wi_952 wi_953) (mj_condw wi_954 (mj_condw wi_955 wi_956))) (mj_condw (mj_condw wi_957 (mj_condw wi_958 wi_959)) (mj_condw wi_960 (mj_condw wi_961 wi_962))))) (mj_condw (mj_condw (mj_condw (mj_condw wi_963 wi_964) (mj_condw wi_965 (mj_condw wi_966 wi_967))) (mj_condw (mj_condw wi_968 (mj_condw wi_969 wi_970)) (mj_condw wi_971 (mj_condw wi_972 wi_973)))) (mj_condw (mj_condw (mj_condw wi_974 (mj_condw wi_975 wi_976)) (mj_condw wi_977 (mj_condw wi_978 wi_979))) (mj_condw (mj_condw wi_980 (mj_condw wi_981 wi_982)) (mj_condw wi_983 (mj_condw wi_984 wi_985))))))) (mj_condw (mj_condw (mj_condw (mj_condw (mj_condw (mj_condw wi_986 wi_987) (mj_condw wi_988 (mj_condw wi_989 wi_990))) (mj_condw (mj_condw wi_991 (mj_condw wi_992 wi_993)) (mj_condw wi_994 (mj_condw wi_995 wi_996)))) (mj_condw (mj_condw (mj_condw wi_997 wi_998) (mj_condw wi_999 (mj_condw wi_1000 wi_1001))) (mj_condw (mj_condw wi_1002 (mj_condw wi_1003 wi_1004)) (mj_condw wi_1005 (mj_condw wi_1006 wi_1007))))) (mj_condw (mj_condw (mj_condw (mj_condw wi_1008 wi_1009) (mj_condw wi_1010 (mj_condw wi_1011 wi_1012))) (mj_condw (mj_condw wi_1013 (mj_condw wi_1014 wi_1015)) (mj_condw wi_1016 (mj_condw wi_1017 wi_1018)))) (mj_condw (mj_condw (mj_condw wi_1019 (mj_condw wi_1020 wi_1021)) (mj_condw wi_1022 (mj_condw wi_1023 wi_1024))) (mj_condw (mj_condw wi_1025 (mj_condw wi_1026 wi_1027)) (mj_condw wi_1028 (mj_condw wi_1029 wi_1030)))))) (mj_condw (mj_condw (mj_condw (mj_condw (mj_condw wi_1031 wi_1032) (mj_condw wi_1033 (mj_condw wi_1034 wi_1035))) (mj_condw (mj_condw wi_1036 (mj_condw wi_1037 wi_1038)) (mj_condw wi_1039 (mj_condw wi_1040 wi_1041)))) (mj_condw (mj_condw (mj_condw wi_1042 wi_1043) (mj_condw wi_1044 (mj_condw wi_1045 wi_1046))) (mj_condw (mj_condw wi_1047 (mj_condw wi_1048 wi_1049)) (mj_condw wi_1050 (mj_condw wi_1051 wi_1052))))) (mj_condw (mj_condw (mj_condw (mj_condw wi_1053 wi_1054) (mj_condw wi_1055 (mj_condw wi_1056 wi_1057))) (mj_condw (mj_condw wi_1058 (mj_condw wi_1059 wi_1060)) (mj_condw wi_1061 (mj_condw wi_1062 wi_1063)))) (mj_condw (mj_condw (mj_condw wi_1064 (mj_condw wi_1065 wi_1066)) (mj_condw wi_1067 (mj_condw wi_1068 wi_1069))) (mj_condw (mj_condw wi_1070 (mj_condw wi_1071 wi_1072)) (mj_condw wi_1073 (mj_condw wi_1074 wi_1075))))))))) (mj_condw (mj_condw (mj_condw (mj_condw (mj_condw (mj_condw (mj_condw (mj_condw wi_1076 wi_1077) (mj_condw wi_1078 (mj_condw wi_1079 wi_1080))) (mj_condw (mj_condw wi_1081 (mj_condw wi_1082 wi_1083)) (mj_condw wi_1084 (mj_condw wi_1085 wi_1086)))) (mj_condw (mj_condw (mj_condw wi_1087 wi_1088) (mj_condw wi_1089 (mj_condw wi_1090 wi_1091))) (mj_condw (mj_condw wi_1092 (mj_condw wi_1093 wi_1094)) (mj_condw wi_1095 (mj_condw wi_1096 wi_1097))))) (mj_condw (mj_condw (mj_condw (mj_condw wi_1098 wi_1099) (mj_condw wi_1100 (mj_condw wi_1101 wi_1102))) (mj_condw (mj_condw wi_1103 (mj_condw wi_1104 wi_1105)) (mj_condw wi_1106 (mj_condw wi_1107 wi_1108)))) (mj_condw (mj_condw (mj_condw wi_1109 wi_1110) (mj_condw wi_1111 (mj_condw wi_1112 wi_1113))) (mj_condw (mj_condw wi_1114 (mj_condw wi_1115 wi_1116)) (mj_condw wi_1117 (mj_condw wi_1118 wi_1119)))))) (mj_condw (mj_condw (mj_condw (mj_condw (mj_condw wi_1120 wi_1121) (mj_condw wi_1122 (mj_condw wi_1123 wi_1124))) (mj_condw (mj_condw wi_1125 (mj_condw wi_1126 wi_1127)) (mj_condw wi_1128 (mj_condw wi_1129 wi_1130)))) (mj_condw (mj_condw (mj_condw wi_1131 wi_1132) (mj_condw wi_1133 (mj_condw wi_1134 wi_1135))) (mj_condw (mj_condw wi_1136 (mj_condw wi_1137 wi_1138)) (mj_condw wi_1139 (mj_condw wi_1140 wi_1141))))) (mj_condw (mj_condw (mj_condw (mj_condw wi_1142 wi_1143) (mj_condw wi_1144 (mj_condw wi_1145 wi_1146))) (mj_condw (mj_condw wi_1147 (mj_condw wi_1148 wi_1149)) (mj_condw wi_1150 (mj_condw wi_1151 wi_1152)))) (mj_condw (mj_condw (mj_condw wi_1153 (mj_condw wi_1154 wi_1155)) (mj_condw wi_1156 (mj_condw wi_1157 wi_1158))) (mj_condw (mj_condw wi_1159 (mj_condw wi_1160 wi_1161)) (mj_condw wi_1162 (mj_condw wi_1163 wi_1164))))))) (mj_condw (mj_condw (mj_condw (mj_condw (mj_condw (mj_condw wi_1165 wi_1166) (mj_condw wi_1167 (mj_condw wi_1168 wi_1169))) (mj_condw (mj_condw wi_1170 (mj_condw wi_1171 wi_1172)) (mj_condw wi_1173 (mj_condw wi_1174 wi_1175)))) (mj_condw (mj_condw (mj_condw wi_1176 wi_1177) (mj_condw wi_1178 (mj_condw wi_1179 wi_1180))) (mj_condw (mj_condw wi_1181 (mj_condw wi_1182 wi_1183)) (mj_condw wi_1184 (mj_condw wi_1185 wi_1186))))) (mj_condw (mj_condw (mj_condw (mj_condw wi_1187 wi_1188) (mj_condw wi_1189 (mj_condw wi_1190 wi_1191))) (mj_condw (mj_condw wi_1192 (mj_condw wi_1193 wi_1194)) (mj_condw wi_1195 (mj_condw wi_1196 wi_1197)))) (mj_condw (mj_condw (mj_condw wi_1198 (mj_condw wi_1199 wi_1200)) (mj_condw wi_1201 (mj_condw wi_1202 wi_1203))) (mj_condw (mj_condw wi_1204 (mj_condw wi_1205 wi_1206)) (mj_condw wi_1207 (mj_condw wi_1208 wi_1209)))))) (mj_condw (mj_condw (mj_condw (mj_condw (mj_condw wi_1210 wi_1211) (mj_condw wi_1212 (mj_condw wi_1213 wi_1214))) (mj_condw (mj_condw wi_1215 (mj_condw wi_1216 wi_1217)) (mj_condw wi_1218 (mj_condw wi_1219 wi_1220)))) (mj_condw (mj_condw (mj_condw wi_1221 wi_1222) (mj_condw wi_1223 (mj_condw wi_1224 wi_1225))) (mj_condw (mj_condw wi_1226 (mj_condw wi_1227 wi_1228)) (mj_condw wi_1229 (mj_condw wi_1230 wi_1231))))) (mj_condw (mj_condw (mj_condw (mj_condw wi_1232 wi_1233) (mj_condw wi_1234 (mj_condw wi_1235 wi_1236))) (mj_condw (mj_condw wi_1237 (mj_condw wi_1238 wi_1239)) (mj_condw wi_1240 (mj_condw wi_1241 wi_1242)))) (mj_condw (mj_condw (mj_condw wi_1243 (mj_condw wi_1244 wi_1245)) (mj_condw wi_1246 (mj_condw wi_1247 wi_1248))) (mj_condw (mj_condw wi_1249 (mj_condw wi_1250 wi_1251)) (mj_condw wi_1252 (mj_condw wi_1253 wi_1254)))))))) (mj_condw (mj_condw (mj_condw (mj_condw (mj_condw (mj_condw (mj_condw wi_1255 wi_1256) (mj_condw wi_1257 (mj_condw wi_1258 wi_1259))) (mj_condw (mj_condw wi_1260 (mj_condw wi_1261 wi_1262)) (mj_condw wi_1263 (mj_condw wi_1264 wi_1265)))) (mj_condw (mj_condw (mj_condw wi_1266 wi_1267) (mj_condw wi_1268 (mj_condw wi_1269 wi_1270))) (mj_condw (mj_condw wi_1271 (mj_condw wi_1272 wi_1273)) (mj_condw wi_1274 (mj_condw wi_1275 wi_1276))))) (mj_condw (mj_condw (mj_condw (mj_condw wi_1277 wi_1278) (mj_condw wi_1279 (mj_condw wi_1280 wi_1281))) (mj_condw (mj_condw wi_1282 (mj_condw wi_1283 wi_1284)) (mj_condw wi_1285 (mj_condw wi_1286 wi_1287)))) (mj_condw (mj_condw (mj_condw wi_1288 (mj_condw wi_1289 wi_1290)) (mj_condw wi_1291 (mj_condw wi_1292 wi_1293))) (mj_condw (mj_condw wi_1294 (mj_condw wi_1295 wi_1296)) (mj_condw wi_1297 (mj_condw wi_1298 wi_1299)))))) (mj_condw (mj_condw (mj_condw (mj_condw (mj_condw wi_1300 wi_1301) (mj_condw wi_1302 (mj_condw wi_1303 wi_1304))) (mj_condw (mj_condw wi_1305 (mj_condw wi_1306 wi_1307)) (mj_condw wi_1308 (mj_condw wi_1309 wi_1310)))) (mj_condw (mj_condw (mj_condw wi_1311 wi_1312) (mj_condw wi_1313 (mj_condw wi_1314 wi_1315))) (mj_condw (mj_condw wi_1316 (mj_condw wi_1317 wi_1318)) (mj_condw wi_1319 (mj_condw wi_1320 wi_1321))))) (mj_condw (mj_condw (mj_condw (mj_condw wi_1322 wi_1323) (mj_condw wi_1324 (mj_condw wi_1325 wi_1326))) (mj_condw (mj_condw wi_1327 (mj_condw wi_1328 wi_1329)) (mj_condw wi_1330 (mj_condw wi_1331 wi_1332)))) (mj_condw (mj_condw (mj_condw wi_1333 (mj_condw wi_1334 wi_1335)) (mj_condw wi_1336 (mj_condw wi_1337 wi_1338))) (mj_condw (mj_condw wi_1339 (mj_condw wi_1340 wi_1341)) (mj_condw wi_1342 (mj_condw wi_1343 wi_1344))))))) (mj_condw (mj_condw (mj_condw (mj_condw (mj_condw (mj_condw wi_1345 wi_1346) (mj_condw wi_1347 (mj_condw wi_1348 wi_1349))) (mj_condw (mj_condw wi_1350 (mj_condw wi_1351 wi_1352)) (mj_condw wi_1353 (mj_condw wi_1354 wi_1355)))) (mj_condw (mj_condw (mj_condw wi_1356 wi_1357) (mj_condw wi_1358 (mj_condw wi_1359 wi_1360))) (mj_condw (mj_condw wi_1361 (mj_condw wi_1362 wi_1363)) (mj_condw wi_1364 (mj_condw wi_1365 wi_1366))))) (mj_condw (mj_condw (mj_condw (mj_condw wi_1367 wi_1368) (mj_condw wi_1369 (mj_condw wi_1370 wi_1371))) (mj_condw (mj_condw wi_1372 (mj_condw wi_1373 wi_1374)) (mj_condw wi_1375 (mj_condw wi_1376 wi_1377)))) (mj_condw (mj_condw (mj_condw wi_1378 (mj_condw wi_1379 wi_1380)) (mj_condw wi_1381 (mj_condw wi_1382 wi_1383))) (mj_condw (mj_condw wi_1384 (mj_condw wi_1385 wi_1386)) (mj_condw wi_1387 (mj_condw wi_1388 wi_1389)))))) (mj_condw (mj_condw (mj_condw (mj_condw (mj_condw wi_1390 wi_1391) (mj_condw wi_1392 (mj_condw wi_1393 wi_1394))) (mj_condw (mj_condw wi_1395 (mj_condw wi_1396 wi_1397)) (mj_condw wi_1398 (mj_condw wi_1399 wi_1400)))) (mj_condw (mj_condw (mj_condw wi_1401 wi_1402) (mj_condw wi_1403 (mj_condw wi_1404 wi_1405))) (mj_condw (mj_condw wi_1406 (mj_condw wi_1407 wi_1408)) (mj_condw wi_1409 (mj_condw wi_1410 wi_1411))))) (mj_condw (mj_condw (mj_condw (mj_condw wi_1412 wi_1413) (mj_condw wi_1414 (mj_condw wi_1415 wi_1416))) (mj_condw (mj_condw wi_1417 (mj_condw wi_1418 wi_1419)) (mj_condw wi_1420 (mj_condw wi_1421 wi_1422)))) (mj_condw (mj_condw (mj_condw wi_1423 (mj_condw wi_1424 wi_1425)) (mj_condw wi_1426 (mj_condw wi_1427 wi_1428))) (mj_condw (mj_condw wi_1429 (mj_condw wi_1430 wi_1431)) (mj_condw wi_1432 (mj_condw wi_1433 wi_1434)))))))))))
end
section
/-! ===== rows that p1 had no need of: division, longs, references compared, the words ===== -/
section MJD
variable {p : Program} {l : Launch} {e : Env} {R : Room} {s : State} {m : MethodId} {args : Array Value} {below : List Frame} {meth : Method} {c : Code} {own : String} {cc : ByteArray} {ret : Option FieldType} {D : va_G} {dA : Nat → ClassId} {B nL mc ms : Nat} {Q : mj_P}
variable {pc : Nat} {L : mj_L} {st : List mj_V} {G : mj_G} {M : mj_M} {cb sb : Nat}

theorem mj_o_idiv (X : mj_X p l e R s m args below meth c own cc ret D dA B nL mc ms Q) (hd : decode cc pc = .ok (.idiv, 1)) {x y : Int} (hy : y ≠ 0) (kk : ∀ z, mj_in z → z = (Int32.ofInt x / Int32.ofInt y).toInt → mj_J X (pc + 1) L (.inl z :: st) G M cb sb) : mj_J X pc L (.inl y :: .inl x :: st) G M cb sb := by
  intro H locs ls cells slots hH hS hL hst hc hs
  have hyi : mj_in y := mj_head hst
  refine lv_idiv X.1.1 X.1.2.1 hd (fun q => hy ?_) ?_
  · exact (mj_eq hyi ⟨by decide, by decide⟩).mp q
  · have g := kk _ (mj_rng _) rfl H locs ls cells slots hH hS hL (mj_cons (mj_tl (mj_tl hst)) (mj_rng _)) hc hs
    simp only [List.map_cons, mj_val, mj_it] at g
    exact g

theorem mj_o_irem (X : mj_X p l e R s m args below meth c own cc ret D dA B nL mc ms Q) (hd : decode cc pc = .ok (.irem, 1)) {x y : Int} (hy : y ≠ 0) (kk : ∀ z, mj_in z → z = (Int32.ofInt x - Int32.ofInt x / Int32.ofInt y * Int32.ofInt y).toInt → mj_J X (pc + 1) L (.inl z :: st) G M cb sb) : mj_J X pc L (.inl y :: .inl x :: st) G M cb sb := by
  intro H locs ls cells slots hH hS hL hst hc hs
  have hyi : mj_in y := mj_head hst
  refine lv_irem X.1.1 X.1.2.1 hd (fun q => hy ?_) ?_
  · exact (mj_eq hyi ⟨by decide, by decide⟩).mp q
  · have g := kk _ (mj_rng _) rfl H locs ls cells slots hH hS hL (mj_cons (mj_tl (mj_tl hst)) (mj_rng _)) hc hs
    simp only [List.map_cons, mj_val, mj_it] at g
    exact g

theorem mj_o_lor (X : mj_X p l e R s m args below meth c own cc ret D dA B nL mc ms Q) (hd : decode cc pc = .ok (.lor, 1)) {x y : Int64} (kk : mj_J X (pc + 1) L (.inr (.inl (x ||| y)) :: st) G M cb sb) : mj_J X pc L (.inr (.inl y) :: .inr (.inl x) :: st) G M cb sb := by
  intro H locs ls cells slots hH hS hL hst hc hs
  exact lv_lor X.1.1 X.1.2.1 hd (kk H locs ls cells slots hH hS hL (mj_cons (mj_tl (mj_tl hst)) trivial) hc hs)

theorem mj_o_land (X : mj_X p l e R s m args below meth c own cc ret D dA B nL mc ms Q) (hd : decode cc pc = .ok (.land, 1)) {x y : Int64} (kk : mj_J X (pc + 1) L (.inr (.inl (x &&& y)) :: st) G M cb sb) : mj_J X pc L (.inr (.inl y) :: .inr (.inl x) :: st) G M cb sb := by
  intro H locs ls cells slots hH hS hL hst hc hs
  exact lv_land X.1.1 X.1.2.1 hd (kk H locs ls cells slots hH hS hL (mj_cons (mj_tl (mj_tl hst)) trivial) hc hs)

theorem mj_o_lshl (X : mj_X p l e R s m args below meth c own cc ret D dA B nL mc ms Q) (hd : decode cc pc = .ok (.lshl, 1)) {x : Int64} {y : Int} (kk : mj_J X (pc + 1) L (.inr (.inl (x <<< ((Int32.ofInt y).toInt64 &&& 63))) :: st) G M cb sb) : mj_J X pc L (.inl y :: .inr (.inl x) :: st) G M cb sb := by
  intro H locs ls cells slots hH hS hL hst hc hs
  exact lv_lshl X.1.1 X.1.2.1 hd rfl (kk H locs ls cells slots hH hS hL (mj_cons (mj_tl (mj_tl hst)) trivial) hc hs)

theorem mj_o_lshr (X : mj_X p l e R s m args below meth c own cc ret D dA B nL mc ms Q) (hd : decode cc pc = .ok (.lshr, 1)) {x : Int64} {y : Int} (kk : mj_J X (pc + 1) L (.inr (.inl (x >>> ((Int32.ofInt y).toInt64 &&& 63))) :: st) G M cb sb) : mj_J X pc L (.inl y :: .inr (.inl x) :: st) G M cb sb := by
  intro H locs ls cells slots hH hS hL hst hc hs
  exact lv_lshr X.1.1 X.1.2.1 hd rfl (kk H locs ls cells slots hH hS hL (mj_cons (mj_tl (mj_tl hst)) trivial) hc hs)

theorem mj_o_lcmp (X : mj_X p l e R s m args below meth c own cc ret D dA B nL mc ms Q) (hd : decode cc pc = .ok (.lcmp, 1)) {x y : Int64} (kk : ∀ z, mj_in z → z = (lg_cmp x y).toInt → mj_J X (pc + 1) L (.inl z :: st) G M cb sb) : mj_J X pc L (.inr (.inl y) :: .inr (.inl x) :: st) G M cb sb := by
  intro H locs ls cells slots hH hS hL hst hc hs
  refine W.lcmp X.1.1 X.1.2.1 hd ?_
  have g := kk _ (mj_rng _) rfl H locs ls cells slots hH hS hL (mj_cons (mj_tl (mj_tl hst)) (mj_rng _)) hc hs
  simp only [List.map_cons, mj_val, mj_it] at g
  exact g
theorem mj_o_i2l (X : mj_X p l e R s m args below meth c own cc ret D dA B nL mc ms Q) (hd : decode cc pc = .ok (.i2l, 1)) {x : Int} (kk : mj_J X (pc + 1) L (.inr (.inl (Int32.ofInt x).toInt64) :: st) G M cb sb) : mj_J X pc L (.inl x :: st) G M cb sb := by
  intro H locs ls cells slots hH hS hL hst hc hs
  exact lv_i2l X.1.1 X.1.2.1 hd rfl (kk H locs ls cells slots hH hS hL (mj_cons (mj_tl hst) trivial) hc hs)
theorem mj_o_l2i (X : mj_X p l e R s m args below meth c own cc ret D dA B nL mc ms Q) (hd : decode cc pc = .ok (.l2i, 1)) {x : Int64} (kk : ∀ z, mj_in z → z = x.toInt32.toInt → mj_J X (pc + 1) L (.inl z :: st) G M cb sb) : mj_J X pc L (.inr (.inl x) :: st) G M cb sb := by
  intro H locs ls cells slots hH hS hL hst hc hs
  refine lv_l2i X.1.1 X.1.2.1 hd rfl ?_
  have g := kk _ (mj_rng _) rfl H locs ls cells slots hH hS hL (mj_cons (mj_tl hst) (mj_rng _)) hc hs
  simp only [List.map_cons, mj_val, mj_it] at g
  exact g
theorem mj_o_ldcw (X : mj_X p l e R s m args below meth c own cc ret D dA B nL mc ms Q) {i : Nat} {z : Int} (hd : decode cc pc = .ok (.ldc_w i, 3)) (hz : mj_in z) (hw : Cond.constant own i (Int32.ofInt z) ∈ mj_tb) (kk : mj_J X (pc + 3) L (.inl z :: st) G M cb sb) : mj_J X pc L st G M cb sb := by
  intro H locs ls cells slots hH hS hL hst hc hs
  exact lv_ldcw X.1.1 X.1.2.1 X.1.2.2.2.2 (X.2.1 _ hw) hd (kk H locs ls cells slots hH hS hL (mj_cons hst hz) hc hs)

theorem mj_o_acmp_eq (X : mj_X p l e R s m args below meth c own cc ret D dA B nL mc ms Q) {off : Int} {tgt : Nat} (hd : decode cc pc = .ok (.if_acmp .eq off, 3)) (ht : (pc : Int) + off = (tgt : Int)) {z y : Option Nat} (kt : z = y → mj_J X tgt L st G M cb sb) (kf : ¬ (z = y) → mj_J X (pc + 3) L st G M cb sb) : mj_J X pc L (.inr (.inr y) :: .inr (.inr z) :: st) G M cb sb := by
  intro H locs ls cells slots hH hS hL hst hc hs
  exact lv_acmp_eq X.1.1 X.1.2.1 hd ht (fun q => kt q H locs ls cells slots hH hS hL (mj_tl (mj_tl hst)) hc hs) (fun q => kf (q) H locs ls cells slots hH hS hL (mj_tl (mj_tl hst)) hc hs)

theorem mj_o_acmp_ne (X : mj_X p l e R s m args below meth c own cc ret D dA B nL mc ms Q) {off : Int} {tgt : Nat} (hd : decode cc pc = .ok (.if_acmp .ne off, 3)) (ht : (pc : Int) + off = (tgt : Int)) {z y : Option Nat} (kt : z ≠ y → mj_J X tgt L st G M cb sb) (kf : ¬ (z ≠ y) → mj_J X (pc + 3) L st G M cb sb) : mj_J X pc L (.inr (.inr y) :: .inr (.inr z) :: st) G M cb sb := by
  intro H locs ls cells slots hH hS hL hst hc hs
  exact lv_acmp_ne X.1.1 X.1.2.1 hd ht (fun q => kt q H locs ls cells slots hH hS hL (mj_tl (mj_tl hst)) hc hs) (fun q => kf (fun h => h q) H locs ls cells slots hH hS hL (mj_tl (mj_tl hst)) hc hs)

theorem mj_ne50 {t : Nat} (h : t % 1000 = 50) : t ≠ 0 := fun q => by rw [q] at h; simp at h
theorem mj_o_gets (X : mj_X p l e R s m args below meth c own cc ret D dA B nL mc ms Q) {i k : Nat} (hk : k < 24) (hd : decode cc pc = .ok (.getstatic i, 3)) (hw : Cond.fieldLink own i RX9 (mj_wn.getD k "") "LRentRiver$Word;" ∈ mj_tb) (kk : ∀ a, G a = (900050 + 1000 * k, 0) → mj_J X (pc + 3) L (.inr (.inr (some a)) :: st) G M cb sb) : mj_J X pc L st G M cb sb := by
  intro H locs ls cells slots hH hS hL hst hc hs
  exact va_gets X.1.1 X.1.2.1 (X.2.2.2.2.1.2.1.1 k hk).1 hS X.1.2.2.2.2 (X.2.1 _ hw) (fun x h => h) hd (kk (dA (100 + k)) (hH.2.1.2.1 k hk) H locs ls cells slots hH hS hL (mj_cons hst trivial) hc hs)
theorem mj_o_getsA (X : mj_X p l e R s m args below meth c own cc ret D dA B nL mc ms Q) {i : Nat} (hd : decode cc pc = .ok (.getstatic i, 3)) (hw : Cond.fieldLink own i RX9 "ALL" "[LRentRiver$Word;" ∈ mj_tb) (kk : ∀ a, G a = (900105, 24) → mj_J X (pc + 3) L (.inr (.inr (some a)) :: st) G M cb sb) : mj_J X pc L st G M cb sb := by
  intro H locs ls cells slots hH hS hL hst hc hs
  exact va_gets X.1.1 X.1.2.1 X.2.2.2.2.1.2.2.2 hS X.1.2.2.2.2 (X.2.1 _ hw) (fun x h => h) hd (kk (dA 99) hH.2.1.2.2.2 H locs ls cells slots hH hS hL (mj_cons hst trivial) hc hs)
theorem mj_wwi : ∀ k, k < 24 → (mj_ww.map Int32.ofInt).getD k 0 = Int32.ofInt (mj_ww.getD k 0) ∧ mj_in (mj_ww.getD k 0) := by
  intro k hk
  match k, hk with
  | 0, _ => exact ⟨rfl, by decide, by decide⟩
  | 1, _ => exact ⟨rfl, by decide, by decide⟩
  | 2, _ => exact ⟨rfl, by decide, by decide⟩
  | 3, _ => exact ⟨rfl, by decide, by decide⟩
  | 4, _ => exact ⟨rfl, by decide, by decide⟩
  | 5, _ => exact ⟨rfl, by decide, by decide⟩
  | 6, _ => exact ⟨rfl, by decide, by decide⟩
  | 7, _ => exact ⟨rfl, by decide, by decide⟩
  | 8, _ => exact ⟨rfl, by decide, by decide⟩
  | 9, _ => exact ⟨rfl, by decide, by decide⟩
  | 10, _ => exact ⟨rfl, by decide, by decide⟩
  | 11, _ => exact ⟨rfl, by decide, by decide⟩
  | 12, _ => exact ⟨rfl, by decide, by decide⟩
  | 13, _ => exact ⟨rfl, by decide, by decide⟩
  | 14, _ => exact ⟨rfl, by decide, by decide⟩
  | 15, _ => exact ⟨rfl, by decide, by decide⟩
  | 16, _ => exact ⟨rfl, by decide, by decide⟩
  | 17, _ => exact ⟨rfl, by decide, by decide⟩
  | 18, _ => exact ⟨rfl, by decide, by decide⟩
  | 19, _ => exact ⟨rfl, by decide, by decide⟩
  | 20, _ => exact ⟨rfl, by decide, by decide⟩
  | 21, _ => exact ⟨rfl, by decide, by decide⟩
  | 22, _ => exact ⟨rfl, by decide, by decide⟩
  | 23, _ => exact ⟨rfl, by decide, by decide⟩
  | n + 24, h => omega
theorem mj_o_getw (X : mj_X p l e R s m args below meth c own cc ret D dA B nL mc ms Q) {i a t n : Nat} (hd : decode cc pc = .ok (.getfield i, 3)) (hw : Cond.fieldLink own i RX9 "what" "I" ∈ mj_tb) (hG : G a = (t, n)) (ht : t % 1000 = 50) (kk : mj_J X (pc + 3) L (.inl (mj_ww.getD ((t - 900050) / 1000) 0) :: st) G M cb sb) : mj_J X pc L (.inr (.inr (some a)) :: st) G M cb sb := by
  intro H locs ls cells slots hH hS hL hst hc hs
  obtain ⟨k, hk, rfl, rfl⟩ := hH.2.1.2.2.1 a t n hG ht
  have ek : (900050 + 1000 * k - 900050) / 1000 = k := by omega
  rw [ek] at kk
  have g := kk H locs ls cells slots hH hS hL (mj_cons (mj_tl hst) (mj_wwi k hk).2) hc hs
  refine va_getE X.1.1 X.1.2.1 X.2.2.2.2.1.2.1 (i := k) hk hS X.1.2.2.2.2 (q := (RX9, "what", "I", mj_ww.map Int32.ofInt)) List.mem_cons_self (X.2.1 _ hw) (fun x h => h) hd ?_
  show W _ _ _ _ _ _ _ _ _ _ _ _ _ _ _ (F0 m (pc + 3) ls (.int ((mj_ww.map Int32.ofInt).getD k 0) :: _))
  rw [(mj_wwi k hk).1]
  exact g
theorem mj_o_getc (X : mj_X p l e R s m args below meth c own cc ret D dA B nL mc ms Q) {i a t n : Nat} (hd : decode cc pc = .ok (.getfield i, 3)) (hw : Cond.fieldLink own i RX9 "code" "J" ∈ mj_tb) (hG : G a = (t, n)) (ht : t % 1000 = 50) (kk : mj_J X (pc + 3) L (.inr (.inl (mj_wc.getD ((t - 900050) / 1000) 0)) :: st) G M cb sb) : mj_J X pc L (.inr (.inr (some a)) :: st) G M cb sb := by
  intro H locs ls cells slots hH hS hL hst hc hs
  obtain ⟨k, hk, rfl, rfl⟩ := hH.2.1.2.2.1 a t n hG ht
  have ek : (900050 + 1000 * k - 900050) / 1000 = k := by omega
  rw [ek] at kk
  exact va_getX X.1.1 X.1.2.1 X.2.2.2.2.1.2.2.1 (i := k) hk hS X.1.2.2.2.2 (X.2.1 _ hw) (fun x h => h) hd (kk H locs ls cells slots hH hS hL (mj_cons (mj_tl hst) trivial) hc hs)
theorem mj_o_areturn (X : mj_X p l e R s m args below meth c own cc ret D dA B nL mc ms Q) {z : Option Nat} (hd : decode cc pc = .ok (.areturn, 1)) (hr : ret = some (.object "RentRiver$Word")) (kk : Q (some (.inr (.inr z))) G M) : mj_J X pc L [.inr (.inr z)] G M cb sb := by
  intro H locs ls cells slots hH hS hL hst hc hs
  refine W.widen (k := mc) (n := ms) (by omega) (by omega) ?_
  have hq := mj_fin X hH hS (r := some (.inr (.inr z))) (fun v q => by cases q; trivial) kk
  exact W.aret X.1.1 X.1.2.1 (X.1.2.2.2.1.trans hr) (Or.inl ⟨_, rfl⟩) (by cases z <;> simp [mj_val, va_rf]) hq hS.2.2 hd X.2.2.1

theorem mj_o_callW (X : mj_X p l e R s m args below meth c own cc ret D dA B nL mc ms Q) {i a t n N d maxL mc' ms' : Nat} {y : MethodName} {bytes : ByteArray} {rt : Option FieldType} {As : List mj_V} {Q2 : mj_P} (hd : decode cc pc = .ok (.invokevirtual i, 3))
    (hM : Met l y (.code y bytes maxL rt :: mj_tb) (mj_rm d (mc', ms')) (mj_Pc D dA B (.inr (.inr (some a)) :: As) G M) (mj_Q D dA B Q2) mc' ms' (fun q => B ≤ q)) (hR : d + 1 ≤ R.frames ∧ 8 + (maxL + 11) + (100 * d + 100) ≤ R.locals)
    (hy : y.cls = RX9) (hy2 : y.cls ≠ "java/lang/invoke/MethodHandle" ∧ y.cls ≠ "java/lang/invoke/VarHandle" ∧ (parseMethodDescriptor y.desc).map (fun d => d.parameters.length) = some N) (hN : As.length = N)
    (hw1 : Cond.methodLink own i y ∈ mj_tb) (hw2 : Cond.instanceMethod y ∈ mj_tb) (hw3 : Cond.selects RX9 y y ∈ mj_tb) (hw4 : Cond.initialized RX9 ∈ mj_tb) (hw5 : Cond.code y bytes maxL rt ∈ mj_tb)
    (hG : G a = (t, n)) (ht : t % 1000 = 50) (h8 : mj_cat st ≤ 8) (h1 : mc' ≤ cb) (h2 : ms' ≤ sb) (kk : ∀ r G M, Q2 r G M → mj_J X (pc + 3) L (mj_ret r st) G M (cb - mc') (sb - ms')) : mj_J X pc L (As.reverse ++ .inr (.inr (some a)) :: st) G M cb sb := by
  intro H locs ls cells slots hH hS hL hst hc hs
  have hm1 : mc ≤ R.cells := X.2.2.2.2.2.2.2.1
  have hm2 : ms ≤ R.slots := X.2.2.2.2.2.2.2.2
  obtain ⟨kw, hkw, -, ha9⟩ := hH.2.1.2.2.1 a t n hG ht
  have hrc : ∃ cell : Cell, H[dA (100 + kw)]? = some cell ∧ cell.vm.isStatics = false ∧ s.vm.findClass RX9 = some cell.cls := va_recvE X.2.2.2.2.1.2.1 (i := kw) hkw hS
  rw [← ha9] at hrc
  have hstA : ∀ v ∈ As, mj_ok v := fun v hv => hst v (List.mem_append_left _ (List.mem_reverse.mpr hv))
  have hst' : ∀ v ∈ st, mj_ok v := fun v hv => hst v (List.mem_append_right _ (List.mem_cons_of_mem _ hv))
  have hgood : GoodIn mj_tb (wsV own i RX9 y (.code y bytes maxL rt :: mj_tb)) := mj_good fun w hw => by
    simp only [wsV, List.cons_append, List.nil_append, List.mem_cons] at hw
    rcases hw with rfl | rfl | rfl | rfl | rfl | hw
    · exact hw1
    · exact hw2
    · exact hw3
    · exact hw4
    · exact hw5
    · exact hw
  refine mj_after X (va_runV (As := As.map mj_val) (rest := st.map mj_val) (b := a) ⟨X.1.1, X.1.2.1, X.1.2.2.1, X.1.2.2.2.2, X.2.1⟩ hM (cwV N X.2.1 hgood rfl rfl rfl ⟨hy, hy2⟩ hR) ⟨mj_blind, hrc, fun U hU hW => ⟨rfl, by rw [hU]; exact hH, mj_K.moved hW.alike X.2.2.2.1, mj_cons hstA trivial, ⟨by rw [hU]; exact Nat.le_trans X.2.2.2.2.1.1 hS.1, X.2.2.2.2.1.2.go hS hU hW.alike⟩⟩⟩ rfl (by rw [List.length_map]; exact hN) hL.1.1 (by simp [List.map_append, List.map_reverse, mj_val, va_rf]) (by rw [mj_cat_eq]; show 2 * 0 + mj_cat st ≤ 8; omega) hd ⟨by omega, by omega⟩) hS hL hst' hc hs h1 h2 kk

end MJD
end
section
/-! ===== methods by their numbers; what a program checks of a method's list ===== -/
/-- name, code, places, what it returns, its list, (sort: 0 an object's, 1 static, 2 a maker; class; arguments), (cells, slots) -/
abbrev mj_T : Type := MethodName × ByteArray × Nat × Option FieldType × List mj_E × (Nat × Nat × Nat) × (Nat × Nat)
def mj_pc (full : List mj_E) (i : Nat) : Nat := match full[i]? with
  | some x => x.2.1
  | none => 0
def mj_len (i : Instr) : Nat := match i with
  | .iload _ => 2
  | .lload _ => 2
  | .aload _ => 2
  | .istore _ => 2
  | .lstore _ => 2
  | .astore _ => 2
  | .iinc _ _ => 3
  | .bipush _ => 2
  | .sipush _ => 3
  | .ldc _ => 2
  | .ldc2_w _ => 3
  | .ifCond _ _ => 3
  | .if_acmp _ _ => 3
  | .getstatic _ => 3
  | .putstatic _ => 3
  | .ldc_w _ => 3
  | .checkcast _ => 3
  | .if_icmp _ _ => 3
  | .ifnull _ => 3
  | .ifnonnull _ => 3
  | .goto _ => 3
  | .getfield _ => 3
  | .putfield _ => 3
  | .newarray _ => 2
  | .multianewarray _ _ => 4
  | .new _ => 3
  | .anewarray _ => 3
  | .invokevirtual _ => 3
  | .invokestatic _ => 3
  | .invokespecial _ => 3
  | _ => 1
/-- a switch says its length itself -/
def mj_lx (x : mj_E) : Nat := match x.1 with
  | .tableswitch _ _ _ _ => x.2.2.2.toNat
  | i => mj_len i
/-- a switch's targets, place by place -/
def mj_ct (full : List mj_E) (pc : Int) : List Int → List Nat → Bool
  | [], [] => true
  | o :: os, t :: ts => decide (pc + o = (mj_pc full t : Int)) && mj_ct full pc os ts
  | _, _ => false
def mj_cls (ci : Nat) : String := cond (Nat.beq ci 49) RX9 (vwCl.getD ci (RX0, TX0, 0)).1
def mj_wf (k : Nat) : String × String := match k with
  | 0 => ("code", "J")
  | _ => ("what", "I")
def mj_wg (k : Nat) : String × String := cond (Nat.blt k 24) (mj_wn.getD k "", "LRentRiver$Word;") ("ALL", "[LRentRiver$Word;")
theorem mj_cls_lt {ci : Nat} (h : ci < 12) : mj_cls ci = (vwCl.getD ci (RX0, TX0, 0)).1 := by
  have hb : Nat.beq ci 49 = false := by
    cases hq : Nat.beq ci 49 with
    | true => exact absurd (Nat.eq_of_beq_eq_true hq) (by omega)
    | false => rfl
  unfold mj_cls
  rw [hb]
  rfl
def mj_fld (ci k : Nat) : String × String × String × Bool := (vwCl.getD ci (RX0, TX0, 0)).2.1 k
def mj_num (ci : Nat) : Nat := (vwCl.getD ci (RX0, TX0, 0)).2.2
/-- what is checked of one row -/
def mj_cx (T : Nat → mj_T) (own : String) (ret : Option FieldType) (nL : Nat) (ini : Bool) (full : List mj_E) (x : mj_E) : Bool := match x.1 with
  | .istore_n k => decide (k.val < nL)
  | .istore k => decide (k < nL)
  | .astore_n k => decide (k.val < nL)
  | .astore k => decide (k < nL)
  | .lstore_n k => decide (k.val + 1 < nL)
  | .lstore k => decide (k + 1 < nL)
  | .iinc k _ => decide (k < nL)
  | .iconst z => decide (-2147483648 ≤ z ∧ z < 2147483648)
  | .bipush z => decide (-2147483648 ≤ z ∧ z < 2147483648) && decide ((Int8.ofInt z).toInt32 = Int32.ofInt z)
  | .sipush z => decide (-2147483648 ≤ z ∧ z < 2147483648) && decide ((Int16.ofInt z).toInt32 = Int32.ofInt z)
  | .ldc i => decide (-2147483648 ≤ x.2.2.2 ∧ x.2.2.2 < 2147483648) && decide (mj_wi (mj_hd x.2.2.1) = Cond.constant own i (Int32.ofInt x.2.2.2))
  | .ldc_w i => decide (-2147483648 ≤ x.2.2.2 ∧ x.2.2.2 < 2147483648) && decide (mj_wi (mj_hd x.2.2.1) = Cond.constant own i (Int32.ofInt x.2.2.2))
  | .if_acmp _ off => decide ((x.2.1 : Int) + off = (mj_pc full (mj_hd x.2.2.1) : Int))
  | .getstatic i => x.2.2.1.isEmpty || decide (mj_wi (mj_h1 x.2.2.1) = Cond.fieldLink own i RX9 (mj_wg (mj_hd x.2.2.1)).1 (mj_wg (mj_hd x.2.2.1)).2)
  | .areturn => decide (ret = some (.object "RentRiver$Word"))
  | .ldc2_w i => decide (mj_wi (mj_hd x.2.2.1) = Cond.constantLong own i (Int64.ofInt x.2.2.2))
  | .ifCond _ off => decide ((x.2.1 : Int) + off = (mj_pc full (mj_hd x.2.2.1) : Int))
  | .if_icmp _ off => decide ((x.2.1 : Int) + off = (mj_pc full (mj_hd x.2.2.1) : Int))
  | .ifnull off => decide ((x.2.1 : Int) + off = (mj_pc full (mj_hd x.2.2.1) : Int))
  | .ifnonnull off => decide ((x.2.1 : Int) + off = (mj_pc full (mj_hd x.2.2.1) : Int))
  | .goto off => decide ((x.2.1 : Int) + off = (mj_pc full (mj_hd x.2.2.1) : Int))
  | .getfield i => x.2.2.1.isEmpty || cond (Nat.beq (mj_hd x.2.2.1) 49) (decide (mj_wi (mj_h2 x.2.2.1) = Cond.fieldLink own i RX9 (mj_wf (mj_h1 x.2.2.1)).1 (mj_wf (mj_h1 x.2.2.1)).2)) (decide (mj_hd x.2.2.1 < 12) && decide (mj_h1 x.2.2.1 < mj_num (mj_hd x.2.2.1)) && decide (mj_wi (mj_h2 x.2.2.1) = Cond.fieldLink own i (mj_fld (mj_hd x.2.2.1) (mj_h1 x.2.2.1)).1 (mj_fld (mj_hd x.2.2.1) (mj_h1 x.2.2.1)).2.1 (mj_fld (mj_hd x.2.2.1) (mj_h1 x.2.2.1)).2.2.1))
  | .putfield i => x.2.2.1.isEmpty || decide (mj_hd x.2.2.1 < 12) && decide (mj_h1 x.2.2.1 < mj_num (mj_hd x.2.2.1)) && decide (mj_wi (mj_h2 x.2.2.1) = Cond.fieldLink own i (mj_fld (mj_hd x.2.2.1) (mj_h1 x.2.2.1)).1 (mj_fld (mj_hd x.2.2.1) (mj_h1 x.2.2.1)).2.1 (mj_fld (mj_hd x.2.2.1) (mj_h1 x.2.2.1)).2.2.1) && (!(mj_fld (mj_hd x.2.2.1) (mj_h1 x.2.2.1)).2.2.2 || (ini && decide ((mj_fld (mj_hd x.2.2.1) (mj_h1 x.2.2.1)).1 = own)))
  | .aaload => decide (mj_hd x.2.2.1 < 7) && decide ((mj_at (mj_hd x.2.2.1)).isReference = true) && decide (mj_as (mj_hd x.2.2.1) = 2)
  | .newarray a => decide (mj_hd x.2.2.1 < 4) && decide (newarray.typeOf a = mj_at (mj_hd x.2.2.1)) && decide (mj_wi (mj_h1 x.2.2.1) = Cond.arrayClass (mj_at (mj_hd x.2.2.1)))
  | .multianewarray i d => decide (d = 2) && decide (mj_wi (mj_hd x.2.2.1) = Cond.classLink own i ("[" ++ (FieldType.array .int).toString))
  | .anewarray i => decide (mj_hd x.2.2.1 = 5 ∨ mj_hd x.2.2.1 = 6) && decide (mj_wi (mj_h1 x.2.2.1) = Cond.classLink own i (mj_cn (mj_hd x.2.2.1)))
  | .aastore => decide (mj_hd x.2.2.1 = 5 ∨ mj_hd x.2.2.1 = 6)
  | .tableswitch df lo hi offs => decide ((x.2.1 : Int) + df = (mj_pc full (mj_hd x.2.2.1) : Int)) && decide (((x.2.2.1.drop 1).length : Int) = hi - lo + 1) && mj_ct full x.2.1 offs.toList (x.2.2.1.drop 1)
  | .new i => x.2.2.1.isEmpty || decide (mj_hd x.2.2.1 < 12) && decide (mj_wi (mj_h2 x.2.2.1) = Cond.classLink own i (mj_cls (mj_hd x.2.2.1))) && decide (mj_wi (mj_h3 x.2.2.1) = Cond.instantiable (mj_cls (mj_hd x.2.2.1)) (mj_h1 x.2.2.1)) && decide (mj_wi (mj_h4 x.2.2.1) = Cond.initialized (mj_cls (mj_hd x.2.2.1)))
  | .invokevirtual i => x.2.2.1.isEmpty || decide ((T (mj_hd x.2.2.1)).2.2.2.2.2.1 = (0, mj_h2 x.2.2.1, mj_h1 x.2.2.1)) && decide (mj_h2 x.2.2.1 < 12 ∨ mj_h2 x.2.2.1 = 49) && decide (mj_wi (mj_h3 x.2.2.1) = Cond.methodLink own i (T (mj_hd x.2.2.1)).1)
  | .invokestatic i => match x.2.2.1 with
    | [0, w] => decide (mj_wi w = Cond.methodLink own i Lib.Math.max.name)
    | [1, w] => decide (mj_wi w = Cond.methodLink own i Lib.Math.min.name)
    | [2, w] => decide (mj_wi w = Cond.methodLink own i Lib.Math.abs.name)
    | [_, w] => decide (mj_wi w = Cond.methodLink own i arraycopyName)
    | [] => true
    | _ => decide ((T (mj_hd x.2.2.1)).2.2.2.2.2.1.1 = 1) && decide ((T (mj_hd x.2.2.1)).2.2.2.2.2.1.2.2 = mj_h1 x.2.2.1) && decide (mj_wi (mj_h3 x.2.2.1) = Cond.methodLink own i (T (mj_hd x.2.2.1)).1)
  | .invokespecial i => match x.2.2.1 with
    | [] => decide (mj_wi x.2.2.2.toNat = Cond.methodLink own i objectInit)
    | y :: _ => decide ((T y).2.2.2.2.2.1 = (2, mj_h2 x.2.2.1, mj_h1 x.2.2.1)) && decide (mj_wi (mj_h3 x.2.2.1) = Cond.methodLink own i (T y).1)
  | .ireturn => decide ((x.2.2.2 = 0 ∧ ret = some .int) ∨ (x.2.2.2 = 1 ∧ ret = some .boolean))
  | .return_ => decide (ret = none)
  | _ => true
def mj_ends (i : Instr) : Bool := match i with
  | .goto _ => true
  | .tableswitch _ _ _ _ => true
  | .ireturn => true
  | .areturn => true
  | .lreturn => true
  | .athrow => true
  | .return_ => true
  | _ => false
def mj_cb (T : Nat → mj_T) (own : String) (ret : Option FieldType) (nL : Nat) (ini : Bool) (cc : ByteArray) (full : List mj_E) (i : Nat) (x : mj_E) : Bool :=
  decide (decode cc x.2.1 = .ok (x.1, mj_lx x)) && (mj_ends x.1 || decide (mj_pc full (i + 1) = x.2.1 + mj_lx x)) && mj_cx T own ret nL ini full x
def mj_ca (T : Nat → mj_T) (own : String) (ret : Option FieldType) (nL : Nat) (ini : Bool) (cc : ByteArray) (full : List mj_E) : Nat → List mj_E → Bool
  | _, [] => true
  | i, x :: t => mj_cb T own ret nL ini cc full i x && mj_ca T own ret nL ini cc full (i + 1) t
theorem mj_ct_at {full : List mj_E} {pc : Int} : ∀ (os : List Int) (ts : List Nat), mj_ct full pc os ts = true → ∀ (k t : Nat), ts[k]? = some t → ∃ o, os[k]? = some o ∧ pc + o = (mj_pc full t : Int)
  | [], [], _, k, t, h => by simp at h
  | [], _ :: _, h, _, _, _ => by cases h
  | _ :: _, [], h, _, _, _ => by cases h
  | o :: os, t' :: ts, h, 0, t, hk => by
    obtain rfl : t' = t := by simpa using hk
    unfold mj_ct at h
    rw [Bool.and_eq_true] at h
    exact ⟨o, rfl, of_decide_eq_true h.1⟩
  | o :: os, t' :: ts, h, k + 1, t, hk => by
    unfold mj_ct at h
    rw [Bool.and_eq_true] at h
    obtain ⟨o', h1, h2⟩ := mj_ct_at os ts h.2 k t (by simpa using hk)
    exact ⟨o', by simpa using h1, h2⟩
theorem mj_ca_at {T : Nat → mj_T} {own : String} {ret : Option FieldType} {nL : Nat} {ini : Bool} {cc : ByteArray} {full : List mj_E} : ∀ (l : List mj_E) (i j : Nat) (x : mj_E), mj_ca T own ret nL ini cc full i l = true → l[j]? = some x → mj_cb T own ret nL ini cc full (i + j) x = true
  | [], _, _, _, _, h => by simp at h
  | y :: t, i, 0, x, h, hx => by
    obtain rfl : y = x := by simpa using hx
    exact (Bool.and_eq_true _ _ ▸ h : _ ∧ _).1
  | y :: t, i, j + 1, x, h, hx => by
    have := mj_ca_at t (i + 1) j x (Bool.and_eq_true _ _ ▸ h : _ ∧ _).2 (by simpa using hx)
    rw [show i + 1 + j = i + (j + 1) by omega] at this
    exact this
/-- what is checked of a method's words -/
def mj_cm (q : mj_T) : Bool := decide (Cond.code q.1 q.2.1 q.2.2.1 q.2.2.2.1 ∈ mj_tb) && decide (Cond.initialized q.1.cls ∈ mj_tb) && decide (q.1.cls ≠ "java/lang/invoke/MethodHandle") && decide (q.1.cls ≠ "java/lang/invoke/VarHandle") && decide ((parseMethodDescriptor q.1.desc).map (fun d => d.parameters.length) = some q.2.2.2.2.2.1.2.2) && decide (plainName q.1.cls = true) && decide (q.2.2.1 ≤ 80) &&
  (match q.2.2.2.2.2.1.1 with
  | 0 => decide (q.1.cls = mj_cls q.2.2.2.2.2.1.2.1) && decide (Cond.instanceMethod q.1 ∈ mj_tb) && decide (Cond.selects q.1.cls q.1 q.1 ∈ mj_tb)
  | 1 => decide (Cond.static q.1 ∈ mj_tb)
  | _ => decide (q.1.cls = mj_cls q.2.2.2.2.2.1.2.1) && decide (Cond.instanceMethod q.1 ∈ mj_tb) && decide (q.1.name = "<init>") && decide (q.2.2.2.1 = none))
def mj_ok1 (T : Nat → mj_T) (q : mj_T) : Bool := mj_cm q && mj_ca T q.1.cls q.2.2.2.1 q.2.2.1 (decide (q.1.name = "<init>")) q.2.1 q.2.2.2.2.1 0 q.2.2.2.2.1 && decide (mj_pc q.2.2.2.2.1 0 = 0)
def mj_wd : List mj_V → Nat
  | [] => 0
  | .inr (.inl _) :: t => 2 + mj_wd t
  | _ :: t => 1 + mj_wd t
/-- the places at a method's start -/
def mj_en : List mj_V → Nat → mj_L
  | [], n => List.replicate n none
  | .inr (.inl w) :: t, n => some (.inr (.inl w)) :: none :: mj_en t (n - 2)
  | .inl z :: t, n => some (.inl z) :: mj_en t (n - 1)
  | .inr (.inr r) :: t, n => some (.inr (.inr r)) :: mj_en t (n - 1)
/-- a method, called no deeper than d, comes to an end with Q -/
def mj_R (T : Nat → mj_T) : Nat → mj_C
  | 0 => fun _ _ _ _ _ => False
  | d + 1 => fun y av G M Q => mj_wd av ≤ (T y).2.2.1 ∧ mj_W (fun y => (T y).2.2.2.2.2.2) (mj_R T d) (T y).2.2.2.2.1 Q (T y).2.2.2.2.1 (mj_en av (T y).2.2.1) [] G M (T y).2.2.2.2.2.2.1 (T y).2.2.2.2.2.2.2
theorem mj_en_asc : ∀ (av : List mj_V) (n i : Nat), mj_asc i (mj_en av n) = lv_args i (av.map mj_val)
  | [], n, i => by
    show mj_asc i (List.replicate n none) = []
    induction n generalizing i with
    | zero => rfl
    | succ n ih => exact ih (i + 1)
  | .inr (.inl w) :: t, n, i => by
    show (i, Value.long w) :: mj_asc (i + 1 + 1) (mj_en t (n - 2)) = (i, Value.long w) :: lv_args (i + 2) (t.map mj_val)
    rw [mj_en_asc t]
  | .inl z :: t, n, i => by
    show (i, Value.int (Int32.ofInt z)) :: mj_asc (i + 1) (mj_en t (n - 1)) = (i, Value.int (Int32.ofInt z)) :: lv_args (i + 1) (t.map mj_val)
    rw [mj_en_asc t]
  | .inr (.inr none) :: t, n, i => by
    show (i, Value.null) :: mj_asc (i + 1) (mj_en t (n - 1)) = (i, Value.null) :: lv_args (i + 1) (t.map mj_val)
    rw [mj_en_asc t]
  | .inr (.inr (some a)) :: t, n, i => by
    show (i, Value.ref a) :: mj_asc (i + 1) (mj_en t (n - 1)) = (i, Value.ref a) :: lv_args (i + 1) (t.map mj_val)
    rw [mj_en_asc t]
theorem mj_en_len : ∀ (av : List mj_V) (n : Nat), mj_wd av ≤ n → (mj_en av n).length = n
  | [], n, _ => by simp [mj_en]
  | .inr (.inl w) :: t, n, h => by
    have h : 2 + mj_wd t ≤ n := h
    show (mj_en t (n - 2)).length + 1 + 1 = n
    rw [mj_en_len t (n - 2) (by omega)]; omega
  | .inl z :: t, n, h => by
    have h : 1 + mj_wd t ≤ n := h
    show (mj_en t (n - 1)).length + 1 = n
    rw [mj_en_len t (n - 1) (by omega)]; omega
  | .inr (.inr r) :: t, n, h => by
    have h : 1 + mj_wd t ≤ n := h
    show (mj_en t (n - 1)).length + 1 = n
    rw [mj_en_len t (n - 1) (by omega)]; omega
theorem mj_wd_eq : ∀ av : List mj_V, (lg_sl (av.map mj_val)).length = mj_wd av
  | [] => rfl
  | .inr (.inl w) :: t => by
    have := mj_wd_eq t
    show (([Slot.val (Value.long w), Slot.second] : List Slot) ++ lg_sl (t.map mj_val)).length = 2 + mj_wd t
    rw [List.length_append, this]; rfl
  | .inl z :: t => by
    have := mj_wd_eq t
    show (([Slot.val (Value.int (Int32.ofInt z))] : List Slot) ++ lg_sl (t.map mj_val)).length = 1 + mj_wd t
    rw [List.length_append, this]; rfl
  | .inr (.inr none) :: t => by
    have := mj_wd_eq t
    show (([Slot.val Value.null] : List Slot) ++ lg_sl (t.map mj_val)).length = 1 + mj_wd t
    rw [List.length_append, this]; rfl
  | .inr (.inr (some a)) :: t => by
    have := mj_wd_eq t
    show (([Slot.val (Value.ref a)] : List Slot) ++ lg_sl (t.map mj_val)).length = 1 + mj_wd t
    rw [List.length_append, this]; rfl
theorem mj_en_ok : ∀ (av : List mj_V) (n : Nat) (j : Nat) (v : mj_V), (∀ w ∈ av, mj_ok w) → mj_nt (mj_en av n) j = some v → mj_ok v
  | [], n, j, v, _, h => by
    have : ∀ (n j : Nat), mj_nt (List.replicate n none) j = none := by
      intro n
      induction n with
      | zero => intro j; rfl
      | succ n ih =>
        intro j
        cases j with
        | zero => rfl
        | succ j => exact ih j
    rw [show mj_en [] n = List.replicate n none from rfl, this] at h
    cases h
  | .inr (.inl w) :: t, n, 0, v, _, h => by cases h; trivial
  | .inr (.inl w) :: t, n, 1, v, _, h => by cases h
  | .inr (.inl w) :: t, n, j + 2, v, ha, h => mj_en_ok t (n - 2) j v (mj_tl ha) h
  | .inl z :: t, n, 0, v, ha, h => by cases h; exact mj_head ha
  | .inl z :: t, n, j + 1, v, ha, h => mj_en_ok t (n - 1) j v (mj_tl ha) h
  | .inr (.inr r) :: t, n, 0, v, _, h => by cases h; trivial
  | .inr (.inr r) :: t, n, j + 1, v, ha, h => mj_en_ok t (n - 1) j v (mj_tl ha) h
end
section
/-! ===== what the small machine does, the machine does ===== -/
theorem mj_ldi_e {L : mj_L} {i : Nat} {k : mj_V → Prop} (h : mj_ldi L i k) : ∃ z, mj_nt L i = some (.inl z) ∧ k (.inl z) := by
  unfold mj_ldi at h
  split at h
  · rename_i z hz; exact ⟨z, hz, h⟩
  · exact h.elim
theorem mj_ldl_e {L : mj_L} {i : Nat} {k : mj_V → Prop} (h : mj_ldl L i k) : ∃ z, mj_nt L i = some (.inr (.inl z)) ∧ k (.inr (.inl z)) := by
  unfold mj_ldl at h
  split at h
  · rename_i z hz; exact ⟨z, hz, h⟩
  · exact h.elim
theorem mj_lda_e {L : mj_L} {i : Nat} {k : mj_V → Prop} (h : mj_lda L i k) : ∃ z, mj_nt L i = some (.inr (.inr z)) ∧ k (.inr (.inr z)) := by
  unfold mj_lda at h
  split at h
  · rename_i z hz; exact ⟨z, hz, h⟩
  · exact h.elim
theorem mj_i1_e {st : List mj_V} {k : Int → List mj_V → Prop} (h : mj_i1 st k) : ∃ z t, st = .inl z :: t ∧ k z t := by
  unfold mj_i1 at h
  split at h
  · exact ⟨_, _, rfl, h⟩
  · exact h.elim
theorem mj_l1_e {st : List mj_V} {k : Int64 → List mj_V → Prop} (h : mj_l1 st k) : ∃ z t, st = .inr (.inl z) :: t ∧ k z t := by
  unfold mj_l1 at h
  split at h
  · exact ⟨_, _, rfl, h⟩
  · exact h.elim
theorem mj_r1_e {st : List mj_V} {k : Option Nat → List mj_V → Prop} (h : mj_r1 st k) : ∃ z t, st = .inr (.inr z) :: t ∧ k z t := by
  unfold mj_r1 at h
  split at h
  · exact ⟨_, _, rfl, h⟩
  · exact h.elim
theorem mj_a1_e {st : List mj_V} {k : Nat → List mj_V → Prop} (h : mj_a1 st k) : ∃ z t, st = .inr (.inr (some z)) :: t ∧ k z t := by
  unfold mj_a1 at h
  split at h
  · exact ⟨_, _, rfl, h⟩
  · exact h.elim
theorem mj_c1_e {st : List mj_V} {k : mj_V → List mj_V → Prop} (h : mj_c1 st k) : ∃ v t, st = v :: t ∧ (∀ w, v ≠ .inr (.inl w)) ∧ k v t := by
  unfold mj_c1 at h
  split at h
  · exact ⟨_, _, rfl, (fun w q => by cases q), h⟩
  · exact ⟨_, _, rfl, (fun w q => by cases q), h⟩
  · exact h.elim
theorem mj_pop_e : ∀ (n : Nat) (acc st : List mj_V) (k : List mj_V → List mj_V → Prop), mj_pop n acc st k → ∃ As st', st = As.reverse ++ st' ∧ As.length = n ∧ k (As ++ acc) st'
  | 0, acc, st, k, h => ⟨[], st, rfl, rfl, h⟩
  | n + 1, acc, [], k, h => h.elim
  | n + 1, acc, v :: st, k, h => by
    obtain ⟨As, st', h1, h2, h3⟩ := mj_pop_e n (v :: acc) st k h
    refine ⟨As ++ [v], st', ?_, by simp [h2], ?_⟩
    · simp [h1]
    · rw [List.append_assoc]; exact h3
theorem mj_ald_e {j : Nat} {st : List mj_V} {G : mj_G} {k : Nat → Nat → List mj_V → Prop} (h : mj_ald j st G k) : ∃ i a st' t n, st = .inl i :: .inr (.inr (some a)) :: st' ∧ G a = (t, n) ∧ t % 1000 = 100 + j ∧ 0 ≤ i ∧ i < (n : Int) ∧ k a i.toNat st' := by
  obtain ⟨i, st1, rfl, h⟩ := mj_i1_e h
  obtain ⟨a, st2, rfl, h⟩ := mj_a1_e h
  obtain ⟨t, n, h1, h2, h3, h4, h5⟩ := h
  exact ⟨i, a, st2, t, n, rfl, h1, h2, h3, h4, h5⟩
theorem mj_aldw_e {j : Nat} {st : List mj_V} {G : mj_G} {k : Nat → Nat → List mj_V → Prop} (h : mj_aldw j st G k) : ∃ i a st' t n, st = .inl i :: .inr (.inr (some a)) :: st' ∧ G a = (t, n) ∧ t % 1000 = 100 + j ∧ t < 900000 ∧ 0 ≤ i ∧ i < (n : Int) ∧ k a i.toNat st' := by
  obtain ⟨i, st1, rfl, h⟩ := mj_i1_e h
  obtain ⟨a, st2, rfl, h⟩ := mj_a1_e h
  obtain ⟨t, n, h1, h2, h9, h3, h4, h5⟩ := h
  exact ⟨i, a, st2, t, n, rfl, h1, h2, h9, h3, h4, h5⟩
theorem mj_em {α : Type} {l : List α} (h : l ≠ []) {b : Bool} (hb : (l.isEmpty || b) = true) : b = true := by
  cases l with
  | nil => exact absurd rfl h
  | cons x t => exact hb
theorem mj_win {i : Nat} {w : Cond} (h : mj_wi i = w) : w ∈ mj_tb := h ▸ mj_wi_in i
theorem mj_sw_e {z : Int} {k : Nat → Prop} : ∀ (ts : List Nat) (v : Int), mj_sw z k v ts → ∀ (i t : Nat), ts[i]? = some t → z = v + i → k t
  | [], _, _, i, t, h, _ => by simp at h
  | t' :: ts, v, h, 0, t, hi, hz => by
    obtain rfl : t' = t := by simpa using hi
    exact h.1 (by rw [hz]; simp)
  | t' :: ts, v, h, i + 1, t, hi, hz => mj_sw_e ts (v + 1) h.2 i t (by simpa using hi) (by rw [hz]; push_cast; omega)
theorem mj_vw {ci : Nat} (h : ci < 12) : vwCl[ci]? = some (vwCl.getD ci (RX0, TX0, 0)) := by
  rw [List.getD_eq_getElem?_getD]
  cases hc : vwCl[ci]? with
  | none => exact absurd (List.getElem?_eq_none_iff.mp hc) (by show ¬ 12 ≤ ci; omega)
  | some x => rfl
def mj_tc (ty : FieldType) : Bool := match ty with
  | .int => true
  | .boolean => true
  | .long => true
  | .object _ => true
  | .array _ => true
  | _ => false
theorem mj_tc_nf {ty : FieldType} (h : mj_tc ty = true) : ty ≠ .float ∧ ty ≠ .double := by
  constructor <;> (intro q; rw [q] at h; cases h)
theorem mj_tc0 : ∀ k, k < 19 → mj_tc (mj_ty 0 k) = true := by decide +kernel
theorem mj_tc1 : ∀ k, k < 4 → mj_tc (mj_ty 1 k) = true := by decide +kernel
theorem mj_tc2 : ∀ k, k < 8 → mj_tc (mj_ty 2 k) = true := by decide +kernel
theorem mj_tc3 : ∀ k, k < 15 → mj_tc (mj_ty 3 k) = true := by decide +kernel
theorem mj_tc4 : ∀ k, k < 4 → mj_tc (mj_ty 4 k) = true := by decide +kernel
theorem mj_tc5 : ∀ k, k < 6 → mj_tc (mj_ty 5 k) = true := by decide +kernel
theorem mj_tc6 : ∀ k, k < 4 → mj_tc (mj_ty 6 k) = true := by decide +kernel
theorem mj_tc7 : ∀ k, k < 12 → mj_tc (mj_ty 7 k) = true := by decide +kernel
theorem mj_tc8 : ∀ k, k < 4 → mj_tc (mj_ty 8 k) = true := by decide +kernel
theorem mj_tc9 : ∀ k, k < 15 → mj_tc (mj_ty 9 k) = true := by decide +kernel
theorem mj_tc10 : ∀ k, k < 14 → mj_tc (mj_ty 10 k) = true := by decide +kernel
theorem mj_tc11 : ∀ k, k < 62 → mj_tc (mj_ty 11 k) = true := by decide +kernel
theorem mj_layA : ∀ (ci : Nat) (r : vw_C), vwCl[ci]? = some r → ∀ w ∈ u_ws r.1 r.2.1 r.2.2, w ∈ mj_tb
  | 0, r, hr => by cases hr; exact mj_lay0
  | 1, r, hr => by cases hr; exact mj_lay1
  | 2, r, hr => by cases hr; exact mj_lay2
  | 3, r, hr => by cases hr; exact mj_lay3
  | 4, r, hr => by cases hr; exact mj_lay4
  | 5, r, hr => by cases hr; exact mj_lay5
  | 6, r, hr => by cases hr; exact mj_lay6
  | 7, r, hr => by cases hr; exact mj_lay7
  | 8, r, hr => by cases hr; exact mj_lay8
  | 9, r, hr => by cases hr; exact mj_lay9
  | 10, r, hr => by cases hr; exact mj_lay10
  | 11, r, hr => by cases hr; exact mj_lay11
  | n + 12, r, hr => by simp [vwCl] at hr
theorem mj_tyA : ∀ (ci : Nat) (r : vw_C), vwCl[ci]? = some r → ∀ k, k < r.2.2 → parseFieldDescriptor (r.2.1 k).2.2.1 = some (mj_ty ci k)
  | 0, r, hr => by cases hr; exact tyX0_ok
  | 1, r, hr => by cases hr; exact tyX1_ok
  | 2, r, hr => by cases hr; exact tyX2_ok
  | 3, r, hr => by cases hr; exact tyX3_ok
  | 4, r, hr => by cases hr; exact tyX4_ok
  | 5, r, hr => by cases hr; exact tyX5_ok
  | 6, r, hr => by cases hr; exact tyX6_ok
  | 7, r, hr => by cases hr; exact tyX7_ok
  | 8, r, hr => by cases hr; exact tyX8_ok
  | 9, r, hr => by cases hr; exact tyX10_ok
  | 10, r, hr => by cases hr; exact tyX11_ok
  | 11, r, hr => by cases hr; exact tyX12_ok
  | n + 12, r, hr => by simp [vwCl] at hr
theorem mj_nmA : ∀ (ci : Nat) (r : vw_C), vwCl[ci]? = some r → ∀ x, x < r.2.2 → ∀ y, y < r.2.2 → x ≠ y → (r.2.1 x).2.1 ≠ (r.2.1 y).2.1
  | 0, r, hr => by cases hr; exact nmX0
  | 1, r, hr => by cases hr; exact nmX1
  | 2, r, hr => by cases hr; exact nmX2
  | 3, r, hr => by cases hr; exact nmX3
  | 4, r, hr => by cases hr; exact nmX4
  | 5, r, hr => by cases hr; exact nmX5
  | 6, r, hr => by cases hr; exact nmX6
  | 7, r, hr => by cases hr; exact nmX7
  | 8, r, hr => by cases hr; exact nmX8
  | 9, r, hr => by cases hr; exact nmX10
  | 10, r, hr => by cases hr; exact nmX11
  | 11, r, hr => by cases hr; exact nmX12
  | n + 12, r, hr => by simp [vwCl] at hr
theorem mj_tcA : ∀ (ci : Nat) (r : vw_C), vwCl[ci]? = some r → ∀ k, k < r.2.2 → mj_tc (mj_ty ci k) = true
  | 0, r, hr => by cases hr; exact mj_tc0
  | 1, r, hr => by cases hr; exact mj_tc1
  | 2, r, hr => by cases hr; exact mj_tc2
  | 3, r, hr => by cases hr; exact mj_tc3
  | 4, r, hr => by cases hr; exact mj_tc4
  | 5, r, hr => by cases hr; exact mj_tc5
  | 6, r, hr => by cases hr; exact mj_tc6
  | 7, r, hr => by cases hr; exact mj_tc7
  | 8, r, hr => by cases hr; exact mj_tc8
  | 9, r, hr => by cases hr; exact mj_tc9
  | 10, r, hr => by cases hr; exact mj_tc10
  | 11, r, hr => by cases hr; exact mj_tc11
  | n + 12, r, hr => by simp [vwCl] at hr
theorem mj_nar0 {ty : FieldType} (h : mj_tc ty = true) (hs : mj_fs ty = 0) {z : Int} (hz : ty = .boolean → z = 0 ∨ z = 1) : narrow ty (mj_val (.inl z)) = mj_val (.inl z) ∧ fits ty (mj_val (.inl z)) = true := by
  cases ty with
  | int => exact ⟨rfl, rfl⟩
  | boolean => rcases hz rfl with rfl | rfl <;> exact ⟨rfl, rfl⟩
  | long => cases hs
  | object _ => cases hs
  | array _ => cases hs
  | _ => cases h
theorem mj_nar1 {ty : FieldType} (h : mj_tc ty = true) (hs : mj_fs ty = 1) {z : Int64} : narrow ty (mj_val (.inr (.inl z))) = mj_val (.inr (.inl z)) ∧ fits ty (mj_val (.inr (.inl z))) = true := by
  cases ty with
  | long => exact ⟨rfl, rfl⟩
  | int => cases hs
  | boolean => cases hs
  | object _ => cases hs
  | array _ => cases hs
  | _ => cases h
theorem mj_nar2 {ty : FieldType} (h : mj_tc ty = true) (hs : mj_fs ty ≠ 0) (hs1 : mj_fs ty ≠ 1) {z : Option Nat} : narrow ty (mj_val (.inr (.inr z))) = mj_val (.inr (.inr z)) ∧ fits ty (mj_val (.inr (.inr z))) = true := by
  cases ty with
  | object _ => cases z <;> exact ⟨rfl, rfl⟩
  | array _ => cases z <;> exact ⟨rfl, rfl⟩
  | long => exact absurd rfl hs1
  | int => exact absurd rfl hs
  | boolean => exact absurd rfl hs
  | _ => cases h
theorem mj_fs_le (ty : FieldType) : mj_fs ty = 0 ∨ mj_fs ty = 1 ∨ mj_fs ty = 2 := by
  cases ty <;> simp [mj_fs]
/-- the contract that a method's run gives -/
def mj_Mt (l : Launch) (D : va_G) (dA : Nat → ClassId) (B : Nat) (q : mj_T) (d : Nat) (av : List mj_V) (G : mj_G) (M : mj_M) (Q : mj_P) : Prop :=
  Met l q.1 (.code q.1 q.2.1 q.2.2.1 q.2.2.2.1 :: mj_tb) (mj_rm d q.2.2.2.2.2.2) (mj_Pc D dA B av G M) (mj_Q D dA B Q) q.2.2.2.2.2.2.1 q.2.2.2.2.2.2.2 (fun q => B ≤ q)
section MJS
variable {p : Program} {l : Launch} {e : Env} {R : Room} {s : State} {m : MethodId} {args : Array Value} {below : List Frame} {meth : Method} {c : Code} {own : String} {cc : ByteArray} {ret : Option FieldType} {D : va_G} {dA : Nat → ClassId} {B nL mc ms : Nat} {Q : mj_P}
set_option maxHeartbeats 4000000 in
set_option maxRecDepth 100000 in
theorem mj_snd (X : mj_X p l e R s m args below meth c own cc ret D dA B nL mc ms Q) {T : Nat → mj_T} {C : mj_C} {full : List mj_E} {ini : Bool} {d : Nat} (hini : ini = true → meth.name = "<init>") (hR : d + 1 ≤ R.frames ∧ 100 * (d + 1) + 100 ≤ R.locals)
    (hw3 : Cond.arrayClass .int ∈ mj_tb) (ho2 : Cond.instanceMethod objectInit ∈ mj_tb) (ho3 : Cond.code objectInit ⟨#[0xb1]⟩ 1 none ∈ mj_tb)
    (hlw : (Cond.static Lib.Math.max.name ∈ mj_tb ∧ Cond.code Lib.Math.max.name Lib.Math.max.code 2 (some .int) ∈ mj_tb) ∧ (Cond.static Lib.Math.min.name ∈ mj_tb ∧ Cond.code Lib.Math.min.name Lib.Math.min.code 2 (some .int) ∈ mj_tb) ∧ (Cond.static Lib.Math.abs.name ∈ mj_tb ∧ Cond.code Lib.Math.abs.name Lib.Math.abs.code 1 (some .int) ∈ mj_tb) ∧ Cond.initialized "java/lang/Math" ∈ mj_tb ∧ Cond.native arraycopyName ∈ mj_tb ∧ Cond.static arraycopyName ∈ mj_tb ∧ Cond.initialized "java/lang/System" ∈ mj_tb)
    (hT : ∀ y, mj_cm (T y) = true) (hC : ∀ y av G M Q, C y av G M Q → mj_Mt l D dA B (T y) d av G M Q) (hck : ∀ i x, full[i]? = some x → mj_cb T own ret nL ini cc full i x = true) :
    ∀ (rest : List mj_E) (L : mj_L) (st : List mj_V) (G : mj_G) (M : mj_M) (cb sb : Nat), mj_x (fun y => (T y).2.2.2.2.2.2) C full Q (fun rest L st G M cb sb => ∀ i, rest = full.drop i → mj_J X (mj_pc full i) L st G M cb sb) 1 rest L st G M cb sb → ∀ i, rest = full.drop i → mj_J X (mj_pc full i) L st G M cb sb := by
    intro rest0 L st G M cb sb h i hd0
    have ih : ∀ (i : Nat) (L : mj_L) (st : List mj_V) (G : mj_G) (M : mj_M) (cb sb : Nat), mj_x (fun y => (T y).2.2.2.2.2.2) C full Q (fun rest L st G M cb sb => ∀ i, rest = full.drop i → mj_J X (mj_pc full i) L st G M cb sb) 0 (full.drop i) L st G M cb sb → mj_J X (mj_pc full i) L st G M cb sb := fun i L st G M cb sb h => h i rfl
    subst hd0
    cases hd : full.drop i with
    | nil => rw [hd] at h; exact h.elim
    | cons x rest =>
      rw [hd] at h
      have hx : full[i]? = some x := by
        have h1 : (full.drop i)[0]? = some x := by rw [hd]; rfl
        rw [List.getElem?_drop] at h1
        exact h1
      have hrest : rest = full.drop (i + 1) := by
        have h1 : (full.drop i).drop 1 = rest := by rw [hd]; rfl
        rw [List.drop_drop] at h1
        rw [← h1, Nat.add_comm]
      subst hrest
      have hpc : mj_pc full i = x.2.1 := by unfold mj_pc; rw [hx]
      rw [hpc]
      have hc0 := hck i x hx
      obtain ⟨ins, pc, aux, imm⟩ := x
      simp only [mj_cb, Bool.and_eq_true, Bool.or_eq_true, decide_eq_true_eq] at hc0
      obtain ⟨⟨hdec, hnx⟩, hcx⟩ := hc0
      dsimp only at hdec hnx hcx h ⊢
      cases ins
      case iload_n k =>
        have h : mj_ldi L k.val (fun v => mj_x (fun y => (T y).2.2.2.2.2.2) C full Q (fun rest L st G M cb sb => ∀ i, rest = full.drop i → mj_J X (mj_pc full i) L st G M cb sb) 0 (full.drop (i + 1)) L (v :: st) G M cb sb) := h
        obtain ⟨z, h1, h2⟩ := mj_ldi_e h
        have hn := hnx.resolve_left Bool.false_ne_true
        have g := ih (i + 1) _ _ _ _ _ _ h2
        rw [hn] at g
        exact mj_o_iload_n X hdec h1 g
      case iload k =>
        have h : mj_ldi L k (fun v => mj_x (fun y => (T y).2.2.2.2.2.2) C full Q (fun rest L st G M cb sb => ∀ i, rest = full.drop i → mj_J X (mj_pc full i) L st G M cb sb) 0 (full.drop (i + 1)) L (v :: st) G M cb sb) := h
        obtain ⟨z, h1, h2⟩ := mj_ldi_e h
        have hn := hnx.resolve_left Bool.false_ne_true
        have g := ih (i + 1) _ _ _ _ _ _ h2
        rw [hn] at g
        exact mj_o_iload X hdec h1 g
      case lload_n k =>
        have h : mj_ldl L k.val (fun v => mj_x (fun y => (T y).2.2.2.2.2.2) C full Q (fun rest L st G M cb sb => ∀ i, rest = full.drop i → mj_J X (mj_pc full i) L st G M cb sb) 0 (full.drop (i + 1)) L (v :: st) G M cb sb) := h
        obtain ⟨z, h1, h2⟩ := mj_ldl_e h
        have hn := hnx.resolve_left Bool.false_ne_true
        have g := ih (i + 1) _ _ _ _ _ _ h2
        rw [hn] at g
        exact mj_o_lload_n X hdec h1 g
      case lload k =>
        have h : mj_ldl L k (fun v => mj_x (fun y => (T y).2.2.2.2.2.2) C full Q (fun rest L st G M cb sb => ∀ i, rest = full.drop i → mj_J X (mj_pc full i) L st G M cb sb) 0 (full.drop (i + 1)) L (v :: st) G M cb sb) := h
        obtain ⟨z, h1, h2⟩ := mj_ldl_e h
        have hn := hnx.resolve_left Bool.false_ne_true
        have g := ih (i + 1) _ _ _ _ _ _ h2
        rw [hn] at g
        exact mj_o_lload X hdec h1 g
      case aload_n k =>
        have h : mj_lda L k.val (fun v => mj_x (fun y => (T y).2.2.2.2.2.2) C full Q (fun rest L st G M cb sb => ∀ i, rest = full.drop i → mj_J X (mj_pc full i) L st G M cb sb) 0 (full.drop (i + 1)) L (v :: st) G M cb sb) := h
        obtain ⟨z, h1, h2⟩ := mj_lda_e h
        have hn := hnx.resolve_left Bool.false_ne_true
        have g := ih (i + 1) _ _ _ _ _ _ h2
        rw [hn] at g
        exact mj_o_aload_n X hdec h1 g
      case aload k =>
        have h : mj_lda L k (fun v => mj_x (fun y => (T y).2.2.2.2.2.2) C full Q (fun rest L st G M cb sb => ∀ i, rest = full.drop i → mj_J X (mj_pc full i) L st G M cb sb) 0 (full.drop (i + 1)) L (v :: st) G M cb sb) := h
        obtain ⟨z, h1, h2⟩ := mj_lda_e h
        have hn := hnx.resolve_left Bool.false_ne_true
        have g := ih (i + 1) _ _ _ _ _ _ h2
        rw [hn] at g
        exact mj_o_aload X hdec h1 g
      case istore_n k =>
        have h : mj_i1 st (fun z st => mj_x (fun y => (T y).2.2.2.2.2.2) C full Q (fun rest L st G M cb sb => ∀ i, rest = full.drop i → mj_J X (mj_pc full i) L st G M cb sb) 0 (full.drop (i + 1)) (mj_s1 L k.val (.inl z)) st G M cb sb) := h
        obtain ⟨z, st, rfl, h2⟩ := mj_i1_e h
        have hn := hnx.resolve_left Bool.false_ne_true
        have g := ih (i + 1) _ _ _ _ _ _ h2
        rw [hn] at g
        exact mj_o_istore_n X hdec (of_decide_eq_true hcx) g
      case istore k =>
        have h : mj_i1 st (fun z st => mj_x (fun y => (T y).2.2.2.2.2.2) C full Q (fun rest L st G M cb sb => ∀ i, rest = full.drop i → mj_J X (mj_pc full i) L st G M cb sb) 0 (full.drop (i + 1)) (mj_s1 L k (.inl z)) st G M cb sb) := h
        obtain ⟨z, st, rfl, h2⟩ := mj_i1_e h
        have hn := hnx.resolve_left Bool.false_ne_true
        have g := ih (i + 1) _ _ _ _ _ _ h2
        rw [hn] at g
        exact mj_o_istore X hdec (of_decide_eq_true hcx) g
      case lstore_n k =>
        have h : mj_l1 st (fun z st => mj_x (fun y => (T y).2.2.2.2.2.2) C full Q (fun rest L st G M cb sb => ∀ i, rest = full.drop i → mj_J X (mj_pc full i) L st G M cb sb) 0 (full.drop (i + 1)) (mj_s2 L k.val (.inr (.inl z))) st G M cb sb) := h
        obtain ⟨z, st, rfl, h2⟩ := mj_l1_e h
        have hn := hnx.resolve_left Bool.false_ne_true
        have g := ih (i + 1) _ _ _ _ _ _ h2
        rw [hn] at g
        exact mj_o_lstore_n X hdec (of_decide_eq_true hcx) g
      case lstore k =>
        have h : mj_l1 st (fun z st => mj_x (fun y => (T y).2.2.2.2.2.2) C full Q (fun rest L st G M cb sb => ∀ i, rest = full.drop i → mj_J X (mj_pc full i) L st G M cb sb) 0 (full.drop (i + 1)) (mj_s2 L k (.inr (.inl z))) st G M cb sb) := h
        obtain ⟨z, st, rfl, h2⟩ := mj_l1_e h
        have hn := hnx.resolve_left Bool.false_ne_true
        have g := ih (i + 1) _ _ _ _ _ _ h2
        rw [hn] at g
        exact mj_o_lstore X hdec (of_decide_eq_true hcx) g
      case astore_n k =>
        have h : mj_r1 st (fun z st => mj_x (fun y => (T y).2.2.2.2.2.2) C full Q (fun rest L st G M cb sb => ∀ i, rest = full.drop i → mj_J X (mj_pc full i) L st G M cb sb) 0 (full.drop (i + 1)) (mj_s1 L k.val (.inr (.inr z))) st G M cb sb) := h
        obtain ⟨z, st, rfl, h2⟩ := mj_r1_e h
        have hn := hnx.resolve_left Bool.false_ne_true
        have g := ih (i + 1) _ _ _ _ _ _ h2
        rw [hn] at g
        exact mj_o_astore_n X hdec (of_decide_eq_true hcx) g
      case astore k =>
        have h : mj_r1 st (fun z st => mj_x (fun y => (T y).2.2.2.2.2.2) C full Q (fun rest L st G M cb sb => ∀ i, rest = full.drop i → mj_J X (mj_pc full i) L st G M cb sb) 0 (full.drop (i + 1)) (mj_s1 L k (.inr (.inr z))) st G M cb sb) := h
        obtain ⟨z, st, rfl, h2⟩ := mj_r1_e h
        have hn := hnx.resolve_left Bool.false_ne_true
        have g := ih (i + 1) _ _ _ _ _ _ h2
        rw [hn] at g
        exact mj_o_astore X hdec (of_decide_eq_true hcx) g
      case iinc k c =>
        have h : mj_ldi L k (fun v => mj_i1 [v] fun z _ => mj_in (z + c) ∧ mj_x (fun y => (T y).2.2.2.2.2.2) C full Q (fun rest L st G M cb sb => ∀ i, rest = full.drop i → mj_J X (mj_pc full i) L st G M cb sb) 0 (full.drop (i + 1)) (mj_s1 L k (.inl (z + c))) st G M cb sb) := h
        obtain ⟨z, h1, h2⟩ := mj_ldi_e h
        obtain ⟨h3, h4⟩ : mj_in (z + c) ∧ _ := h2
        have hn := hnx.resolve_left Bool.false_ne_true
        have g := ih (i + 1) _ _ _ _ _ _ h4
        rw [hn] at g
        exact mj_o_iinc X hdec h1 (of_decide_eq_true hcx) h3 g
      case iconst z =>
        have h : mj_x (fun y => (T y).2.2.2.2.2.2) C full Q (fun rest L st G M cb sb => ∀ i, rest = full.drop i → mj_J X (mj_pc full i) L st G M cb sb) 0 (full.drop (i + 1)) L (.inl z :: st) G M cb sb := h
        have hn := hnx.resolve_left Bool.false_ne_true
        have g := ih (i + 1) _ _ _ _ _ _ h
        rw [hn] at g
        exact mj_o_iconst X hdec (show -2147483648 ≤ z ∧ z < 2147483648 from of_decide_eq_true hcx) g
      case bipush z =>
        have h : mj_x (fun y => (T y).2.2.2.2.2.2) C full Q (fun rest L st G M cb sb => ∀ i, rest = full.drop i → mj_J X (mj_pc full i) L st G M cb sb) 0 (full.drop (i + 1)) L (.inl z :: st) G M cb sb := h
        have hn := hnx.resolve_left Bool.false_ne_true
        have g := ih (i + 1) _ _ _ _ _ _ h
        rw [hn] at g
        simp only [mj_cx, Bool.and_eq_true, decide_eq_true_eq] at hcx
        exact mj_o_bipush X hdec hcx.1 hcx.2 g
      case sipush z =>
        have h : mj_x (fun y => (T y).2.2.2.2.2.2) C full Q (fun rest L st G M cb sb => ∀ i, rest = full.drop i → mj_J X (mj_pc full i) L st G M cb sb) 0 (full.drop (i + 1)) L (.inl z :: st) G M cb sb := h
        have hn := hnx.resolve_left Bool.false_ne_true
        have g := ih (i + 1) _ _ _ _ _ _ h
        rw [hn] at g
        simp only [mj_cx, Bool.and_eq_true, decide_eq_true_eq] at hcx
        exact mj_o_sipush X hdec hcx.1 hcx.2 g
      case ldc k =>
        have h : mj_x (fun y => (T y).2.2.2.2.2.2) C full Q (fun rest L st G M cb sb => ∀ i, rest = full.drop i → mj_J X (mj_pc full i) L st G M cb sb) 0 (full.drop (i + 1)) L (.inl imm :: st) G M cb sb := h
        have hn := hnx.resolve_left Bool.false_ne_true
        have g := ih (i + 1) _ _ _ _ _ _ h
        rw [hn] at g
        simp only [mj_cx, Bool.and_eq_true, decide_eq_true_eq] at hcx
        exact mj_o_ldc X hdec hcx.1 (mj_win hcx.2) g
      case ldc2_w k =>
        have h : mj_x (fun y => (T y).2.2.2.2.2.2) C full Q (fun rest L st G M cb sb => ∀ i, rest = full.drop i → mj_J X (mj_pc full i) L st G M cb sb) 0 (full.drop (i + 1)) L (.inr (.inl (Int64.ofInt imm)) :: st) G M cb sb := h
        have hn := hnx.resolve_left Bool.false_ne_true
        have g := ih (i + 1) _ _ _ _ _ _ h
        rw [hn] at g
        exact mj_o_ldc2 X hdec (mj_win (of_decide_eq_true hcx)) g
      case lconst k =>
        have h : mj_x (fun y => (T y).2.2.2.2.2.2) C full Q (fun rest L st G M cb sb => ∀ i, rest = full.drop i → mj_J X (mj_pc full i) L st G M cb sb) 0 (full.drop (i + 1)) L (.inr (.inl (Int64.ofNat k.val)) :: st) G M cb sb := h
        have hn := hnx.resolve_left Bool.false_ne_true
        have g := ih (i + 1) _ _ _ _ _ _ h
        rw [hn] at g
        exact mj_o_lconst X hdec g
      case aconst_null =>
        have h : mj_x (fun y => (T y).2.2.2.2.2.2) C full Q (fun rest L st G M cb sb => ∀ i, rest = full.drop i → mj_J X (mj_pc full i) L st G M cb sb) 0 (full.drop (i + 1)) L (.inr (.inr none) :: st) G M cb sb := h
        have hn := hnx.resolve_left Bool.false_ne_true
        have g := ih (i + 1) _ _ _ _ _ _ h
        rw [hn] at g
        exact mj_o_null X hdec g
      case iadd =>
        have h : mj_bin (fun x y => x + y) st (fun x y => x + y) (fun st => mj_x (fun y => (T y).2.2.2.2.2.2) C full Q (fun rest L st G M cb sb => ∀ i, rest = full.drop i → mj_J X (mj_pc full i) L st G M cb sb) 0 (full.drop (i + 1)) L st G M cb sb) := h
        obtain ⟨y, st, rfl, u1⟩ := mj_i1_e h
        obtain ⟨x, st, rfl, u2⟩ := mj_i1_e u1
        have hn := hnx.resolve_left Bool.false_ne_true
        refine mj_o_iadd X hdec ?_
        rcases u2 with ⟨h1, h2⟩ | h2
        · have g := ih (i + 1) _ _ _ _ _ _ h2
          rw [hn] at g
          exact Or.inl ⟨h1, g⟩
        · refine Or.inr (fun z hz hz2 => ?_)
          have g := ih (i + 1) _ _ _ _ _ _ (h2 z hz hz2)
          rw [hn] at g
          exact g
      case isub =>
        have h : mj_bin (fun x y => x - y) st (fun x y => x - y) (fun st => mj_x (fun y => (T y).2.2.2.2.2.2) C full Q (fun rest L st G M cb sb => ∀ i, rest = full.drop i → mj_J X (mj_pc full i) L st G M cb sb) 0 (full.drop (i + 1)) L st G M cb sb) := h
        obtain ⟨y, st, rfl, u1⟩ := mj_i1_e h
        obtain ⟨x, st, rfl, u2⟩ := mj_i1_e u1
        have hn := hnx.resolve_left Bool.false_ne_true
        refine mj_o_isub X hdec ?_
        rcases u2 with ⟨h1, h2⟩ | h2
        · have g := ih (i + 1) _ _ _ _ _ _ h2
          rw [hn] at g
          exact Or.inl ⟨h1, g⟩
        · refine Or.inr (fun z hz hz2 => ?_)
          have g := ih (i + 1) _ _ _ _ _ _ (h2 z hz hz2)
          rw [hn] at g
          exact g
      case imul =>
        have h : mj_bin (fun x y => x * y) st (fun x y => x * y) (fun st => mj_x (fun y => (T y).2.2.2.2.2.2) C full Q (fun rest L st G M cb sb => ∀ i, rest = full.drop i → mj_J X (mj_pc full i) L st G M cb sb) 0 (full.drop (i + 1)) L st G M cb sb) := h
        obtain ⟨y, st, rfl, u1⟩ := mj_i1_e h
        obtain ⟨x, st, rfl, u2⟩ := mj_i1_e u1
        have hn := hnx.resolve_left Bool.false_ne_true
        refine mj_o_imul X hdec ?_
        rcases u2 with ⟨h1, h2⟩ | h2
        · have g := ih (i + 1) _ _ _ _ _ _ h2
          rw [hn] at g
          exact Or.inl ⟨h1, g⟩
        · refine Or.inr (fun z hz hz2 => ?_)
          have g := ih (i + 1) _ _ _ _ _ _ (h2 z hz hz2)
          rw [hn] at g
          exact g
      case iand =>
        have h : mj_op st (fun x y => x &&& y) (fun st => mj_x (fun y => (T y).2.2.2.2.2.2) C full Q (fun rest L st G M cb sb => ∀ i, rest = full.drop i → mj_J X (mj_pc full i) L st G M cb sb) 0 (full.drop (i + 1)) L st G M cb sb) := h
        obtain ⟨y, st, rfl, u1⟩ := mj_i1_e h
        obtain ⟨x, st, rfl, u2⟩ := mj_i1_e u1
        have hn := hnx.resolve_left Bool.false_ne_true
        refine mj_o_iand X hdec (fun z hz hz2 => ?_)
        have g := ih (i + 1) _ _ _ _ _ _ (u2 z hz hz2)
        rw [hn] at g
        exact g
      case ior =>
        have h : mj_op st (fun x y => x ||| y) (fun st => mj_x (fun y => (T y).2.2.2.2.2.2) C full Q (fun rest L st G M cb sb => ∀ i, rest = full.drop i → mj_J X (mj_pc full i) L st G M cb sb) 0 (full.drop (i + 1)) L st G M cb sb) := h
        obtain ⟨y, st, rfl, u1⟩ := mj_i1_e h
        obtain ⟨x, st, rfl, u2⟩ := mj_i1_e u1
        have hn := hnx.resolve_left Bool.false_ne_true
        refine mj_o_ior X hdec (fun z hz hz2 => ?_)
        have g := ih (i + 1) _ _ _ _ _ _ (u2 z hz hz2)
        rw [hn] at g
        exact g
      case ishl =>
        have h : mj_op st (fun x y => x <<< (y &&& 31)) (fun st => mj_x (fun y => (T y).2.2.2.2.2.2) C full Q (fun rest L st G M cb sb => ∀ i, rest = full.drop i → mj_J X (mj_pc full i) L st G M cb sb) 0 (full.drop (i + 1)) L st G M cb sb) := h
        obtain ⟨y, st, rfl, u1⟩ := mj_i1_e h
        obtain ⟨x, st, rfl, u2⟩ := mj_i1_e u1
        have hn := hnx.resolve_left Bool.false_ne_true
        refine mj_o_ishl X hdec (fun z hz hz2 => ?_)
        have g := ih (i + 1) _ _ _ _ _ _ (u2 z hz hz2)
        rw [hn] at g
        exact g
      case ishr =>
        have h : mj_op st (fun x y => x >>> (y &&& 31)) (fun st => mj_x (fun y => (T y).2.2.2.2.2.2) C full Q (fun rest L st G M cb sb => ∀ i, rest = full.drop i → mj_J X (mj_pc full i) L st G M cb sb) 0 (full.drop (i + 1)) L st G M cb sb) := h
        obtain ⟨y, st, rfl, u1⟩ := mj_i1_e h
        obtain ⟨x, st, rfl, u2⟩ := mj_i1_e u1
        have hn := hnx.resolve_left Bool.false_ne_true
        refine mj_o_ishr X hdec (fun z hz hz2 => ?_)
        have g := ih (i + 1) _ _ _ _ _ _ (u2 z hz hz2)
        rw [hn] at g
        exact g
      case iushr =>
        have h : mj_op st (fun x y => (x.toUInt32 >>> (y.toUInt32 &&& Int32.toUInt32 31)).toInt32) (fun st => mj_x (fun y => (T y).2.2.2.2.2.2) C full Q (fun rest L st G M cb sb => ∀ i, rest = full.drop i → mj_J X (mj_pc full i) L st G M cb sb) 0 (full.drop (i + 1)) L st G M cb sb) := h
        obtain ⟨y, st, rfl, u1⟩ := mj_i1_e h
        obtain ⟨x, st, rfl, u2⟩ := mj_i1_e u1
        have hn := hnx.resolve_left Bool.false_ne_true
        refine mj_o_iushr X hdec (fun z hz hz2 => ?_)
        have g := ih (i + 1) _ _ _ _ _ _ (u2 z hz hz2)
        rw [hn] at g
        exact g
      case ineg =>
        have h : mj_un st (fun x => -x) (fun st => mj_x (fun y => (T y).2.2.2.2.2.2) C full Q (fun rest L st G M cb sb => ∀ i, rest = full.drop i → mj_J X (mj_pc full i) L st G M cb sb) 0 (full.drop (i + 1)) L st G M cb sb) := h
        obtain ⟨x, st, rfl, u1⟩ := mj_i1_e h
        have hn := hnx.resolve_left Bool.false_ne_true
        refine mj_o_ineg X hdec (fun z hz hz2 => ?_)
        have g := ih (i + 1) _ _ _ _ _ _ (u1 z hz hz2)
        rw [hn] at g
        exact g
      case i2b =>
        have h : mj_un st (fun x => x.toInt8.toInt32) (fun st => mj_x (fun y => (T y).2.2.2.2.2.2) C full Q (fun rest L st G M cb sb => ∀ i, rest = full.drop i → mj_J X (mj_pc full i) L st G M cb sb) 0 (full.drop (i + 1)) L st G M cb sb) := h
        obtain ⟨x, st, rfl, u1⟩ := mj_i1_e h
        have hn := hnx.resolve_left Bool.false_ne_true
        refine mj_o_i2b X hdec (fun z hz hz2 => ?_)
        have g := ih (i + 1) _ _ _ _ _ _ (u1 z hz hz2)
        rw [hn] at g
        exact g
      case dup =>
        have h : mj_c1 st (fun v st => mj_x (fun y => (T y).2.2.2.2.2.2) C full Q (fun rest L st G M cb sb => ∀ i, rest = full.drop i → mj_J X (mj_pc full i) L st G M cb sb) 0 (full.drop (i + 1)) L (v :: v :: st) G M cb sb) := h
        obtain ⟨v, st, rfl, h1, h2⟩ := mj_c1_e h
        have hn := hnx.resolve_left Bool.false_ne_true
        have g := ih (i + 1) _ _ _ _ _ _ h2
        rw [hn] at g
        exact mj_o_dup X hdec h1 g
      case dup2 =>
        have h : mj_c1 st (fun v st => mj_c1 st fun w st => mj_x (fun y => (T y).2.2.2.2.2.2) C full Q (fun rest L st G M cb sb => ∀ i, rest = full.drop i → mj_J X (mj_pc full i) L st G M cb sb) 0 (full.drop (i + 1)) L (v :: w :: v :: w :: st) G M cb sb) := h
        obtain ⟨v, st, rfl, h1, u1⟩ := mj_c1_e h
        obtain ⟨w, st, rfl, h2, h3⟩ := mj_c1_e u1
        have hn := hnx.resolve_left Bool.false_ne_true
        have g := ih (i + 1) _ _ _ _ _ _ h3
        rw [hn] at g
        exact mj_o_dup2 X hdec h1 h2 g
      case pop =>
        have h : mj_c1 st (fun _ st => mj_x (fun y => (T y).2.2.2.2.2.2) C full Q (fun rest L st G M cb sb => ∀ i, rest = full.drop i → mj_J X (mj_pc full i) L st G M cb sb) 0 (full.drop (i + 1)) L st G M cb sb) := h
        obtain ⟨v, st, rfl, h1, h2⟩ := mj_c1_e h
        have hn := hnx.resolve_left Bool.false_ne_true
        have g := ih (i + 1) _ _ _ _ _ _ h2
        rw [hn] at g
        exact mj_o_pop X hdec h1 g
      case ifCond cd off =>
        have h : mj_i1 st (fun z st => mj_br (mj_cc cd z 0) (mj_x (fun y => (T y).2.2.2.2.2.2) C full Q (fun rest L st G M cb sb => ∀ i, rest = full.drop i → mj_J X (mj_pc full i) L st G M cb sb) 0 (full.drop (mj_hd aux)) L st G M cb sb) (mj_x (fun y => (T y).2.2.2.2.2.2) C full Q (fun rest L st G M cb sb => ∀ i, rest = full.drop i → mj_J X (mj_pc full i) L st G M cb sb) 0 (full.drop (i + 1)) L st G M cb sb)) := h
        obtain ⟨z, st, rfl, h1, h2⟩ := mj_i1_e h
        have hn := hnx.resolve_left Bool.false_ne_true
        have ht := of_decide_eq_true hcx
        have g1 := fun q => ih (mj_hd aux) _ _ _ _ _ _ (h1 q)
        have g2 := fun q => ih (i + 1) _ _ _ _ _ _ (h2 q)
        rw [hn] at g2
        cases cd
        · exact mj_o_if_eq X hdec ht g1 g2
        · exact mj_o_if_ne X hdec ht g1 g2
        · exact mj_o_if_lt X hdec ht g1 g2
        · exact mj_o_if_ge X hdec ht g1 g2
        · exact mj_o_if_gt X hdec ht g1 g2
        · exact mj_o_if_le X hdec ht g1 g2
      case if_icmp cd off =>
        have h : mj_i1 st (fun y st => mj_i1 st fun z st => mj_br (mj_cc cd z y) (mj_x (fun y => (T y).2.2.2.2.2.2) C full Q (fun rest L st G M cb sb => ∀ i, rest = full.drop i → mj_J X (mj_pc full i) L st G M cb sb) 0 (full.drop (mj_hd aux)) L st G M cb sb) (mj_x (fun y => (T y).2.2.2.2.2.2) C full Q (fun rest L st G M cb sb => ∀ i, rest = full.drop i → mj_J X (mj_pc full i) L st G M cb sb) 0 (full.drop (i + 1)) L st G M cb sb)) := h
        obtain ⟨y, st, rfl, u1⟩ := mj_i1_e h
        obtain ⟨z, st, rfl, h1, h2⟩ := mj_i1_e u1
        have hn := hnx.resolve_left Bool.false_ne_true
        have ht := of_decide_eq_true hcx
        have g1 := fun q => ih (mj_hd aux) _ _ _ _ _ _ (h1 q)
        have g2 := fun q => ih (i + 1) _ _ _ _ _ _ (h2 q)
        rw [hn] at g2
        cases cd
        · exact mj_o_icmp_eq X hdec ht g1 g2
        · exact mj_o_icmp_ne X hdec ht g1 g2
        · exact mj_o_icmp_lt X hdec ht g1 g2
        · exact mj_o_icmp_ge X hdec ht g1 g2
        · exact mj_o_icmp_gt X hdec ht g1 g2
        · exact mj_o_icmp_le X hdec ht g1 g2
      case ifnull off =>
        have h : mj_r1 st (fun z st => mj_br (z = none) (mj_x (fun y => (T y).2.2.2.2.2.2) C full Q (fun rest L st G M cb sb => ∀ i, rest = full.drop i → mj_J X (mj_pc full i) L st G M cb sb) 0 (full.drop (mj_hd aux)) L st G M cb sb) (mj_x (fun y => (T y).2.2.2.2.2.2) C full Q (fun rest L st G M cb sb => ∀ i, rest = full.drop i → mj_J X (mj_pc full i) L st G M cb sb) 0 (full.drop (i + 1)) L st G M cb sb)) := h
        obtain ⟨z, st, rfl, h1, h2⟩ := mj_r1_e h
        have hn := hnx.resolve_left Bool.false_ne_true
        have ht := of_decide_eq_true hcx
        have g1 := fun q => ih (mj_hd aux) _ _ _ _ _ _ (h1 q)
        have g2 := fun q => ih (i + 1) _ _ _ _ _ _ (h2 q)
        rw [hn] at g2
        exact mj_o_ifnull X hdec ht g1 g2
      case ifnonnull off =>
        have h : mj_r1 st (fun z st => mj_br (z ≠ none) (mj_x (fun y => (T y).2.2.2.2.2.2) C full Q (fun rest L st G M cb sb => ∀ i, rest = full.drop i → mj_J X (mj_pc full i) L st G M cb sb) 0 (full.drop (mj_hd aux)) L st G M cb sb) (mj_x (fun y => (T y).2.2.2.2.2.2) C full Q (fun rest L st G M cb sb => ∀ i, rest = full.drop i → mj_J X (mj_pc full i) L st G M cb sb) 0 (full.drop (i + 1)) L st G M cb sb)) := h
        obtain ⟨z, st, rfl, h1, h2⟩ := mj_r1_e h
        have hn := hnx.resolve_left Bool.false_ne_true
        have ht := of_decide_eq_true hcx
        have g1 := fun q => ih (mj_hd aux) _ _ _ _ _ _ (h1 q)
        have g2 := fun q => ih (i + 1) _ _ _ _ _ _ (h2 q)
        rw [hn] at g2
        exact mj_o_ifnonnull X hdec ht g1 g2
      case goto off =>
        have h : mj_x (fun y => (T y).2.2.2.2.2.2) C full Q (fun rest L st G M cb sb => ∀ i, rest = full.drop i → mj_J X (mj_pc full i) L st G M cb sb) 0 (full.drop (mj_hd aux)) L st G M cb sb := h
        exact mj_o_goto X hdec (of_decide_eq_true hcx) (ih (mj_hd aux) _ _ _ _ _ _ h)
      case getfield k =>
        have h0 : aux ≠ [] ∧ mj_br (mj_hd aux = 49) (mj_gw (mj_h1 aux) st G fun st => mj_x (fun y => (T y).2.2.2.2.2.2) C full Q (fun rest L st G M cb sb => ∀ i, rest = full.drop i → mj_J X (mj_pc full i) L st G M cb sb) 0 (full.drop (i + 1)) L st G M cb sb) (mj_get (mj_hd aux) (mj_h1 aux) st G M (fun st => mj_x (fun y => (T y).2.2.2.2.2.2) C full Q (fun rest L st G M cb sb => ∀ i, rest = full.drop i → mj_J X (mj_pc full i) L st G M cb sb) 0 (full.drop (i + 1)) L st G M cb sb)) := h
        by_cases hw49 : mj_hd aux = 49
        · have h := h0.2.1 hw49
          have hcx := mj_em h0.1 hcx
          rw [hw49] at hcx
          have hcx := mj_win (of_decide_eq_true hcx)
          have hn := hnx.resolve_left Bool.false_ne_true
          obtain ⟨a, st, rfl, t, nn, hG, ht, u1⟩ := mj_a1_e h
          cases hf : mj_h1 aux with
          | zero =>
            rw [hf] at u1 hcx
            have g := ih (i + 1) _ _ _ _ _ _ u1
            rw [hn] at g
            exact mj_o_getc X hdec hcx hG ht g
          | succ fk =>
            rw [hf] at u1 hcx
            have g := ih (i + 1) _ _ _ _ _ _ u1
            rw [hn] at g
            exact mj_o_getw X hdec hcx hG ht g
        have h := h0.2.2 hw49
        obtain ⟨a, st, rfl, t, nn, hG, ht, u1⟩ := mj_a1_e h
        have hn := hnx.resolve_left Bool.false_ne_true
        have hcx := mj_em h0.1 hcx
        have hb49 : Nat.beq (mj_hd aux) 49 = false := by cases hq : Nat.beq (mj_hd aux) 49 with
          | true => exact absurd (Nat.eq_of_beq_eq_true hq) hw49
          | false => rfl
        rw [hb49] at hcx
        simp only [cond_false, Bool.and_eq_true, decide_eq_true_eq] at hcx
        obtain ⟨⟨c1, c2⟩, c3⟩ := hcx
        have hr := mj_vw c1
        have hs : mj_so (mj_hd aux) (mj_h1 aux) = mj_fs (mj_ty (mj_hd aux) (mj_h1 aux)) := rfl
        rcases mj_fs_le (mj_ty (mj_hd aux) (mj_h1 aux)) with q | q | q
        · rw [hs, q] at u1
          have g := ih (i + 1) _ _ _ _ _ _ u1
          rw [hn] at g
          exact mj_o_get X (v := .inl (M.1 a (mj_h1 aux))) hdec hr c2 (mj_layA _ _ hr) (mj_win c3) hG ht (fun hM => ⟨by rw [hs, q]; rfl, hM _ _⟩) g
        · rw [hs, q] at u1
          have g := ih (i + 1) _ _ _ _ _ _ u1
          rw [hn] at g
          exact mj_o_get X (v := .inr (.inl (M.2.1 a (mj_h1 aux)))) hdec hr c2 (mj_layA _ _ hr) (mj_win c3) hG ht (fun hM => ⟨by rw [hs, q]; rfl, trivial⟩) g
        · rw [hs, q] at u1
          obtain ⟨h1, h2⟩ := u1
          cases hm : M.2.2 a (mj_h1 aux) with
          | none =>
            have g := ih (i + 1) _ _ _ _ _ _ (h2 hm)
            rw [hn] at g
            exact mj_o_get X (v := .inr (.inr none)) hdec hr c2 (mj_layA _ _ hr) (mj_win c3) hG ht (fun hM => ⟨by rw [hs, q]; show _ = va_rf (M.2.2 a (mj_h1 aux)); rw [hm]; rfl, trivial⟩) g
          | some b =>
            have g := ih (i + 1) _ _ _ _ _ _ (h1 b hm)
            rw [hn] at g
            exact mj_o_get X (v := .inr (.inr (some b))) hdec hr c2 (mj_layA _ _ hr) (mj_win c3) hG ht (fun hM => ⟨by rw [hs, q]; show _ = va_rf (M.2.2 a (mj_h1 aux)); rw [hm]; rfl, trivial⟩) g
      case putfield k =>
        have h0 : aux ≠ [] ∧ mj_put (mj_hd aux) (mj_h1 aux) st G M (fun st M => mj_x (fun y => (T y).2.2.2.2.2.2) C full Q (fun rest L st G M cb sb => ∀ i, rest = full.drop i → mj_J X (mj_pc full i) L st G M cb sb) 0 (full.drop (i + 1)) L st G M cb sb) := h
        have h := h0.2
        have hcx := mj_em h0.1 hcx
        have hn := hnx.resolve_left Bool.false_ne_true
        simp only [Bool.and_eq_true, Bool.or_eq_true, Bool.not_eq_true', decide_eq_true_eq] at hcx
        obtain ⟨⟨⟨c1, c2⟩, c3⟩, c4⟩ := hcx
        have hr := mj_vw c1
        have hs : mj_so (mj_hd aux) (mj_h1 aux) = mj_fs (mj_ty (mj_hd aux) (mj_h1 aux)) := rfl
        have htc := mj_tcA _ _ hr _ c2
        have c5 := c4.imp id (fun q => (⟨hini q.1, q.2⟩ : meth.name = "<init>" ∧ _))
        unfold mj_put at h
        rcases mj_fs_le (mj_ty (mj_hd aux) (mj_h1 aux)) with q | q | q
        · rw [hs, q] at h
          obtain ⟨z, st, rfl, u1⟩ := mj_i1_e h
          obtain ⟨a, st, rfl, t, nn, hG, ht, h9, hb, u2⟩ := mj_a1_e u1
          have g := ih (i + 1) _ _ _ _ _ _ u2
          rw [hn] at g
          obtain ⟨n1, n2⟩ := mj_nar0 htc q hb
          exact mj_o_put X hdec hr c2 (mj_layA _ _ hr) (mj_win c3) (mj_tyA _ _ hr) (mj_nmA _ _ hr) c5 hG ht h9 n1 n2 (fun hM hz => by rw [hs, q]; exact mj_u0 hM hz) g
        · rw [hs, q] at h
          obtain ⟨z, st, rfl, u3⟩ := mj_l1_e h
          obtain ⟨a, st, rfl, t, nn, hG, ht, h9, u4⟩ := mj_a1_e u3
          have g := ih (i + 1) _ _ _ _ _ _ u4
          rw [hn] at g
          obtain ⟨n1, n2⟩ := mj_nar1 htc q (z := z)
          exact mj_o_put X hdec hr c2 (mj_layA _ _ hr) (mj_win c3) (mj_tyA _ _ hr) (mj_nmA _ _ hr) c5 hG ht h9 n1 n2 (fun hM hz => by rw [hs, q]; exact mj_u1 hM) g
        · rw [hs, q] at h
          obtain ⟨z, st, rfl, u5⟩ := mj_r1_e h
          obtain ⟨a, st, rfl, t, nn, hG, ht, h9, u6⟩ := mj_a1_e u5
          have g := ih (i + 1) _ _ _ _ _ _ u6
          rw [hn] at g
          obtain ⟨n1, n2⟩ := mj_nar2 htc (by rw [q]; decide) (by rw [q]; decide) (z := z)
          exact mj_o_put X hdec hr c2 (mj_layA _ _ hr) (mj_win c3) (mj_tyA _ _ hr) (mj_nmA _ _ hr) c5 hG ht h9 n1 n2 (fun hM hz => by rw [hs, q]; exact mj_u2 hM) g
      case iaload =>
        have h : mj_ald 0 st G (fun a i2 st => mj_x (fun y => (T y).2.2.2.2.2.2) C full Q (fun rest L st G M cb sb => ∀ i, rest = full.drop i → mj_J X (mj_pc full i) L st G M cb sb) 0 (full.drop (i + 1)) L (.inl (M.1 a i2) :: st) G M cb sb) := h
        obtain ⟨k, a, st, t, nn, rfl, hG, ht, h0, h1, u1⟩ := mj_ald_e h
        have hn := hnx.resolve_left Bool.false_ne_true
        have g := ih (i + 1) _ _ _ _ _ _ u1
        rw [hn] at g
        exact mj_o_iaload X hdec hG ht h0 h1 g
      case laload =>
        have h : mj_ald 3 st G (fun a i2 st => mj_x (fun y => (T y).2.2.2.2.2.2) C full Q (fun rest L st G M cb sb => ∀ i, rest = full.drop i → mj_J X (mj_pc full i) L st G M cb sb) 0 (full.drop (i + 1)) L (.inr (.inl (M.2.1 a i2)) :: st) G M cb sb) := h
        obtain ⟨k, a, st, t, nn, rfl, hG, ht, h0, h1, u1⟩ := mj_ald_e h
        have hn := hnx.resolve_left Bool.false_ne_true
        have g := ih (i + 1) _ _ _ _ _ _ u1
        rw [hn] at g
        exact mj_o_laload X hdec hG ht h0 h1 g
      case baload =>
        have h : mj_bald st G (fun a i2 st => mj_x (fun y => (T y).2.2.2.2.2.2) C full Q (fun rest L st G M cb sb => ∀ i, rest = full.drop i → mj_J X (mj_pc full i) L st G M cb sb) 0 (full.drop (i + 1)) L (.inl (M.1 a i2) :: st) G M cb sb) := h
        have hn := hnx.resolve_left Bool.false_ne_true
        rcases h with h | h
        · obtain ⟨k, a, st, t, nn, rfl, hG, ht, h0, h1, u1⟩ := mj_ald_e h
          have g := ih (i + 1) _ _ _ _ _ _ u1
          rw [hn] at g
          exact mj_o_baload X hdec hG ht h0 h1 g
        · obtain ⟨k, a, st, t, nn, rfl, hG, ht, h0, h1, u2⟩ := mj_ald_e h
          have g := ih (i + 1) _ _ _ _ _ _ u2
          rw [hn] at g
          exact mj_o_zaload X hdec hG ht h0 h1 g
      case aaload =>
        have h : mj_ald (mj_hd aux) st G (fun a i2 st => mj_rf (M.2.2 a i2) fun v => mj_x (fun y => (T y).2.2.2.2.2.2) C full Q (fun rest L st G M cb sb => ∀ i, rest = full.drop i → mj_J X (mj_pc full i) L st G M cb sb) 0 (full.drop (i + 1)) L (v :: st) G M cb sb) := h
        obtain ⟨k, a, st, t, nn, rfl, hG, ht, h0, h1, u1⟩ := mj_ald_e h
        have hn := hnx.resolve_left Bool.false_ne_true
        simp only [mj_cx, Bool.and_eq_true, decide_eq_true_eq] at hcx
        refine mj_o_aaload X hdec hG ht hcx.1.1 hcx.1.2 hcx.2 h0 h1 ⟨fun b hb => ?_, fun hb => ?_⟩
        · have g := ih (i + 1) _ _ _ _ _ _ (u1.1 b hb)
          rw [hn] at g
          exact g
        · have g := ih (i + 1) _ _ _ _ _ _ (u1.2 hb)
          rw [hn] at g
          exact g
      case iastore =>
        have h : mj_i1 st (fun z st => mj_aldw 0 st G fun a i2 st => mj_x (fun y => (T y).2.2.2.2.2.2) C full Q (fun rest L st G M cb sb => ∀ i, rest = full.drop i → mj_J X (mj_pc full i) L st G M cb sb) 0 (full.drop (i + 1)) L st G (mj_p0 M a i2 z) cb sb) := h
        obtain ⟨z, st, rfl, u1⟩ := mj_i1_e h
        obtain ⟨k, a, st, t, nn, rfl, hG, ht, h9, h0, h1, u2⟩ := mj_aldw_e u1
        have hn := hnx.resolve_left Bool.false_ne_true
        have g := ih (i + 1) _ _ _ _ _ _ u2
        rw [hn] at g
        exact mj_o_iastore X hdec hG ht h9 h0 h1 g
      case lastore =>
        have h : mj_l1 st (fun z st => mj_aldw 3 st G fun a i2 st => mj_x (fun y => (T y).2.2.2.2.2.2) C full Q (fun rest L st G M cb sb => ∀ i, rest = full.drop i → mj_J X (mj_pc full i) L st G M cb sb) 0 (full.drop (i + 1)) L st G (mj_p1 M a i2 z) cb sb) := h
        obtain ⟨z, st, rfl, u1⟩ := mj_l1_e h
        obtain ⟨k, a, st, t, nn, rfl, hG, ht, h9, h0, h1, u2⟩ := mj_aldw_e u1
        have hn := hnx.resolve_left Bool.false_ne_true
        have g := ih (i + 1) _ _ _ _ _ _ u2
        rw [hn] at g
        exact mj_o_lastore X hdec hG ht h9 h0 h1 g
      case bastore =>
        have h : mj_i1 st (fun z st => (mj_aldw 1 st G fun a i2 st => mj_x (fun y => (T y).2.2.2.2.2.2) C full Q (fun rest L st G M cb sb => ∀ i, rest = full.drop i → mj_J X (mj_pc full i) L st G M cb sb) 0 (full.drop (i + 1)) L st G (mj_p0 M a i2 (mj_nb z)) cb sb) ∨ ((z = 0 ∨ z = 1) ∧ mj_aldw 2 st G fun a i2 st => mj_x (fun y => (T y).2.2.2.2.2.2) C full Q (fun rest L st G M cb sb => ∀ i, rest = full.drop i → mj_J X (mj_pc full i) L st G M cb sb) 0 (full.drop (i + 1)) L st G (mj_p0 M a i2 z) cb sb)) := h
        obtain ⟨z, st, rfl, u1⟩ := mj_i1_e h
        have hn := hnx.resolve_left Bool.false_ne_true
        rcases u1 with h | ⟨hz, h⟩
        · obtain ⟨k, a, st, t, nn, rfl, hG, ht, h9, h0, h1, u2⟩ := mj_aldw_e h
          have g := ih (i + 1) _ _ _ _ _ _ u2
          rw [hn] at g
          exact mj_o_bastore X hdec hG ht h9 h0 h1 g
        · obtain ⟨k, a, st, t, nn, rfl, hG, ht, h9, h0, h1, u3⟩ := mj_aldw_e h
          have g := ih (i + 1) _ _ _ _ _ _ u3
          rw [hn] at g
          exact mj_o_zastore X hdec hG ht hz h9 h0 h1 g
      case arraylength =>
        have h : mj_a1 st (fun a st => ∃ t k j, G a = (t, k) ∧ t % 1000 = 100 + j ∧ j < 7 ∧ mj_in k ∧ mj_x (fun y => (T y).2.2.2.2.2.2) C full Q (fun rest L st G M cb sb => ∀ i, rest = full.drop i → mj_J X (mj_pc full i) L st G M cb sb) 0 (full.drop (i + 1)) L (.inl (k : Int) :: st) G M cb sb) := h
        obtain ⟨a, st, rfl, t, k, j, hG, ht, hj, hk, u1⟩ := mj_a1_e h
        have hn := hnx.resolve_left Bool.false_ne_true
        have g := ih (i + 1) _ _ _ _ _ _ u1
        rw [hn] at g
        exact mj_o_alen X hdec hG ht hj hk g
      case newarray aty =>
        have h : mj_i1 st (fun z st => 0 ≤ z ∧ z ≤ 100000 ∧ 1 ≤ cb ∧ z.toNat ≤ sb ∧ ∃ t, t % 1000 = 100 + mj_hd aux ∧ mj_new G M t z.toNat fun a G M => mj_x (fun y => (T y).2.2.2.2.2.2) C full Q (fun rest L st G M cb sb => ∀ i, rest = full.drop i → mj_J X (mj_pc full i) L st G M cb sb) 0 (full.drop (i + 1)) L (.inr (.inr (some a)) :: st) G M (cb - 1) (sb - z.toNat)) := h
        obtain ⟨z, st, rfl, h0, h9, h1, h2, t, ht, u1⟩ := mj_i1_e h
        have hn := hnx.resolve_left Bool.false_ne_true
        simp only [mj_cx, Bool.and_eq_true, decide_eq_true_eq] at hcx
        refine mj_o_newarray X hdec hcx.1.1 hcx.1.2 (mj_win hcx.2) ht h0 h9 h1 h2 (fun a ha => ?_)
        have g := ih (i + 1) _ _ _ _ _ _ (u1 a ha)
        rw [hn] at g
        exact g
      case multianewarray k dm =>
        have h : mj_i1 st (fun z st => mj_i1 st fun y st => 0 ≤ z ∧ z ≤ 1000 ∧ 0 ≤ y ∧ y ≤ 1000 ∧ 1 + y.toNat ≤ cb ∧ y.toNat + y.toNat * z.toNat ≤ sb ∧ ∃ t t2, t % 1000 = 104 ∧ t2 % 1000 = 100 ∧ ∀ a, (∀ x, a ≤ x → G x = (0, 0)) → mj_x (fun y => (T y).2.2.2.2.2.2) C full Q (fun rest L st G M cb sb => ∀ i, rest = full.drop i → mj_J X (mj_pc full i) L st G M cb sb) 0 (full.drop (i + 1)) L (.inr (.inr (some a)) :: st) (mj_gg G a t y.toNat t2 z.toNat) (mj_zz M a y.toNat) (cb - (1 + y.toNat)) (sb - (y.toNat + y.toNat * z.toNat))) := h
        obtain ⟨z, st, rfl, u1⟩ := mj_i1_e h
        obtain ⟨y, st, rfl, h0, h9, y0, y9, h1, h2, t, t2, ht, ht2, u2⟩ := mj_i1_e u1
        have hn := hnx.resolve_left Bool.false_ne_true
        simp only [mj_cx, Bool.and_eq_true, decide_eq_true_eq] at hcx
        obtain ⟨rfl, hcl⟩ := hcx
        refine mj_o_mna X hdec (mj_win hcl) hw3 ht ht2 h0 h9 y0 y9 h1 h2 (fun a ha => ?_)
        have g := ih (i + 1) _ _ _ _ _ _ (u2 a ha)
        rw [hn] at g
        exact g
      case new k =>
        have h0 : aux ≠ [] ∧ 1 ≤ cb ∧ mj_h1 aux ≤ sb ∧ ∃ t, t % 1000 = mj_hd aux + 1 ∧ mj_new G M t 0 fun a G M => mj_x (fun y => (T y).2.2.2.2.2.2) C full Q (fun rest L st G M cb sb => ∀ i, rest = full.drop i → mj_J X (mj_pc full i) L st G M cb sb) 0 (full.drop (i + 1)) L (.inr (.inr (some a)) :: st) G M (cb - 1) (sb - mj_h1 aux) := h
        obtain ⟨h1, h2, t, ht, u1⟩ := h0.2
        have hcx := mj_em h0.1 hcx
        have hn := hnx.resolve_left Bool.false_ne_true
        simp only [Bool.and_eq_true, decide_eq_true_eq] at hcx
        obtain ⟨⟨⟨c1, c2⟩, c3⟩, c4⟩ := hcx
        rw [mj_cls_lt c1] at c2 c3 c4
        have hr := mj_vw c1
        refine mj_o_new X hdec hr (mj_layA _ _ hr) (mj_tyA _ _ hr) (fun k hk => mj_tc_nf (mj_tcA _ _ hr k hk)) (mj_win c2) (mj_win c3) (mj_win c4) ht h1 h2 (fun a ha => ?_)
        have g := ih (i + 1) _ _ _ _ _ _ (u1 a ha)
        rw [hn] at g
        exact g
      case invokevirtual k =>
        have h0 : aux ≠ [] ∧ mj_pop (mj_h1 aux) [] st (fun As st => mj_a1 st fun a st => mj_is G a (mj_h2 aux + 1) fun _ _ => mj_cat st ≤ 8 ∧ (T (mj_hd aux)).2.2.2.2.2.2.1 ≤ cb ∧ (T (mj_hd aux)).2.2.2.2.2.2.2 ≤ sb ∧ C (mj_hd aux) (.inr (.inr (some a)) :: As) G M fun r G M => mj_x (fun y => (T y).2.2.2.2.2.2) C full Q (fun rest L st G M cb sb => ∀ i, rest = full.drop i → mj_J X (mj_pc full i) L st G M cb sb) 0 (full.drop (i + 1)) L (mj_ret r st) G M (cb - (T (mj_hd aux)).2.2.2.2.2.2.1) (sb - (T (mj_hd aux)).2.2.2.2.2.2.2)) := h
        have h := h0.2
        have hcx := mj_em h0.1 hcx
        obtain ⟨As, st, rfl, hAs, u1⟩ := mj_pop_e _ _ _ _ h
        rw [List.append_nil] at u1
        obtain ⟨a, st, rfl, t, nn, hG, ht, h8, h1, h2, u2⟩ := mj_a1_e u1
        have hn := hnx.resolve_left Bool.false_ne_true
        simp only [Bool.and_eq_true, decide_eq_true_eq] at hcx
        obtain ⟨⟨c1, c2⟩, c3⟩ := hcx
        have hm := hT (mj_hd aux)
        unfold mj_cm at hm
        rw [c1] at hm
        simp only [Bool.and_eq_true, decide_eq_true_eq] at hm
        obtain ⟨⟨⟨⟨⟨⟨⟨m1, m2⟩, m3⟩, m4⟩, m5⟩, m6⟩, m7⟩, ⟨m8, m9⟩, m10⟩ := hm
        rcases c2 with c2 | c2
        rotate_left
        · rw [c2] at m8 ht
          have m8 : (T (mj_hd aux)).1.cls = RX9 := m8
          refine mj_o_callW (d := d) X hdec (hC _ _ _ _ _ u2) ⟨hR.1, by have := hR.2; omega⟩ m8 ⟨m3, m4, m5⟩ hAs (mj_win c3) m9 (by rw [← m8]; exact m10) (by rw [← m8]; exact m2) m1 hG ht h8 h1 h2 (fun r G M hq => ?_)
          have g := ih (i + 1) _ _ _ _ _ _ hq
          rw [hn] at g
          exact g
        have hr := mj_vw c2
        have hb49 : Nat.beq (mj_h2 aux) 49 = false := by cases hq : Nat.beq (mj_h2 aux) 49 with
          | true => exact absurd (Nat.eq_of_beq_eq_true hq) (by omega)
          | false => rfl
        unfold mj_cls at m8
        rw [hb49] at m8
        have hcl : (T (mj_hd aux)).1.cls = (vwCl.getD (mj_h2 aux) (RX0, TX0, 0)).1 := m8
        refine mj_o_callV (d := d) X hdec (hC _ _ _ _ _ u2) ⟨hR.1, by have := hR.2; omega⟩ hr hcl ⟨m3, m4, m5⟩ hAs (mj_win c3) m9 (by rw [← hcl]; exact m10) (by rw [← hcl]; exact m2) m1 hG ht h8 h1 h2 (fun r G M hq => ?_)
        have g := ih (i + 1) _ _ _ _ _ _ hq
        rw [hn] at g
        exact g
      case invokestatic k =>
        cases aux with
        | nil => exact absurd rfl (show ([] : List Nat) ≠ [] from (show ([] : List Nat) ≠ [] ∧ _ from h).1)
        | cons y0 aux =>
          cases aux with
          | nil =>
            have h0 : [y0] ≠ [] ∧ mj_pop (mj_h1 [y0]) [] st (fun As st => mj_cat st ≤ 8 ∧ (T (mj_hd [y0])).2.2.2.2.2.2.1 ≤ cb ∧ (T (mj_hd [y0])).2.2.2.2.2.2.2 ≤ sb ∧ C (mj_hd [y0]) As G M fun r G M => mj_x (fun y => (T y).2.2.2.2.2.2) C full Q (fun rest L st G M cb sb => ∀ i, rest = full.drop i → mj_J X (mj_pc full i) L st G M cb sb) 0 (full.drop (i + 1)) L (mj_ret r st) G M (cb - (T (mj_hd [y0])).2.2.2.2.2.2.1) (sb - (T (mj_hd [y0])).2.2.2.2.2.2.2)) := h
            have h := h0.2
            obtain ⟨As, st, rfl, hAs, u1⟩ := mj_pop_e _ _ _ _ h
            rw [List.append_nil] at u1
            obtain ⟨h8, h1, h2, u2⟩ := u1
            have hn := hnx.resolve_left Bool.false_ne_true
            simp only [mj_cx, Bool.and_eq_true, decide_eq_true_eq] at hcx
            obtain ⟨⟨c1, c2⟩, c3⟩ := hcx
            have hm := hT (mj_hd [y0])
            unfold mj_cm at hm
            rw [c1, c2] at hm
            simp only [Bool.and_eq_true, decide_eq_true_eq] at hm
            obtain ⟨⟨⟨⟨⟨⟨⟨m1, m2⟩, m3⟩, m4⟩, m5⟩, m6⟩, m7⟩, m8⟩ := hm
            refine mj_o_callS (d := d) X hdec (hC _ _ _ _ _ u2) ⟨hR.1, by have := hR.2; omega⟩ ⟨m3, m4, m5⟩ hAs (mj_win c3) m8 m2 m1 h8 h1 h2 (fun r G M hq => ?_)
            have g := ih (i + 1) _ _ _ _ _ _ hq
            rw [hn] at g
            exact g
          | cons y1 aux =>
            cases aux with
            | cons y2 aux =>
              have h0 : (y0 :: y1 :: y2 :: aux) ≠ [] ∧ mj_pop (mj_h1 (y0 :: y1 :: y2 :: aux)) [] st (fun As st => mj_cat st ≤ 8 ∧ (T (mj_hd (y0 :: y1 :: y2 :: aux))).2.2.2.2.2.2.1 ≤ cb ∧ (T (mj_hd (y0 :: y1 :: y2 :: aux))).2.2.2.2.2.2.2 ≤ sb ∧ C (mj_hd (y0 :: y1 :: y2 :: aux)) As G M fun r G M => mj_x (fun y => (T y).2.2.2.2.2.2) C full Q (fun rest L st G M cb sb => ∀ i, rest = full.drop i → mj_J X (mj_pc full i) L st G M cb sb) 0 (full.drop (i + 1)) L (mj_ret r st) G M (cb - (T (mj_hd (y0 :: y1 :: y2 :: aux))).2.2.2.2.2.2.1) (sb - (T (mj_hd (y0 :: y1 :: y2 :: aux))).2.2.2.2.2.2.2)) := h
              have h := h0.2
              obtain ⟨As, st, rfl, hAs, u1⟩ := mj_pop_e _ _ _ _ h
              rw [List.append_nil] at u1
              obtain ⟨h8, h1, h2, u2⟩ := u1
              have hn := hnx.resolve_left Bool.false_ne_true
              simp only [mj_cx, Bool.and_eq_true, decide_eq_true_eq] at hcx
              obtain ⟨⟨c1, c2⟩, c3⟩ := hcx
              have hm := hT (mj_hd (y0 :: y1 :: y2 :: aux))
              unfold mj_cm at hm
              rw [c1, c2] at hm
              simp only [Bool.and_eq_true, decide_eq_true_eq] at hm
              obtain ⟨⟨⟨⟨⟨⟨⟨m1, m2⟩, m3⟩, m4⟩, m5⟩, m6⟩, m7⟩, m8⟩ := hm
              refine mj_o_callS (d := d) X hdec (hC _ _ _ _ _ u2) ⟨hR.1, by have := hR.2; omega⟩ ⟨m3, m4, m5⟩ hAs (mj_win c3) m8 m2 m1 h8 h1 h2 (fun r G M hq => ?_)
              have g := ih (i + 1) _ _ _ _ _ _ hq
              rw [hn] at g
              exact g
            | nil =>
            have hn := hnx.resolve_left Bool.false_ne_true
            match y0, h, hcx with
            | 0, h, hcx =>
              have h : mj_i1 st fun y st => mj_i1 st fun x st => mj_cat st ≤ 8 ∧ ∀ z, (x < y → z = y) → (¬ x < y → z = x) → mj_x (fun y => (T y).2.2.2.2.2.2) C full Q (fun rest L st G M cb sb => ∀ i, rest = full.drop i → mj_J X (mj_pc full i) L st G M cb sb) 0 (full.drop (i + 1)) L (.inl z :: st) G M cb sb := h
              obtain ⟨y, st, rfl, u1⟩ := mj_i1_e h
              obtain ⟨x, st, rfl, h8, u2⟩ := mj_i1_e u1
              refine mj_o_max X hdec (mj_win (of_decide_eq_true hcx)) hlw.1.1 hlw.2.2.2.1 hlw.1.2 h8 (fun z z1 z2 => ?_)
              have g := ih (i + 1) _ _ _ _ _ _ (u2 z z1 z2)
              rw [hn] at g
              exact g
            | 1, h, hcx =>
              have h : mj_i1 st fun y st => mj_i1 st fun x st => mj_cat st ≤ 8 ∧ ∀ z, (y < x → z = y) → (¬ y < x → z = x) → mj_x (fun y => (T y).2.2.2.2.2.2) C full Q (fun rest L st G M cb sb => ∀ i, rest = full.drop i → mj_J X (mj_pc full i) L st G M cb sb) 0 (full.drop (i + 1)) L (.inl z :: st) G M cb sb := h
              obtain ⟨y, st, rfl, u1⟩ := mj_i1_e h
              obtain ⟨x, st, rfl, h8, u2⟩ := mj_i1_e u1
              refine mj_o_min X hdec (mj_win (of_decide_eq_true hcx)) hlw.2.1.1 hlw.2.2.2.1 hlw.2.1.2 h8 (fun z z1 z2 => ?_)
              have g := ih (i + 1) _ _ _ _ _ _ (u2 z z1 z2)
              rw [hn] at g
              exact g
            | 2, h, hcx =>
              have h : mj_i1 st fun x st => mj_cat st ≤ 8 ∧ ∀ z, mj_in z → (0 ≤ x → z = x) → (x < 0 → x ≠ -2147483648 → z = -x) → mj_x (fun y => (T y).2.2.2.2.2.2) C full Q (fun rest L st G M cb sb => ∀ i, rest = full.drop i → mj_J X (mj_pc full i) L st G M cb sb) 0 (full.drop (i + 1)) L (.inl z :: st) G M cb sb := h
              obtain ⟨x, st, rfl, h8, u2⟩ := mj_i1_e h
              refine mj_o_abs X hdec (mj_win (of_decide_eq_true hcx)) hlw.2.2.1.1 hlw.2.2.2.1 hlw.2.2.1.2 h8 (fun z z0 z1 z2 => ?_)
              have g := ih (i + 1) _ _ _ _ _ _ (u2 z z0 z1 z2)
              rw [hn] at g
              exact g
            | 3, h, hcx =>
              have h : mj_cpy 0 st G (fun a b sp dp n2 st => mj_x (fun y => (T y).2.2.2.2.2.2) C full Q (fun rest L st G M cb sb => ∀ i, rest = full.drop i → mj_J X (mj_pc full i) L st G M cb sb) 0 (full.drop (i + 1)) L st G (mj_cp0 M a b sp dp n2) cb sb) := h
              obtain ⟨nn, st, rfl, u1⟩ := mj_i1_e h
              obtain ⟨dp, st, rfl, u2⟩ := mj_i1_e u1
              obtain ⟨b, st, rfl, u3⟩ := mj_a1_e u2
              obtain ⟨sp, st, rfl, u4⟩ := mj_i1_e u3
              obtain ⟨a, st, rfl, ta, na, hGa, hta, tb, nb, hGb, htb, h9, h1, h2, h3, h4, h5, h8, u5⟩ := mj_a1_e u4
              have g := ih (i + 1) _ _ _ _ _ _ u5
              rw [hn] at g
              exact mj_o_copy0 X hdec (mj_win (of_decide_eq_true hcx)) hlw.2.2.2.2.1 hlw.2.2.2.2.2.1 hlw.2.2.2.2.2.2 h8 hGa hta hGb htb h9 h1 h2 h3 h4 h5 g
            | 4, h, hcx =>
              have h : mj_cpy 3 st G (fun a b sp dp n2 st => mj_x (fun y => (T y).2.2.2.2.2.2) C full Q (fun rest L st G M cb sb => ∀ i, rest = full.drop i → mj_J X (mj_pc full i) L st G M cb sb) 0 (full.drop (i + 1)) L st G (mj_cp1 M a b sp dp n2) cb sb) := h
              obtain ⟨nn, st, rfl, u1⟩ := mj_i1_e h
              obtain ⟨dp, st, rfl, u2⟩ := mj_i1_e u1
              obtain ⟨b, st, rfl, u3⟩ := mj_a1_e u2
              obtain ⟨sp, st, rfl, u4⟩ := mj_i1_e u3
              obtain ⟨a, st, rfl, ta, na, hGa, hta, tb, nb, hGb, htb, h9, h1, h2, h3, h4, h5, h8, u5⟩ := mj_a1_e u4
              have g := ih (i + 1) _ _ _ _ _ _ u5
              rw [hn] at g
              exact mj_o_copy1 X hdec (mj_win (of_decide_eq_true hcx)) hlw.2.2.2.2.1 hlw.2.2.2.2.2.1 hlw.2.2.2.2.2.2 h8 hGa hta hGb htb h9 h1 h2 h3 h4 h5 g
            | f + 5, h, hcx => exact False.elim h
      case anewarray k =>
        have h : mj_i1 st (fun z st => 0 ≤ z ∧ z ≤ 100000 ∧ 1 ≤ cb ∧ z.toNat ≤ sb ∧ ∃ t, t % 1000 = 100 + mj_hd aux ∧ mj_new G M t z.toNat fun a G M => mj_x (fun y => (T y).2.2.2.2.2.2) C full Q (fun rest L st G M cb sb => ∀ i, rest = full.drop i → mj_J X (mj_pc full i) L st G M cb sb) 0 (full.drop (i + 1)) L (.inr (.inr (some a)) :: st) G M (cb - 1) (sb - z.toNat)) := h
        obtain ⟨z, st, rfl, h0, h9, h1, h2, t, ht, u1⟩ := mj_i1_e h
        have hn := hnx.resolve_left Bool.false_ne_true
        simp only [mj_cx, Bool.and_eq_true, decide_eq_true_eq] at hcx
        refine mj_o_anew X hdec hcx.1 (mj_win hcx.2) ht h0 h9 h1 h2 (fun a ha => ?_)
        have g := ih (i + 1) _ _ _ _ _ _ (u1 a ha)
        rw [hn] at g
        exact g
      case aastore =>
        have h : mj_r1 st (fun z st => mj_aldw (mj_hd aux) st G fun a i2 st => (∀ b, z = some b → (mj_hd aux = 6 ∧ mj_is G b 7 fun _ _ => True) ∨ (mj_hd aux = 5 ∧ mj_is G b 50 fun _ _ => True)) ∧ mj_x (fun y => (T y).2.2.2.2.2.2) C full Q (fun rest L st G M cb sb => ∀ i, rest = full.drop i → mj_J X (mj_pc full i) L st G M cb sb) 0 (full.drop (i + 1)) L st G (mj_p2 M a i2 z) cb sb) := h
        obtain ⟨z, st, rfl, u1⟩ := mj_r1_e h
        obtain ⟨k, a, st, t, nn, rfl, hG, ht, h9, h0, h1, hb, u2⟩ := mj_aldw_e u1
        have hn := hnx.resolve_left Bool.false_ne_true
        have g := ih (i + 1) _ _ _ _ _ _ u2
        rw [hn] at g
        exact mj_o_aastore X hdec (of_decide_eq_true hcx) hG ht h9 h0 h1 (fun b q => (hb b q).imp (fun v => ⟨v.1, by obtain ⟨t', n', w1, w2, -⟩ := v.2; exact ⟨t', n', w1, w2⟩⟩) (fun v => ⟨v.1, by obtain ⟨t', n', w1, w2, -⟩ := v.2; exact ⟨t', n', w1, w2⟩⟩)) g
      case tableswitch df lo hi offs =>
        have h : mj_i1 st (fun z st => (z < lo ∨ hi < z → mj_x (fun y => (T y).2.2.2.2.2.2) C full Q (fun rest L st G M cb sb => ∀ i, rest = full.drop i → mj_J X (mj_pc full i) L st G M cb sb) 0 (full.drop (mj_hd aux)) L st G M cb sb) ∧ mj_sw z (fun t => mj_x (fun y => (T y).2.2.2.2.2.2) C full Q (fun rest L st G M cb sb => ∀ i, rest = full.drop i → mj_J X (mj_pc full i) L st G M cb sb) 0 (full.drop t) L st G M cb sb) lo (aux.drop 1)) := h
        obtain ⟨z, st, rfl, h1, h2⟩ := mj_i1_e h
        simp only [mj_cx, Bool.and_eq_true, decide_eq_true_eq] at hcx
        obtain ⟨⟨c1, c2⟩, c3⟩ := hcx
        refine mj_o_switch X (pcs := mj_pc full) hdec c1 c2 (fun k t hk => ?_) (fun q => ih (mj_hd aux) _ _ _ _ _ _ (h1 q)) (fun k t hk hz => ih t _ _ _ _ _ _ (mj_sw_e _ _ h2 k t hk hz))
        obtain ⟨o, o1, o2⟩ := mj_ct_at _ _ c3 k t hk
        exact ⟨o, by rw [← Array.getElem?_toList]; exact o1, o2⟩
      case invokespecial k =>
        cases aux with
        | nil =>
          have h : mj_a1 st (fun _ st => mj_cat st ≤ 8 ∧ mj_x (fun y => (T y).2.2.2.2.2.2) C full Q (fun rest L st G M cb sb => ∀ i, rest = full.drop i → mj_J X (mj_pc full i) L st G M cb sb) 0 (full.drop (i + 1)) L st G M cb sb) := h
          obtain ⟨a, st, rfl, h8, u1⟩ := mj_a1_e h
          have hn := hnx.resolve_left Bool.false_ne_true
          have g := ih (i + 1) _ _ _ _ _ _ u1
          rw [hn] at g
          exact mj_o_objInit X hdec (mj_win (of_decide_eq_true hcx)) ho2 ho3 h8 g
        | cons y aux =>
          have h : mj_pop (mj_h1 (y :: aux)) [] st (fun As st => mj_a1 st fun a st => mj_is G a (mj_h2 (y :: aux) + 1) fun _ _ => mj_cat st ≤ 8 ∧ (T y).2.2.2.2.2.2.1 ≤ cb ∧ (T y).2.2.2.2.2.2.2 ≤ sb ∧ C y (.inr (.inr (some a)) :: As) G M fun r G M => mj_x (fun y => (T y).2.2.2.2.2.2) C full Q (fun rest L st G M cb sb => ∀ i, rest = full.drop i → mj_J X (mj_pc full i) L st G M cb sb) 0 (full.drop (i + 1)) L (mj_ret r st) G M (cb - (T y).2.2.2.2.2.2.1) (sb - (T y).2.2.2.2.2.2.2)) := h
          obtain ⟨As, st, rfl, hAs, u2⟩ := mj_pop_e _ _ _ _ h
          rw [List.append_nil] at u2
          obtain ⟨a, st, rfl, t, nn, hG, ht, h8, h1, h2, u3⟩ := mj_a1_e u2
          have hn := hnx.resolve_left Bool.false_ne_true
          simp only [mj_cx, Bool.and_eq_true, decide_eq_true_eq] at hcx
          obtain ⟨c1, c3⟩ := hcx
          have hm := hT y
          unfold mj_cm at hm
          rw [c1] at hm
          simp only [Bool.and_eq_true, decide_eq_true_eq] at hm
          obtain ⟨⟨⟨⟨⟨⟨⟨m1, m2⟩, m3⟩, m4⟩, m5⟩, m6⟩, m7⟩, ⟨⟨m8, m9⟩, m10⟩, m11⟩ := hm
          have hq0 := hC _ _ _ _ _ u3
          unfold mj_Mt at hq0
          rw [m11] at hq0 m1
          refine mj_o_callI (d := d) X hdec hq0 ⟨hR.1, by have := hR.2; omega⟩ m10 ⟨m3, m4, m5⟩ hAs (mj_win c3) m9 m2 m1 h8 h1 h2 (fun r G M hq => ?_)
          have g := ih (i + 1) _ _ _ _ _ _ hq
          rw [hn] at g
          exact g
      case ireturn =>
        have h : mj_i1 st (fun z st => st = [] ∧ (imm = 1 → z = 0 ∨ z = 1) ∧ Q (some (.inl z)) G M) := h
        obtain ⟨z, st, rfl, rfl, h1, h2⟩ := mj_i1_e h
        have hc2 := of_decide_eq_true hcx
        exact mj_o_ireturn X hdec (hc2.imp (fun q => q.2) (fun q => ⟨q.2, h1 q.1⟩)) h2
      case return_ =>
        have h : st = [] ∧ Q none G M := h
        obtain ⟨rfl, h2⟩ := h
        exact mj_o_return X hdec (of_decide_eq_true hcx) h2
      case idiv =>
        have h : mj_dv st (fun x y => x / y) (fun st => mj_x (fun y => (T y).2.2.2.2.2.2) C full Q (fun rest L st G M cb sb => ∀ i, rest = full.drop i → mj_J X (mj_pc full i) L st G M cb sb) 0 (full.drop (i + 1)) L st G M cb sb) := h
        obtain ⟨y, st, rfl, u1⟩ := mj_i1_e h
        obtain ⟨x, st, rfl, h0, u2⟩ := mj_i1_e u1
        have hn := hnx.resolve_left Bool.false_ne_true
        refine mj_o_idiv X hdec h0 (fun z hz hz2 => ?_)
        have g := ih (i + 1) _ _ _ _ _ _ (u2 z hz hz2)
        rw [hn] at g
        exact g
      case irem =>
        have h : mj_dv st (fun x y => x - x / y * y) (fun st => mj_x (fun y => (T y).2.2.2.2.2.2) C full Q (fun rest L st G M cb sb => ∀ i, rest = full.drop i → mj_J X (mj_pc full i) L st G M cb sb) 0 (full.drop (i + 1)) L st G M cb sb) := h
        obtain ⟨y, st, rfl, u1⟩ := mj_i1_e h
        obtain ⟨x, st, rfl, h0, u2⟩ := mj_i1_e u1
        have hn := hnx.resolve_left Bool.false_ne_true
        refine mj_o_irem X hdec h0 (fun z hz hz2 => ?_)
        have g := ih (i + 1) _ _ _ _ _ _ (u2 z hz hz2)
        rw [hn] at g
        exact g
      case lor =>
        have h : mj_ll st (fun x y => x ||| y) (fun st => mj_x (fun y => (T y).2.2.2.2.2.2) C full Q (fun rest L st G M cb sb => ∀ i, rest = full.drop i → mj_J X (mj_pc full i) L st G M cb sb) 0 (full.drop (i + 1)) L st G M cb sb) := h
        obtain ⟨y, st, rfl, u1⟩ := mj_l1_e h
        obtain ⟨x, st, rfl, u2⟩ := mj_l1_e u1
        have hn := hnx.resolve_left Bool.false_ne_true
        have g := ih (i + 1) _ _ _ _ _ _ u2
        rw [hn] at g
        exact mj_o_lor X hdec g
      case land =>
        have h : mj_ll st (fun x y => x &&& y) (fun st => mj_x (fun y => (T y).2.2.2.2.2.2) C full Q (fun rest L st G M cb sb => ∀ i, rest = full.drop i → mj_J X (mj_pc full i) L st G M cb sb) 0 (full.drop (i + 1)) L st G M cb sb) := h
        obtain ⟨y, st, rfl, u1⟩ := mj_l1_e h
        obtain ⟨x, st, rfl, u2⟩ := mj_l1_e u1
        have hn := hnx.resolve_left Bool.false_ne_true
        have g := ih (i + 1) _ _ _ _ _ _ u2
        rw [hn] at g
        exact mj_o_land X hdec g
      case lshl =>
        have h : mj_ls st (fun x y => x <<< y) (fun st => mj_x (fun y => (T y).2.2.2.2.2.2) C full Q (fun rest L st G M cb sb => ∀ i, rest = full.drop i → mj_J X (mj_pc full i) L st G M cb sb) 0 (full.drop (i + 1)) L st G M cb sb) := h
        obtain ⟨y, st, rfl, u1⟩ := mj_i1_e h
        obtain ⟨x, st, rfl, u2⟩ := mj_l1_e u1
        have hn := hnx.resolve_left Bool.false_ne_true
        have g := ih (i + 1) _ _ _ _ _ _ u2
        rw [hn] at g
        exact mj_o_lshl X hdec g
      case lshr =>
        have h : mj_ls st (fun x y => x >>> y) (fun st => mj_x (fun y => (T y).2.2.2.2.2.2) C full Q (fun rest L st G M cb sb => ∀ i, rest = full.drop i → mj_J X (mj_pc full i) L st G M cb sb) 0 (full.drop (i + 1)) L st G M cb sb) := h
        obtain ⟨y, st, rfl, u1⟩ := mj_i1_e h
        obtain ⟨x, st, rfl, u2⟩ := mj_l1_e u1
        have hn := hnx.resolve_left Bool.false_ne_true
        have g := ih (i + 1) _ _ _ _ _ _ u2
        rw [hn] at g
        exact mj_o_lshr X hdec g
      case lcmp =>
        have h : mj_l1 st (fun y st => mj_l1 st fun x st => ∀ z, mj_in z → z = (lg_cmp x y).toInt → mj_x (fun y => (T y).2.2.2.2.2.2) C full Q (fun rest L st G M cb sb => ∀ i, rest = full.drop i → mj_J X (mj_pc full i) L st G M cb sb) 0 (full.drop (i + 1)) L (.inl z :: st) G M cb sb) := h
        obtain ⟨y, st, rfl, u1⟩ := mj_l1_e h
        obtain ⟨x, st, rfl, u2⟩ := mj_l1_e u1
        have hn := hnx.resolve_left Bool.false_ne_true
        refine mj_o_lcmp X hdec (fun z hz hz2 => ?_)
        have g := ih (i + 1) _ _ _ _ _ _ (u2 z hz hz2)
        rw [hn] at g
        exact g
      case i2l =>
        have h : mj_i1 st (fun z st => mj_x (fun y => (T y).2.2.2.2.2.2) C full Q (fun rest L st G M cb sb => ∀ i, rest = full.drop i → mj_J X (mj_pc full i) L st G M cb sb) 0 (full.drop (i + 1)) L (.inr (.inl (Int32.ofInt z).toInt64) :: st) G M cb sb) := h
        obtain ⟨x, st, rfl, u1⟩ := mj_i1_e h
        have hn := hnx.resolve_left Bool.false_ne_true
        have g := ih (i + 1) _ _ _ _ _ _ u1
        rw [hn] at g
        exact mj_o_i2l X hdec g
      case l2i =>
        have h : mj_l1 st (fun w st => ∀ z, mj_in z → z = w.toInt32.toInt → mj_x (fun y => (T y).2.2.2.2.2.2) C full Q (fun rest L st G M cb sb => ∀ i, rest = full.drop i → mj_J X (mj_pc full i) L st G M cb sb) 0 (full.drop (i + 1)) L (.inl z :: st) G M cb sb) := h
        obtain ⟨x, st, rfl, u1⟩ := mj_l1_e h
        have hn := hnx.resolve_left Bool.false_ne_true
        refine mj_o_l2i X hdec (fun z hz hz2 => ?_)
        have g := ih (i + 1) _ _ _ _ _ _ (u1 z hz hz2)
        rw [hn] at g
        exact g
      case ldc_w k =>
        have h : mj_x (fun y => (T y).2.2.2.2.2.2) C full Q (fun rest L st G M cb sb => ∀ i, rest = full.drop i → mj_J X (mj_pc full i) L st G M cb sb) 0 (full.drop (i + 1)) L (.inl imm :: st) G M cb sb := h
        have hn := hnx.resolve_left Bool.false_ne_true
        have g := ih (i + 1) _ _ _ _ _ _ h
        rw [hn] at g
        simp only [mj_cx, Bool.and_eq_true, decide_eq_true_eq] at hcx
        exact mj_o_ldcw X hdec hcx.1 (mj_win hcx.2) g
      case if_acmp cd off =>
        have h : mj_r1 st (fun y st => mj_r1 st fun z st => mj_br (mj_rc cd z y) (mj_x (fun y => (T y).2.2.2.2.2.2) C full Q (fun rest L st G M cb sb => ∀ i, rest = full.drop i → mj_J X (mj_pc full i) L st G M cb sb) 0 (full.drop (mj_hd aux)) L st G M cb sb) (mj_x (fun y => (T y).2.2.2.2.2.2) C full Q (fun rest L st G M cb sb => ∀ i, rest = full.drop i → mj_J X (mj_pc full i) L st G M cb sb) 0 (full.drop (i + 1)) L st G M cb sb)) := h
        obtain ⟨y, st, rfl, u1⟩ := mj_r1_e h
        obtain ⟨z, st, rfl, h1, h2⟩ := mj_r1_e u1
        have hn := hnx.resolve_left Bool.false_ne_true
        have ht := of_decide_eq_true hcx
        have g1 := fun q => ih (mj_hd aux) _ _ _ _ _ _ (h1 q)
        have g2 := fun q => ih (i + 1) _ _ _ _ _ _ (h2 q)
        rw [hn] at g2
        cases cd
        · exact mj_o_acmp_eq X hdec ht g1 g2
        · exact mj_o_acmp_ne X hdec ht g1 g2
      case getstatic k =>
        have h : aux ≠ [] ∧ ∀ a, G a = mj_wt (mj_hd aux) → mj_x (fun y => (T y).2.2.2.2.2.2) C full Q (fun rest L st G M cb sb => ∀ i, rest = full.drop i → mj_J X (mj_pc full i) L st G M cb sb) 0 (full.drop (i + 1)) L (.inr (.inr (some a)) :: st) G M cb sb := h
        have hn := hnx.resolve_left Bool.false_ne_true
        have hcx := mj_win (of_decide_eq_true (mj_em h.1 hcx))
        have g := fun a q => ih (i + 1) _ _ _ _ _ _ (h.2 a q)
        rw [hn] at g
        unfold mj_wt at g
        unfold mj_wg at hcx
        cases hk : Nat.blt (mj_hd aux) 24 with
        | true =>
          rw [hk] at g hcx
          exact mj_o_gets X (Nat.le_of_ble_eq_true hk) hdec hcx g
        | false =>
          rw [hk] at g hcx
          exact mj_o_getsA X hdec hcx g
      case areturn =>
        have h : mj_r1 st (fun z st => st = [] ∧ Q (some (.inr (.inr z))) G M) := h
        obtain ⟨z, st, rfl, rfl, h2⟩ := mj_r1_e h
        exact mj_o_areturn X hdec (of_decide_eq_true hcx) h2
      all_goals exact h.elim
end MJS
end
section
/-! ===== a run of the small machine gives the method's contract ===== -/
theorem mj_w_lib : (Cond.static Lib.Math.max.name ∈ mj_tb ∧ Cond.code Lib.Math.max.name Lib.Math.max.code 2 (some .int) ∈ mj_tb) ∧ (Cond.static Lib.Math.min.name ∈ mj_tb ∧ Cond.code Lib.Math.min.name Lib.Math.min.code 2 (some .int) ∈ mj_tb) ∧ (Cond.static Lib.Math.abs.name ∈ mj_tb ∧ Cond.code Lib.Math.abs.name Lib.Math.abs.code 1 (some .int) ∈ mj_tb) ∧ Cond.initialized "java/lang/Math" ∈ mj_tb ∧ Cond.native arraycopyName ∈ mj_tb ∧ Cond.static arraycopyName ∈ mj_tb ∧ Cond.initialized "java/lang/System" ∈ mj_tb := by decide +kernel
theorem mj_w_arr : Cond.arrayClass .int ∈ mj_tb := by decide +kernel
theorem mj_w_oi : Cond.instanceMethod objectInit ∈ mj_tb := by decide +kernel
theorem mj_w_oc : Cond.code objectInit ⟨#[0xb1]⟩ 1 none ∈ mj_tb := by decide +kernel
theorem mj_cm_of {T : Nat → mj_T} {q : mj_T} (h : mj_ok1 T q = true) : mj_cm q = true := by
  unfold mj_ok1 at h
  rw [Bool.and_eq_true, Bool.and_eq_true] at h
  exact h.1.1
theorem mj_cm_pn {q : mj_T} (h : mj_cm q = true) : plainName q.1.cls = true ∧ q.2.2.1 ≤ 80 := by
  unfold mj_cm at h
  simp only [Bool.and_eq_true, decide_eq_true_eq] at h
  obtain ⟨⟨⟨⟨⟨⟨⟨m1, m2⟩, m3⟩, m4⟩, m5⟩, m6⟩, m7⟩, -⟩ := h
  exact ⟨m6, m7⟩
theorem mj_met {l : Launch} {D : va_G} {dA : Nat → ClassId} {B : Nat} {T : Nat → mj_T} (hT : ∀ y, mj_ok1 T (T y) = true) : ∀ (d y : Nat) (av : List mj_V) (G : mj_G) (M : mj_M) (Q : mj_P), mj_R T d y av G M Q → mj_Mt l D dA B (T y) d av G M Q
  | 0, _, _, _, _, _, h => h.elim
  | d + 1, y, av, G, M, Q, h => by
    obtain ⟨hwd, hrun⟩ := h
    have hq := hT y
    have hcm := mj_cm_of hq
    obtain ⟨hpn, h80⟩ := mj_cm_pn hcm
    unfold mj_ok1 at hq
    rw [Bool.and_eq_true, Bool.and_eq_true] at hq
    obtain ⟨⟨-, hca⟩, hp0⟩ := hq
    have hp0 := of_decide_eq_true hp0
    unfold mj_Mt
    refine Met.ofW (cc := (T y).2.1) (maxL := (T y).2.2.1) (ret := (T y).2.2.2.1) hpn rfl ?_
    intro p e s m args below meth c s₁ Bd hml hv
    obtain ⟨rfl, hH, hK, hok, hB⟩ := hv
    have hts := atoms_spec (ws := Cond.code (T y).1 (T y).2.1 (T y).2.2.1 (T y).2.2.2.1 :: mj_tb) Bd.pre
    have X : mj_X p l e (mj_rm (d + 1) (T y).2.2.2.2.2.2) s m (av.map mj_val).toArray below meth c (T y).1.cls (T y).2.1 (T y).2.2.2.1 D dA B (T y).2.2.1 (T y).2.2.2.2.2.2.1 (T y).2.2.2.2.2.2.2 Q :=
      ⟨⟨Bd.exec, Bd.bytes, hml, Bd.returns, findClass_of_methodNamed Bd.named⟩, fun w hw => hts w (List.mem_cons_of_mem _ hw), Bd.notSynchronized, hK, hB, ⟨by show 1 ≤ d + 1; omega, by show 100 ≤ 100 * (d + 1) + 100; omega, Nat.le_refl _, Nat.le_refl _⟩⟩
    have hini : decide ((T y).1.name = "<init>") = true → meth.name = "<init>" := fun q => by
      rw [(name_of_methodNamed Bd.named Bd.method).1]
      exact of_decide_eq_true q
    have g := mj_snd X (T := T) (C := mj_R T d) (full := (T y).2.2.2.2.1) (ini := decide ((T y).1.name = "<init>")) (d := d) hini ⟨Nat.le_refl _, Nat.le_refl _⟩ mj_w_arr mj_w_oi mj_w_oc mj_w_lib (fun y => mj_cm_of (hT y)) (fun y av G M Q h => mj_met hT d y av G M Q h)
      (fun i x hx => by have := mj_ca_at _ 0 i x hca hx; rw [Nat.zero_add] at this; exact this)
    have g := hrun _ g 0 rfl
    rw [hp0] at g
    rw [lg_entry_eq]
    have hl := lv_entry (av.map mj_val) (n := (T y).2.2.1) (by rw [mj_wd_eq]; exact hwd)
    exact g s.heap [] _ 0 0 hH va_S.rf ⟨by rw [mj_en_asc]; exact hl, mj_en_len av _ hwd, fun j v hj => mj_en_ok av _ j v hok hj⟩ (fun v hv => by cases hv) (by omega) (by omega)
theorem mj_ok1_mk {T : Nat → mj_T} {q : mj_T} (h1 : mj_cm q = true) (h2 : mj_ca T q.1.cls q.2.2.2.1 q.2.2.1 (decide (q.1.name = "<init>")) q.2.1 q.2.2.2.2.1 0 q.2.2.2.2.1 = true) (h3 : decide (mj_pc q.2.2.2.2.1 0 = 0) = true) : mj_ok1 T q = true := by
  unfold mj_ok1
  rw [h1, h2, h3]
  rfl
def mj_cr (q : mj_T) : Bool := decide (q.1.cls ≠ "java/lang/invoke/MethodHandle") && decide (q.1.cls ≠ "java/lang/invoke/VarHandle") && decide ((parseMethodDescriptor q.1.desc).map (fun d => d.parameters.length) = some q.2.2.2.2.2.1.2.2) && decide (plainName q.1.cls = true) && decide (q.2.2.1 ≤ 80)
theorem mj_cm0 {q : mj_T} (h1 : Cond.code q.1 q.2.1 q.2.2.1 q.2.2.2.1 ∈ mj_tb) (h2 : Cond.initialized q.1.cls ∈ mj_tb) (h3 : Cond.instanceMethod q.1 ∈ mj_tb) (h4 : Cond.selects q.1.cls q.1 q.1 ∈ mj_tb) (hk : q.2.2.2.2.2.1.1 = 0) (hr : (mj_cr q && decide (q.1.cls = mj_cls q.2.2.2.2.2.1.2.1)) = true) : mj_cm q = true := by
  unfold mj_cr at hr
  simp only [Bool.and_eq_true, decide_eq_true_eq] at hr
  obtain ⟨⟨⟨⟨⟨r1, r2⟩, r3⟩, r4⟩, r5⟩, r6⟩ := hr
  unfold mj_cm
  rw [hk]
  simp only [Bool.and_eq_true, decide_eq_true_eq]
  exact ⟨⟨⟨⟨⟨⟨⟨h1, h2⟩, r1⟩, r2⟩, r3⟩, r4⟩, r5⟩, ⟨r6, h3⟩, h4⟩
theorem mj_cm1 {q : mj_T} (h1 : Cond.code q.1 q.2.1 q.2.2.1 q.2.2.2.1 ∈ mj_tb) (h2 : Cond.initialized q.1.cls ∈ mj_tb) (h3 : Cond.static q.1 ∈ mj_tb) (hk : q.2.2.2.2.2.1.1 = 1) (hr : mj_cr q = true) : mj_cm q = true := by
  unfold mj_cr at hr
  simp only [Bool.and_eq_true, decide_eq_true_eq] at hr
  obtain ⟨⟨⟨⟨r1, r2⟩, r3⟩, r4⟩, r5⟩ := hr
  unfold mj_cm
  rw [hk]
  simp only [Bool.and_eq_true, decide_eq_true_eq]
  exact ⟨⟨⟨⟨⟨⟨⟨h1, h2⟩, r1⟩, r2⟩, r3⟩, r4⟩, r5⟩, h3⟩
theorem mj_cm2 {q : mj_T} (h1 : Cond.code q.1 q.2.1 q.2.2.1 q.2.2.2.1 ∈ mj_tb) (h2 : Cond.initialized q.1.cls ∈ mj_tb) (h3 : Cond.instanceMethod q.1 ∈ mj_tb) (hk : q.2.2.2.2.2.1.1 = 2) (hr : (mj_cr q && decide (q.1.cls = mj_cls q.2.2.2.2.2.1.2.1) && decide (q.1.name = "<init>") && decide (q.2.2.2.1 = none)) = true) : mj_cm q = true := by
  unfold mj_cr at hr
  simp only [Bool.and_eq_true, decide_eq_true_eq] at hr
  obtain ⟨⟨⟨⟨⟨⟨⟨r1, r2⟩, r3⟩, r4⟩, r5⟩, r6⟩, r7⟩, r8⟩ := hr
  unfold mj_cm
  rw [hk]
  simp only [Bool.and_eq_true, decide_eq_true_eq]
  exact ⟨⟨⟨⟨⟨⟨⟨h1, h2⟩, r1⟩, r2⟩, r3⟩, r4⟩, r5⟩, ⟨⟨r6, h3⟩, r7⟩, r8⟩
end
section
/-! ===== the small machine's step grows with what goes on behind it ===== -/
theorem mj_pop_m : ∀ (n : Nat) (acc st : List mj_V) {k k' : List mj_V → List mj_V → Prop}, (∀ a t, k a t → k' a t) → mj_pop n acc st k → mj_pop n acc st k'
  | 0, acc, st, _, _, hk, h => hk acc st h
  | n + 1, acc, [], _, _, _, h => h
  | n + 1, acc, v :: st, _, _, hk, h => mj_pop_m n (v :: acc) st hk h
theorem mj_sw_m {z : Int} {k k' : Nat → Prop} (hk : ∀ t, k t → k' t) : ∀ (ts : List Nat) (v : Int), mj_sw z k v ts → mj_sw z k' v ts
  | [], _, _ => trivial
  | t :: ts, v, h => ⟨fun q => hk t (h.1 q), mj_sw_m hk ts (v + 1) h.2⟩
theorem mj_a1_m {st : List mj_V} {k k' : Nat → List mj_V → Prop} (hk : ∀ a t, k a t → k' a t) (h : mj_a1 st k) : mj_a1 st k' := by
  obtain ⟨a, t, rfl, h⟩ := mj_a1_e h
  exact hk a t h
theorem mj_i1_m {st : List mj_V} {k k' : Int → List mj_V → Prop} (hk : ∀ a t, k a t → k' a t) (h : mj_i1 st k) : mj_i1 st k' := by
  obtain ⟨a, t, rfl, h⟩ := mj_i1_e h
  exact hk a t h
theorem mj_l1_m {st : List mj_V} {k k' : Int64 → List mj_V → Prop} (hk : ∀ a t, k a t → k' a t) (h : mj_l1 st k) : mj_l1 st k' := by
  obtain ⟨a, t, rfl, h⟩ := mj_l1_e h
  exact hk a t h
theorem mj_r1_m {st : List mj_V} {k k' : Option Nat → List mj_V → Prop} (hk : ∀ a t, k a t → k' a t) (h : mj_r1 st k) : mj_r1 st k' := by
  obtain ⟨a, t, rfl, h⟩ := mj_r1_e h
  exact hk a t h
theorem mj_ald_m {j : Nat} {st : List mj_V} {G : mj_G} {k k' : Nat → Nat → List mj_V → Prop} (hk : ∀ a i t, k a i t → k' a i t) (h : mj_ald j st G k) : mj_ald j st G k' := by
  obtain ⟨i, a, st', t, n, rfl, h1, h2, h3, h4, h5⟩ := mj_ald_e h
  exact ⟨t, n, h1, h2, h3, h4, hk _ _ _ h5⟩
theorem mj_aldw_m {j : Nat} {st : List mj_V} {G : mj_G} {k k' : Nat → Nat → List mj_V → Prop} (hk : ∀ a i t, k a i t → k' a i t) (h : mj_aldw j st G k) : mj_aldw j st G k' := by
  obtain ⟨i, a, st', t, n, rfl, h1, h2, h9, h3, h4, h5⟩ := mj_aldw_e h
  exact ⟨t, n, h1, h2, h9, h3, h4, hk _ _ _ h5⟩
theorem mj_cpy_m {j : Nat} {st : List mj_V} {G : mj_G} {k k' : Nat → Nat → Nat → Nat → Nat → List mj_V → Prop} (hk : ∀ a b c d e t, k a b c d e t → k' a b c d e t) (h : mj_cpy j st G k) : mj_cpy j st G k' := by
  obtain ⟨nn, st, rfl, u1⟩ := mj_i1_e h
  obtain ⟨dp, st, rfl, u2⟩ := mj_i1_e u1
  obtain ⟨b, st, rfl, u3⟩ := mj_a1_e u2
  obtain ⟨sp, st, rfl, u4⟩ := mj_i1_e u3
  obtain ⟨a, st, rfl, ta, na, hGa, hta, tb, nb, hGb, htb, h9, h1, h2, h3, h4, h5, h8, u5⟩ := mj_a1_e u4
  exact ⟨ta, na, hGa, hta, tb, nb, hGb, htb, h9, h1, h2, h3, h4, h5, h8, hk _ _ _ _ _ _ u5⟩
theorem mj_lib_m {f : Nat} {st : List mj_V} {G : mj_G} {M : mj_M} {k k' : List mj_V → mj_M → Prop} (hk : ∀ t M, k t M → k' t M) (h : mj_lib f st G M k) : mj_lib f st G M k' := by
  match f, h with
  | 0, h => exact mj_i1_m (fun _ _ h => mj_i1_m (fun _ _ h => ⟨h.1, fun z a b => hk _ _ (h.2 z a b)⟩) h) h
  | 1, h => exact mj_i1_m (fun _ _ h => mj_i1_m (fun _ _ h => ⟨h.1, fun z a b => hk _ _ (h.2 z a b)⟩) h) h
  | 2, h => exact mj_i1_m (fun _ _ h => ⟨h.1, fun z a b c => hk _ _ (h.2 z a b c)⟩) h
  | 3, h => exact mj_cpy_m (k := fun a b sp dp n st => k st (mj_cp0 M a b sp dp n)) (k' := fun a b sp dp n st => k' st (mj_cp0 M a b sp dp n)) (fun _ _ _ _ _ _ h => hk _ _ h) h
  | 4, h => exact mj_cpy_m (k := fun a b sp dp n st => k st (mj_cp1 M a b sp dp n)) (k' := fun a b sp dp n st => k' st (mj_cp1 M a b sp dp n)) (fun _ _ _ _ _ _ h => hk _ _ h) h
  | n + 5, h => exact h.elim
def mj_mo (C : mj_C) : Prop := ∀ y av G M R R', (∀ r G M, R r G M → R' r G M) → C y av G M R → C y av G M R'
set_option maxHeartbeats 4000000 in
theorem mj_x_m {mcs : Nat → Nat × Nat} {C : mj_C} {full : List mj_E} {Q Q' : mj_P} {K K' : mj_S} (hC : mj_mo C) (hQ : ∀ r G M, Q r G M → Q' r G M) (hK : ∀ rest L st G M cb sb, K rest L st G M cb sb → K' rest L st G M cb sb) :
    ∀ (n : Nat) (rest : List mj_E) (L : mj_L) (st : List mj_V) (G : mj_G) (M : mj_M) (cb sb : Nat), mj_x mcs C full Q K n rest L st G M cb sb → mj_x mcs C full Q' K' n rest L st G M cb sb := by
  intro n
  induction n with
  | zero => intro rest L st G M cb sb h; exact hK _ _ _ _ _ _ _ h
  | succ n ih =>
    intro rest L st G M cb sb h
    cases rest with
    | nil => exact h
    | cons x rest =>
      obtain ⟨ins, pc, aux, imm⟩ := x
      cases ins
      case iload_n k =>
        have h : mj_ldi L k.val (fun v => mj_x mcs C full Q K n rest L (v :: st) G M cb sb) := h
        obtain ⟨z, h1, h2⟩ := mj_ldi_e h
        show mj_ldi L k.val (fun v => mj_x mcs C full Q' K' n rest L (v :: st) G M cb sb)
        unfold mj_ldi
        rw [h1]
        exact ih _ _ _ _ _ _ _ h2
      case iload k =>
        have h : mj_ldi L k (fun v => mj_x mcs C full Q K n rest L (v :: st) G M cb sb) := h
        obtain ⟨z, h1, h2⟩ := mj_ldi_e h
        show mj_ldi L k (fun v => mj_x mcs C full Q' K' n rest L (v :: st) G M cb sb)
        unfold mj_ldi
        rw [h1]
        exact ih _ _ _ _ _ _ _ h2
      case lload_n k =>
        have h : mj_ldl L k.val (fun v => mj_x mcs C full Q K n rest L (v :: st) G M cb sb) := h
        obtain ⟨z, h1, h2⟩ := mj_ldl_e h
        show mj_ldl L k.val (fun v => mj_x mcs C full Q' K' n rest L (v :: st) G M cb sb)
        unfold mj_ldl
        rw [h1]
        exact ih _ _ _ _ _ _ _ h2
      case lload k =>
        have h : mj_ldl L k (fun v => mj_x mcs C full Q K n rest L (v :: st) G M cb sb) := h
        obtain ⟨z, h1, h2⟩ := mj_ldl_e h
        show mj_ldl L k (fun v => mj_x mcs C full Q' K' n rest L (v :: st) G M cb sb)
        unfold mj_ldl
        rw [h1]
        exact ih _ _ _ _ _ _ _ h2
      case aload_n k =>
        have h : mj_lda L k.val (fun v => mj_x mcs C full Q K n rest L (v :: st) G M cb sb) := h
        obtain ⟨z, h1, h2⟩ := mj_lda_e h
        show mj_lda L k.val (fun v => mj_x mcs C full Q' K' n rest L (v :: st) G M cb sb)
        unfold mj_lda
        rw [h1]
        exact ih _ _ _ _ _ _ _ h2
      case aload k =>
        have h : mj_lda L k (fun v => mj_x mcs C full Q K n rest L (v :: st) G M cb sb) := h
        obtain ⟨z, h1, h2⟩ := mj_lda_e h
        show mj_lda L k (fun v => mj_x mcs C full Q' K' n rest L (v :: st) G M cb sb)
        unfold mj_lda
        rw [h1]
        exact ih _ _ _ _ _ _ _ h2
      case istore_n k =>
        obtain ⟨z, t, rfl, h2⟩ := mj_i1_e h
        exact ih _ _ _ _ _ _ _ h2
      case istore k =>
        obtain ⟨z, t, rfl, h2⟩ := mj_i1_e h
        exact ih _ _ _ _ _ _ _ h2
      case lstore_n k =>
        obtain ⟨z, t, rfl, h2⟩ := mj_l1_e h
        exact ih _ _ _ _ _ _ _ h2
      case lstore k =>
        obtain ⟨z, t, rfl, h2⟩ := mj_l1_e h
        exact ih _ _ _ _ _ _ _ h2
      case astore_n k =>
        obtain ⟨z, t, rfl, h2⟩ := mj_r1_e h
        exact ih _ _ _ _ _ _ _ h2
      case astore k =>
        obtain ⟨z, t, rfl, h2⟩ := mj_r1_e h
        exact ih _ _ _ _ _ _ _ h2
      case iinc k c =>
        have h : mj_ldi L k (fun v => mj_i1 [v] fun z _ => mj_in (z + c) ∧ mj_x mcs C full Q K n rest (mj_s1 L k (.inl (z + c))) st G M cb sb) := h
        obtain ⟨z, h1, h2⟩ := mj_ldi_e h
        show mj_ldi L k (fun v => mj_i1 [v] fun z _ => mj_in (z + c) ∧ mj_x mcs C full Q' K' n rest (mj_s1 L k (.inl (z + c))) st G M cb sb)
        unfold mj_ldi
        rw [h1]
        exact ⟨(show mj_in (z + c) ∧ _ from h2).1, ih _ _ _ _ _ _ _ (show mj_in (z + c) ∧ _ from h2).2⟩
      case iconst z =>
        exact ih _ _ _ _ _ _ _ h
      case bipush z =>
        exact ih _ _ _ _ _ _ _ h
      case sipush z =>
        exact ih _ _ _ _ _ _ _ h
      case ldc z =>
        exact ih _ _ _ _ _ _ _ h
      case ldc2_w z =>
        exact ih _ _ _ _ _ _ _ h
      case lconst z =>
        exact ih _ _ _ _ _ _ _ h
      case aconst_null =>
        exact ih _ _ _ _ _ _ _ h
      case goto z =>
        exact ih _ _ _ _ _ _ _ h
      case iadd =>
        obtain ⟨y, t, rfl, u1⟩ := mj_i1_e h
        obtain ⟨x, t, rfl, u2⟩ := mj_i1_e u1
        rcases u2 with ⟨h1, h2⟩ | h2
        · exact Or.inl ⟨h1, ih _ _ _ _ _ _ _ h2⟩
        · exact Or.inr (fun z hz hz2 => ih _ _ _ _ _ _ _ (h2 z hz hz2))
      case isub =>
        obtain ⟨y, t, rfl, u1⟩ := mj_i1_e h
        obtain ⟨x, t, rfl, u2⟩ := mj_i1_e u1
        rcases u2 with ⟨h1, h2⟩ | h2
        · exact Or.inl ⟨h1, ih _ _ _ _ _ _ _ h2⟩
        · exact Or.inr (fun z hz hz2 => ih _ _ _ _ _ _ _ (h2 z hz hz2))
      case imul =>
        obtain ⟨y, t, rfl, u1⟩ := mj_i1_e h
        obtain ⟨x, t, rfl, u2⟩ := mj_i1_e u1
        rcases u2 with ⟨h1, h2⟩ | h2
        · exact Or.inl ⟨h1, ih _ _ _ _ _ _ _ h2⟩
        · exact Or.inr (fun z hz hz2 => ih _ _ _ _ _ _ _ (h2 z hz hz2))
      case iand =>
        obtain ⟨y, t, rfl, u1⟩ := mj_i1_e h
        obtain ⟨x, t, rfl, u2⟩ := mj_i1_e u1
        exact fun z hz hz2 => ih _ _ _ _ _ _ _ (u2 z hz hz2)
      case ior =>
        obtain ⟨y, t, rfl, u1⟩ := mj_i1_e h
        obtain ⟨x, t, rfl, u2⟩ := mj_i1_e u1
        exact fun z hz hz2 => ih _ _ _ _ _ _ _ (u2 z hz hz2)
      case ishl =>
        obtain ⟨y, t, rfl, u1⟩ := mj_i1_e h
        obtain ⟨x, t, rfl, u2⟩ := mj_i1_e u1
        exact fun z hz hz2 => ih _ _ _ _ _ _ _ (u2 z hz hz2)
      case ishr =>
        obtain ⟨y, t, rfl, u1⟩ := mj_i1_e h
        obtain ⟨x, t, rfl, u2⟩ := mj_i1_e u1
        exact fun z hz hz2 => ih _ _ _ _ _ _ _ (u2 z hz hz2)
      case iushr =>
        obtain ⟨y, t, rfl, u1⟩ := mj_i1_e h
        obtain ⟨x, t, rfl, u2⟩ := mj_i1_e u1
        exact fun z hz hz2 => ih _ _ _ _ _ _ _ (u2 z hz hz2)
      case ineg =>
        obtain ⟨x, t, rfl, u2⟩ := mj_i1_e h
        exact fun z hz hz2 => ih _ _ _ _ _ _ _ (u2 z hz hz2)
      case i2b =>
        obtain ⟨x, t, rfl, u2⟩ := mj_i1_e h
        exact fun z hz hz2 => ih _ _ _ _ _ _ _ (u2 z hz hz2)
      case dup =>
        have h : mj_c1 st (fun v st => mj_x mcs C full Q K n rest L (v :: v :: st) G M cb sb) := h
        obtain ⟨v, t, rfl, h1, h2⟩ := mj_c1_e h
        rcases v with z | z | z
        · exact ih _ _ _ _ _ _ _ h2
        · exact absurd rfl (h1 z)
        · exact ih _ _ _ _ _ _ _ h2
      case pop =>
        have h : mj_c1 st (fun _ st => mj_x mcs C full Q K n rest L st G M cb sb) := h
        obtain ⟨v, t, rfl, h1, h2⟩ := mj_c1_e h
        rcases v with z | z | z
        · exact ih _ _ _ _ _ _ _ h2
        · exact absurd rfl (h1 z)
        · exact ih _ _ _ _ _ _ _ h2
      case dup2 =>
        have h : mj_c1 st (fun v st => mj_c1 st fun w st => mj_x mcs C full Q K n rest L (v :: w :: v :: w :: st) G M cb sb) := h
        obtain ⟨v, t, rfl, h1, u⟩ := mj_c1_e h
        obtain ⟨v2, t, rfl, h3, h2⟩ := mj_c1_e u
        rcases v with z | z | z <;> rcases v2 with z2 | z2 | z2 <;> first | exact absurd rfl (h1 z) | exact absurd rfl (h3 z2) | exact ih _ _ _ _ _ _ _ h2
      case ifCond c o =>
        obtain ⟨z, t, rfl, h1, h2⟩ := mj_i1_e h
        exact ⟨fun q => ih _ _ _ _ _ _ _ (h1 q), fun q => ih _ _ _ _ _ _ _ (h2 q)⟩
      case if_icmp c o =>
        obtain ⟨y, t, rfl, u⟩ := mj_i1_e h
        obtain ⟨z, t, rfl, h1, h2⟩ := mj_i1_e u
        exact ⟨fun q => ih _ _ _ _ _ _ _ (h1 q), fun q => ih _ _ _ _ _ _ _ (h2 q)⟩
      case ifnull o =>
        obtain ⟨z, t, rfl, h1, h2⟩ := mj_r1_e h
        exact ⟨fun q => ih _ _ _ _ _ _ _ (h1 q), fun q => ih _ _ _ _ _ _ _ (h2 q)⟩
      case ifnonnull o =>
        obtain ⟨z, t, rfl, h1, h2⟩ := mj_r1_e h
        exact ⟨fun q => ih _ _ _ _ _ _ _ (h1 q), fun q => ih _ _ _ _ _ _ _ (h2 q)⟩
      case tableswitch df lo hi offs =>
        obtain ⟨z, t, rfl, h1, h2⟩ := mj_i1_e h
        exact ⟨fun q => ih _ _ _ _ _ _ _ (h1 q), mj_sw_m (fun t h => ih _ _ _ _ _ _ _ h) _ _ h2⟩
      case getfield k =>
        obtain ⟨h0, u⟩ : aux ≠ [] ∧ mj_br (mj_hd aux = 49) (mj_gw (mj_h1 aux) st G (fun st => mj_x mcs C full Q K n rest L st G M cb sb)) (mj_get (mj_hd aux) (mj_h1 aux) st G M (fun st => mj_x mcs C full Q K n rest L st G M cb sb)) := h
        refine ⟨h0, fun q => ?_, fun q => ?_⟩
        · have u := u.1 q
          obtain ⟨a, t, rfl, tt, nn, hG, ht, u⟩ := mj_a1_e u
          refine ⟨tt, nn, hG, ht, ?_⟩
          generalize mj_h1 aux = fk at u ⊢
          match fk, u with
          | 0, u => exact ih _ _ _ _ _ _ _ u
          | m + 1, u => exact ih _ _ _ _ _ _ _ u
        have u := u.2 q
        obtain ⟨a, t, rfl, tt, nn, hG, ht, u⟩ := mj_a1_e u
        refine ⟨tt, nn, hG, ht, ?_⟩
        generalize mj_so (mj_hd aux) (mj_h1 aux) = so at u ⊢
        match so, u with
        | 0, u => exact ih _ _ _ _ _ _ _ u
        | 1, u => exact ih _ _ _ _ _ _ _ u
        | m + 2, u => exact ⟨fun b hb => ih _ _ _ _ _ _ _ (u.1 b hb), fun hb => ih _ _ _ _ _ _ _ (u.2 hb)⟩
      case putfield k =>
        obtain ⟨h0, u⟩ : aux ≠ [] ∧ mj_put (mj_hd aux) (mj_h1 aux) st G M (fun st M => mj_x mcs C full Q K n rest L st G M cb sb) := h
        refine ⟨h0, ?_⟩
        unfold mj_put at u ⊢
        generalize mj_so (mj_hd aux) (mj_h1 aux) = so at u ⊢
        match so, u with
        | 0, u =>
          obtain ⟨z, t, rfl, u⟩ := mj_i1_e u
          obtain ⟨a, t, rfl, tt, nn, hG, ht, h9, hb, u⟩ := mj_a1_e u
          exact ⟨tt, nn, hG, ht, h9, hb, ih _ _ _ _ _ _ _ u⟩
        | 1, u =>
          obtain ⟨z, t, rfl, u⟩ := mj_l1_e u
          obtain ⟨a, t, rfl, tt, nn, hG, ht, h9, u⟩ := mj_a1_e u
          exact ⟨tt, nn, hG, ht, h9, ih _ _ _ _ _ _ _ u⟩
        | m + 2, u =>
          obtain ⟨z, t, rfl, u⟩ := mj_r1_e u
          obtain ⟨a, t, rfl, tt, nn, hG, ht, h9, u⟩ := mj_a1_e u
          exact ⟨tt, nn, hG, ht, h9, ih _ _ _ _ _ _ _ u⟩
      case iaload =>
        exact mj_ald_m (k := fun a i st => mj_x mcs C full Q K n rest L (.inl (M.1 a i) :: st) G M cb sb) (k' := fun a i st => mj_x mcs C full Q' K' n rest L (.inl (M.1 a i) :: st) G M cb sb) (fun _ _ _ h => ih _ _ _ _ _ _ _ h) h
      case laload =>
        exact mj_ald_m (k := fun a i st => mj_x mcs C full Q K n rest L (.inr (.inl (M.2.1 a i)) :: st) G M cb sb) (k' := fun a i st => mj_x mcs C full Q' K' n rest L (.inr (.inl (M.2.1 a i)) :: st) G M cb sb) (fun _ _ _ h => ih _ _ _ _ _ _ _ h) h
      case baload =>
        rcases (show mj_bald st G (fun a i st => mj_x mcs C full Q K n rest L (.inl (M.1 a i) :: st) G M cb sb) from h) with h | h
        · exact Or.inl (mj_ald_m (k := fun a i st => mj_x mcs C full Q K n rest L (.inl (M.1 a i) :: st) G M cb sb) (k' := fun a i st => mj_x mcs C full Q' K' n rest L (.inl (M.1 a i) :: st) G M cb sb) (fun _ _ _ h => ih _ _ _ _ _ _ _ h) h)
        · exact Or.inr (mj_ald_m (k := fun a i st => mj_x mcs C full Q K n rest L (.inl (M.1 a i) :: st) G M cb sb) (k' := fun a i st => mj_x mcs C full Q' K' n rest L (.inl (M.1 a i) :: st) G M cb sb) (fun _ _ _ h => ih _ _ _ _ _ _ _ h) h)
      case aaload =>
        exact mj_ald_m (k := fun a i st => mj_rf (M.2.2 a i) fun v => mj_x mcs C full Q K n rest L (v :: st) G M cb sb) (k' := fun a i st => mj_rf (M.2.2 a i) fun v => mj_x mcs C full Q' K' n rest L (v :: st) G M cb sb) (fun _ _ _ h => ⟨fun b hb => ih _ _ _ _ _ _ _ (h.1 b hb), fun hb => ih _ _ _ _ _ _ _ (h.2 hb)⟩) h
      case iastore =>
        obtain ⟨z, t, rfl, u⟩ := mj_i1_e h
        exact mj_aldw_m (fun _ _ _ h => ih _ _ _ _ _ _ _ h) u
      case lastore =>
        obtain ⟨z, t, rfl, u⟩ := mj_l1_e h
        exact mj_aldw_m (fun _ _ _ h => ih _ _ _ _ _ _ _ h) u
      case bastore =>
        obtain ⟨z, t, rfl, u⟩ := mj_i1_e h
        rcases u with u | ⟨hz, u⟩
        · exact Or.inl (mj_aldw_m (fun _ _ _ h => ih _ _ _ _ _ _ _ h) u)
        · exact Or.inr ⟨hz, mj_aldw_m (fun _ _ _ h => ih _ _ _ _ _ _ _ h) u⟩
      case aastore =>
        obtain ⟨z, t, rfl, u⟩ := mj_r1_e h
        exact mj_aldw_m (k := fun a i st => (∀ b, z = some b → (mj_hd aux = 6 ∧ mj_is G b 7 fun _ _ => True) ∨ (mj_hd aux = 5 ∧ mj_is G b 50 fun _ _ => True)) ∧ mj_x mcs C full Q K n rest L st G (mj_p2 M a i z) cb sb) (k' := fun a i st => (∀ b, z = some b → (mj_hd aux = 6 ∧ mj_is G b 7 fun _ _ => True) ∨ (mj_hd aux = 5 ∧ mj_is G b 50 fun _ _ => True)) ∧ mj_x mcs C full Q' K' n rest L st G (mj_p2 M a i z) cb sb) (fun _ _ _ h => ⟨h.1, ih _ _ _ _ _ _ _ h.2⟩) u
      case arraylength =>
        obtain ⟨a, t, rfl, tt, k, j, h1, h2, h3, h4, u⟩ := mj_a1_e h
        exact ⟨tt, k, j, h1, h2, h3, h4, ih _ _ _ _ _ _ _ u⟩
      case newarray a =>
        obtain ⟨z, t, rfl, h1, h2, h3, h4, tt, h5, u⟩ := mj_i1_e h
        exact ⟨h1, h2, h3, h4, tt, h5, fun a ha => ih _ _ _ _ _ _ _ (u a ha)⟩
      case anewarray a =>
        obtain ⟨z, t, rfl, h1, h2, h3, h4, tt, h5, u⟩ := mj_i1_e h
        exact ⟨h1, h2, h3, h4, tt, h5, fun a ha => ih _ _ _ _ _ _ _ (u a ha)⟩
      case multianewarray a b =>
        obtain ⟨z, t, rfl, u⟩ := mj_i1_e h
        obtain ⟨y, t, rfl, h1, h2, h3, h4, h5, h6, t1, t2, h7, h8, u⟩ := mj_i1_e u
        exact ⟨h1, h2, h3, h4, h5, h6, t1, t2, h7, h8, fun a ha => ih _ _ _ _ _ _ _ (u a ha)⟩
      case new k =>
        obtain ⟨h0, h1, h2, t, ht, u⟩ : aux ≠ [] ∧ 1 ≤ cb ∧ mj_h1 aux ≤ sb ∧ ∃ t, t % 1000 = mj_hd aux + 1 ∧ mj_new G M t 0 fun a G M => mj_x mcs C full Q K n rest L (.inr (.inr (some a)) :: st) G M (cb - 1) (sb - mj_h1 aux) := h
        exact ⟨h0, h1, h2, t, ht, fun a ha => ih _ _ _ _ _ _ _ (u a ha)⟩
      case invokevirtual k =>
        exact ⟨h.1, mj_pop_m _ _ _ (fun As t h => mj_a1_m (fun a t h => by
            obtain ⟨tt, nn, h1, h2, h3, h4, h5, h6⟩ := h
            exact ⟨tt, nn, h1, h2, h3, h4, h5, hC _ _ _ _ _ _ (fun r G M h => ih _ _ _ _ _ _ _ h) h6⟩) h) h.2⟩
      case invokestatic k =>
        match aux, h with
        | [f, u], h => exact mj_lib_m (k := fun st M => mj_x mcs C full Q K n rest L st G M cb sb) (k' := fun st M => mj_x mcs C full Q' K' n rest L st G M cb sb) (fun _ _ h => ih _ _ _ _ _ _ _ h) h
        | [], h => exact absurd rfl h.1
        | [a], h => exact ⟨h.1, mj_pop_m _ _ _ (fun As t h => ⟨h.1, h.2.1, h.2.2.1, hC _ _ _ _ _ _ (fun r G M h => ih _ _ _ _ _ _ _ h) h.2.2.2⟩) h.2⟩
        | a :: b :: d :: aux, h => exact ⟨h.1, mj_pop_m _ _ _ (fun As t h => ⟨h.1, h.2.1, h.2.2.1, hC _ _ _ _ _ _ (fun r G M h => ih _ _ _ _ _ _ _ h) h.2.2.2⟩) h.2⟩
      case invokespecial k =>
        match aux, h with
        | [], h => exact mj_a1_m (fun _ _ h => ⟨h.1, ih _ _ _ _ _ _ _ h.2⟩) h
        | y :: aux, h => exact mj_pop_m _ _ _ (fun As t h => mj_a1_m (fun a t h => by
            obtain ⟨tt, nn, h1, h2, h3, h4, h5, h6⟩ := h
            exact ⟨tt, nn, h1, h2, h3, h4, h5, hC _ _ _ _ _ _ (fun r G M h => ih _ _ _ _ _ _ _ h) h6⟩) h) h
      case ireturn =>
        exact mj_i1_m (fun _ _ h => ⟨h.1, h.2.1, hQ _ _ _ h.2.2⟩) h
      case return_ =>
        exact ⟨h.1, hQ _ _ _ h.2⟩
      case idiv =>
        exact mj_i1_m (fun _ _ h => mj_i1_m (fun _ _ h => ⟨h.1, fun z a b => ih _ _ _ _ _ _ _ (h.2 z a b)⟩) h) h
      case irem =>
        exact mj_i1_m (fun _ _ h => mj_i1_m (fun _ _ h => ⟨h.1, fun z a b => ih _ _ _ _ _ _ _ (h.2 z a b)⟩) h) h
      case lor => exact mj_l1_m (fun _ _ h => mj_l1_m (fun _ _ h => ih _ _ _ _ _ _ _ h) h) h
      case land => exact mj_l1_m (fun _ _ h => mj_l1_m (fun _ _ h => ih _ _ _ _ _ _ _ h) h) h
      case lshl => exact mj_i1_m (fun _ _ h => mj_l1_m (fun _ _ h => ih _ _ _ _ _ _ _ h) h) h
      case lshr => exact mj_i1_m (fun _ _ h => mj_l1_m (fun _ _ h => ih _ _ _ _ _ _ _ h) h) h
      case lcmp => exact mj_l1_m (fun _ _ h => mj_l1_m (fun _ _ h z a b => ih _ _ _ _ _ _ _ (h z a b)) h) h
      case i2l => exact mj_i1_m (fun _ _ h => ih _ _ _ _ _ _ _ h) h
      case l2i => exact mj_l1_m (fun _ _ h z a b => ih _ _ _ _ _ _ _ (h z a b)) h
      case ldc_w k => exact ih _ _ _ _ _ _ _ h
      case if_acmp c o => exact mj_r1_m (fun _ _ h => mj_r1_m (fun _ _ h => ⟨fun q => ih _ _ _ _ _ _ _ (h.1 q), fun q => ih _ _ _ _ _ _ _ (h.2 q)⟩) h) h
      case getstatic k => exact ⟨h.1, fun a q => ih _ _ _ _ _ _ _ (h.2 a q)⟩
      case areturn => exact mj_r1_m (fun _ _ h => ⟨h.1, hQ _ _ _ h.2⟩) h
      all_goals exact h
section MJW
variable {mcs : Nat → Nat × Nat} {C : mj_C} {full : List mj_E} {Q Q' : mj_P} {rest : List mj_E} {L : mj_L} {st : List mj_V} {G : mj_G} {M : mj_M} {cb sb : Nat}
theorem mj_W.step (hC : mj_mo C) (h : mj_x mcs C full Q (mj_W mcs C full Q) 1 rest L st G M cb sb) : mj_W mcs C full Q rest L st G M cb sb := by
  intro K hK
  exact hK _ _ _ _ _ _ _ (mj_x_m hC (fun _ _ _ h => h) (fun _ _ _ _ _ _ _ h => h K hK) 1 _ _ _ _ _ _ _ h)
theorem mj_W.out (hC : mj_mo C) (h : mj_W mcs C full Q rest L st G M cb sb) : mj_x mcs C full Q (mj_W mcs C full Q) 1 rest L st G M cb sb := by
  refine h (fun rest L st G M cb sb => mj_x mcs C full Q (mj_W mcs C full Q) 1 rest L st G M cb sb) (fun rest L st G M cb sb h => ?_)
  exact mj_x_m hC (fun _ _ _ h => h) (fun _ _ _ _ _ _ _ h => mj_W.step hC h) 1 _ _ _ _ _ _ _ h
theorem mj_x_1n {K : mj_S} (n : Nat) (h : mj_x mcs C full Q K (n + 1) rest L st G M cb sb) : mj_x mcs C full Q (fun rest L st G M cb sb => mj_x mcs C full Q K n rest L st G M cb sb) 1 rest L st G M cb sb := by
  cases rest with
  | nil => exact h
  | cons x rest => exact h
theorem mj_x_n1 {K : mj_S} (n : Nat) (h : mj_x mcs C full Q (fun rest L st G M cb sb => mj_x mcs C full Q K n rest L st G M cb sb) 1 rest L st G M cb sb) : mj_x mcs C full Q K (n + 1) rest L st G M cb sb := by
  cases rest with
  | nil => exact h
  | cons x rest => exact h
theorem mj_W.run (hC : mj_mo C) : ∀ (n : Nat) {rest : List mj_E} {L : mj_L} {st : List mj_V} {G : mj_G} {M : mj_M} {cb sb : Nat}, mj_x mcs C full Q (mj_W mcs C full Q) n rest L st G M cb sb → mj_W mcs C full Q rest L st G M cb sb
  | 0, _, _, _, _, _, _, _, h => h
  | n + 1, _, _, _, _, _, _, _, h => mj_W.step hC (mj_x_m hC (fun _ _ _ h => h) (fun _ _ _ _ _ _ _ h => mj_W.run hC n h) 1 _ _ _ _ _ _ _ (mj_x_1n n h))
theorem mj_W.stay (hC : mj_mo C) : ∀ (n : Nat) {rest : List mj_E} {L : mj_L} {st : List mj_V} {G : mj_G} {M : mj_M} {cb sb : Nat}, mj_W mcs C full Q rest L st G M cb sb → mj_x mcs C full Q (mj_W mcs C full Q) n rest L st G M cb sb
  | 0, _, _, _, _, _, _, _, h => h
  | n + 1, _, _, _, _, _, _, _, h => mj_x_n1 n (mj_x_m hC (fun _ _ _ h => h) (fun _ _ _ _ _ _ _ h => mj_W.stay hC n h) 1 _ _ _ _ _ _ _ (mj_W.out hC h))
theorem mj_W.imp (hC : mj_mo C) (hQ : ∀ r G M, Q r G M → Q' r G M) (h : mj_W mcs C full Q rest L st G M cb sb) : mj_W mcs C full Q' rest L st G M cb sb := by
  refine h (mj_W mcs C full Q') (fun rest L st G M cb sb h => mj_W.step hC ?_)
  exact mj_x_m hC hQ (fun _ _ _ _ _ _ _ h => h) 1 _ _ _ _ _ _ _ h
end MJW
theorem mj_R_mo (T : Nat → mj_T) : ∀ d, mj_mo (mj_R T d)
  | 0 => fun _ _ _ _ _ _ _ h => h
  | d + 1 => fun _ _ _ _ _ _ hR h => ⟨h.1, mj_W.imp (mj_R_mo T d) hR h.2⟩
end
