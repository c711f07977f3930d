section
-- ===== PART A: goes FIRST, ahead of the names: the tables' words, and 'selects' of the private methods out of them =====
/-- a private method of a class that the tables say can be made, by its rows of tables_1 -/
def lw_okq (q : MethodName × Nat) : Prop := (q.1.cls ≠ "java/lang/invoke/MethodHandle" ∧ q.1.cls ≠ "java/lang/invoke/VarHandle") ∧ Cond.instantiable q.1.cls q.2 ∈ tables_1 ∧ Cond.privateMethod q.1 ∈ tables_1 ∧ Cond.instanceMethod q.1 ∈ tables_1
theorem lw_p0 : lw_okq (⟨"RibbedLoans$City", "spendable", "()I"⟩, 12) := ⟨⟨by decide +kernel, by decide +kernel⟩, List.mem_of_getElem? (i := 27) (by decide +kernel), List.mem_of_getElem? (i := 223) (by decide +kernel), List.mem_of_getElem? (i := 224) (by decide +kernel)⟩
theorem lw_p1 : lw_okq (⟨"RibbedLoans$City", "freeAt", "(I)I"⟩, 12) := ⟨⟨by decide +kernel, by decide +kernel⟩, List.mem_of_getElem? (i := 27) (by decide +kernel), List.mem_of_getElem? (i := 242) (by decide +kernel), List.mem_of_getElem? (i := 243) (by decide +kernel)⟩
theorem lw_p2 : lw_okq (⟨"RibbedLoans$City", "spend", "(I)V"⟩, 12) := ⟨⟨by decide +kernel, by decide +kernel⟩, List.mem_of_getElem? (i := 27) (by decide +kernel), List.mem_of_getElem? (i := 289) (by decide +kernel), List.mem_of_getElem? (i := 290) (by decide +kernel)⟩
theorem lw_p3 : lw_okq (⟨"RibbedLoans$City", "wouldBorrow", "(I)Z"⟩, 12) := ⟨⟨by decide +kernel, by decide +kernel⟩, List.mem_of_getElem? (i := 27) (by decide +kernel), List.mem_of_getElem? (i := 313) (by decide +kernel), List.mem_of_getElem? (i := 314) (by decide +kernel)⟩
theorem lw_p4 : lw_okq (⟨"RibbedLoans$City", "handOut", "(II)V"⟩, 12) := ⟨⟨by decide +kernel, by decide +kernel⟩, List.mem_of_getElem? (i := 27) (by decide +kernel), List.mem_of_getElem? (i := 329) (by decide +kernel), List.mem_of_getElem? (i := 330) (by decide +kernel)⟩
theorem lw_p5 : lw_okq (⟨"RibbedLoans$City", "countShower", "()V"⟩, 12) := ⟨⟨by decide +kernel, by decide +kernel⟩, List.mem_of_getElem? (i := 27) (by decide +kernel), List.mem_of_getElem? (i := 383) (by decide +kernel), List.mem_of_getElem? (i := 384) (by decide +kernel)⟩
theorem lw_p6 : lw_okq (⟨"RibbedLoans$City", "wearDown", "(II)I"⟩, 12) := ⟨⟨by decide +kernel, by decide +kernel⟩, List.mem_of_getElem? (i := 27) (by decide +kernel), List.mem_of_getElem? (i := 387) (by decide +kernel), List.mem_of_getElem? (i := 388) (by decide +kernel)⟩
theorem lw_p7 : lw_okq (⟨"RibbedLoans$City", "surge", "()V"⟩, 12) := ⟨⟨by decide +kernel, by decide +kernel⟩, List.mem_of_getElem? (i := 27) (by decide +kernel), List.mem_of_getElem? (i := 392) (by decide +kernel), List.mem_of_getElem? (i := 393) (by decide +kernel)⟩
theorem lw_p8 : lw_okq (⟨"RibbedLoans$City", "fullest", "()I"⟩, 12) := ⟨⟨by decide +kernel, by decide +kernel⟩, List.mem_of_getElem? (i := 27) (by decide +kernel), List.mem_of_getElem? (i := 473) (by decide +kernel), List.mem_of_getElem? (i := 474) (by decide +kernel)⟩
theorem lw_p9 : lw_okq (⟨"RibbedLoans$City", "emptiestWithRoom", "()I"⟩, 12) := ⟨⟨by decide +kernel, by decide +kernel⟩, List.mem_of_getElem? (i := 27) (by decide +kernel), List.mem_of_getElem? (i := 477) (by decide +kernel), List.mem_of_getElem? (i := 478) (by decide +kernel)⟩
theorem lw_p10 : lw_okq (⟨"RibbedLoans$State", "snapshot", "(I)LRibbedLoans$City;"⟩, 5) := ⟨⟨by decide +kernel, by decide +kernel⟩, List.mem_of_getElem? (i := 21) (by decide +kernel), List.mem_of_getElem? (i := 490) (by decide +kernel), List.mem_of_getElem? (i := 491) (by decide +kernel)⟩
theorem lw_p11 : lw_okq (⟨"RibbedLoans$Text", "peek", "()I"⟩, 6) := ⟨⟨by decide +kernel, by decide +kernel⟩, List.mem_of_getElem? (i := 172) (by decide +kernel), List.mem_of_getElem? (i := 542) (by decide +kernel), List.mem_of_getElem? (i := 543) (by decide +kernel)⟩
theorem lw_p12 : lw_okq (⟨"RibbedLoans$Text", "readNumbers", "(C)Z"⟩, 6) := ⟨⟨by decide +kernel, by decide +kernel⟩, List.mem_of_getElem? (i := 172) (by decide +kernel), List.mem_of_getElem? (i := 546) (by decide +kernel), List.mem_of_getElem? (i := 547) (by decide +kernel)⟩
theorem lw_p13 : lw_okq (⟨"RibbedLoans$Text", "readNumber", "()I"⟩, 6) := ⟨⟨by decide +kernel, by decide +kernel⟩, List.mem_of_getElem? (i := 172) (by decide +kernel), List.mem_of_getElem? (i := 550) (by decide +kernel), List.mem_of_getElem? (i := 551) (by decide +kernel)⟩
theorem lw_p14 : lw_okq (⟨"RibbedLoans$Text", "readDigit", "()I"⟩, 6) := ⟨⟨by decide +kernel, by decide +kernel⟩, List.mem_of_getElem? (i := 172) (by decide +kernel), List.mem_of_getElem? (i := 554) (by decide +kernel), List.mem_of_getElem? (i := 555) (by decide +kernel)⟩
theorem lw_p15 : lw_okq (⟨"RibbedLoans", "obey", "()I"⟩, 3) := ⟨⟨by decide +kernel, by decide +kernel⟩, List.mem_of_getElem? (i := 13) (by decide +kernel), List.mem_of_getElem? (i := 565) (by decide +kernel), List.mem_of_getElem? (i := 566) (by decide +kernel)⟩
def lw_privs_1 : List (MethodName × Nat) := [(⟨"RibbedLoans$City", "spendable", "()I"⟩, 12), (⟨"RibbedLoans$City", "freeAt", "(I)I"⟩, 12), (⟨"RibbedLoans$City", "spend", "(I)V"⟩, 12), (⟨"RibbedLoans$City", "wouldBorrow", "(I)Z"⟩, 12), (⟨"RibbedLoans$City", "handOut", "(II)V"⟩, 12), (⟨"RibbedLoans$City", "countShower", "()V"⟩, 12), (⟨"RibbedLoans$City", "wearDown", "(II)I"⟩, 12), (⟨"RibbedLoans$City", "surge", "()V"⟩, 12), (⟨"RibbedLoans$City", "fullest", "()I"⟩, 12), (⟨"RibbedLoans$City", "emptiestWithRoom", "()I"⟩, 12), (⟨"RibbedLoans$State", "snapshot", "(I)LRibbedLoans$City;"⟩, 5), (⟨"RibbedLoans$Text", "peek", "()I"⟩, 6), (⟨"RibbedLoans$Text", "readNumbers", "(C)Z"⟩, 6), (⟨"RibbedLoans$Text", "readNumber", "()I"⟩, 6), (⟨"RibbedLoans$Text", "readDigit", "()I"⟩, 6), (⟨"RibbedLoans", "obey", "()I"⟩, 3)]
theorem lw_r1 : ∀ q ∈ lw_privs_1, lw_okq q := List.forall_mem_cons.mpr ⟨lw_p0, List.forall_mem_cons.mpr ⟨lw_p1, List.forall_mem_cons.mpr ⟨lw_p2, List.forall_mem_cons.mpr ⟨lw_p3, List.forall_mem_cons.mpr ⟨lw_p4, List.forall_mem_cons.mpr ⟨lw_p5, List.forall_mem_cons.mpr ⟨lw_p6, List.forall_mem_cons.mpr ⟨lw_p7, List.forall_mem_cons.mpr ⟨lw_p8, List.forall_mem_cons.mpr ⟨lw_p9, List.forall_mem_cons.mpr ⟨lw_p10, List.forall_mem_cons.mpr ⟨lw_p11, List.forall_mem_cons.mpr ⟨lw_p12, List.forall_mem_cons.mpr ⟨lw_p13, List.forall_mem_cons.mpr ⟨lw_p14, List.forall_mem_cons.mpr ⟨lw_p15, fun _ h => absurd h List.not_mem_nil⟩⟩⟩⟩⟩⟩⟩⟩⟩⟩⟩⟩⟩⟩⟩⟩
theorem lw_p16 : lw_okq (⟨"RibbedLoansModel", "canSpend", "(I)Z"⟩, 11) := ⟨⟨by decide +kernel, by decide +kernel⟩, List.mem_of_getElem? (i := 645) (by decide +kernel), List.mem_of_getElem? (i := 695) (by decide +kernel), List.mem_of_getElem? (i := 696) (by decide +kernel)⟩
theorem lw_p17 : lw_okq (⟨"RibbedLoansModel", "manyIn", "(I)I"⟩, 11) := ⟨⟨by decide +kernel, by decide +kernel⟩, List.mem_of_getElem? (i := 645) (by decide +kernel), List.mem_of_getElem? (i := 699) (by decide +kernel), List.mem_of_getElem? (i := 700) (by decide +kernel)⟩
theorem lw_p18 : lw_okq (⟨"RibbedLoansModel", "roomOf", "(I)I"⟩, 11) := ⟨⟨by decide +kernel, by decide +kernel⟩, List.mem_of_getElem? (i := 645) (by decide +kernel), List.mem_of_getElem? (i := 703) (by decide +kernel), List.mem_of_getElem? (i := 704) (by decide +kernel)⟩
theorem lw_p19 : lw_okq (⟨"RibbedLoansModel", "manyAt", "(II)I"⟩, 11) := ⟨⟨by decide +kernel, by decide +kernel⟩, List.mem_of_getElem? (i := 645) (by decide +kernel), List.mem_of_getElem? (i := 707) (by decide +kernel), List.mem_of_getElem? (i := 708) (by decide +kernel)⟩
theorem lw_p20 : lw_okq (⟨"RibbedLoansModel", "isAt", "(III)Z"⟩, 11) := ⟨⟨by decide +kernel, by decide +kernel⟩, List.mem_of_getElem? (i := 645) (by decide +kernel), List.mem_of_getElem? (i := 711) (by decide +kernel), List.mem_of_getElem? (i := 712) (by decide +kernel)⟩
theorem lw_p21 : lw_okq (⟨"RibbedLoansModel", "save", "()V"⟩, 11) := ⟨⟨by decide +kernel, by decide +kernel⟩, List.mem_of_getElem? (i := 645) (by decide +kernel), List.mem_of_getElem? (i := 715) (by decide +kernel), List.mem_of_getElem? (i := 716) (by decide +kernel)⟩
theorem lw_p22 : lw_okq (⟨"RibbedLoansModel", "goes", "(III)V"⟩, 11) := ⟨⟨by decide +kernel, by decide +kernel⟩, List.mem_of_getElem? (i := 645) (by decide +kernel), List.mem_of_getElem? (i := 719) (by decide +kernel), List.mem_of_getElem? (i := 720) (by decide +kernel)⟩
theorem lw_p23 : lw_okq (⟨"RibbedLoansModel", "spends", "(I)V"⟩, 11) := ⟨⟨by decide +kernel, by decide +kernel⟩, List.mem_of_getElem? (i := 645) (by decide +kernel), List.mem_of_getElem? (i := 723) (by decide +kernel), List.mem_of_getElem? (i := 724) (by decide +kernel)⟩
theorem lw_p24 : lw_okq (⟨"RibbedLoansModel", "whyBorrow", "(II)I"⟩, 11) := ⟨⟨by decide +kernel, by decide +kernel⟩, List.mem_of_getElem? (i := 645) (by decide +kernel), List.mem_of_getElem? (i := 735) (by decide +kernel), List.mem_of_getElem? (i := 736) (by decide +kernel)⟩
theorem lw_p25 : lw_okq (⟨"RibbedLoansModel", "canBorrow", "(I)Z"⟩, 11) := ⟨⟨by decide +kernel, by decide +kernel⟩, List.mem_of_getElem? (i := 645) (by decide +kernel), List.mem_of_getElem? (i := 742) (by decide +kernel), List.mem_of_getElem? (i := 743) (by decide +kernel)⟩
theorem lw_p26 : lw_okq (⟨"RibbedLoansModel", "bestOf", "(I)I"⟩, 11) := ⟨⟨by decide +kernel, by decide +kernel⟩, List.mem_of_getElem? (i := 645) (by decide +kernel), List.mem_of_getElem? (i := 746) (by decide +kernel), List.mem_of_getElem? (i := 747) (by decide +kernel)⟩
theorem lw_p27 : lw_okq (⟨"RibbedLoansModel", "isBroken", "(I)Z"⟩, 11) := ⟨⟨by decide +kernel, by decide +kernel⟩, List.mem_of_getElem? (i := 645) (by decide +kernel), List.mem_of_getElem? (i := 750) (by decide +kernel), List.mem_of_getElem? (i := 751) (by decide +kernel)⟩
theorem lw_p28 : lw_okq (⟨"RibbedLoansModel", "borrows", "(II)I"⟩, 11) := ⟨⟨by decide +kernel, by decide +kernel⟩, List.mem_of_getElem? (i := 645) (by decide +kernel), List.mem_of_getElem? (i := 754) (by decide +kernel), List.mem_of_getElem? (i := 755) (by decide +kernel)⟩
theorem lw_p29 : lw_okq (⟨"RibbedLoansModel", "whyBring", "(II)I"⟩, 11) := ⟨⟨by decide +kernel, by decide +kernel⟩, List.mem_of_getElem? (i := 645) (by decide +kernel), List.mem_of_getElem? (i := 762) (by decide +kernel), List.mem_of_getElem? (i := 763) (by decide +kernel)⟩
theorem lw_p30 : lw_okq (⟨"RibbedLoansModel", "brings", "(II)I"⟩, 11) := ⟨⟨by decide +kernel, by decide +kernel⟩, List.mem_of_getElem? (i := 645) (by decide +kernel), List.mem_of_getElem? (i := 766) (by decide +kernel), List.mem_of_getElem? (i := 767) (by decide +kernel)⟩
theorem lw_p31 : lw_okq (⟨"RibbedLoansModel", "fee", "(IZ)I"⟩, 11) := ⟨⟨by decide +kernel, by decide +kernel⟩, List.mem_of_getElem? (i := 645) (by decide +kernel), List.mem_of_getElem? (i := 770) (by decide +kernel), List.mem_of_getElem? (i := 771) (by decide +kernel)⟩
def lw_privs_2 : List (MethodName × Nat) := [(⟨"RibbedLoansModel", "canSpend", "(I)Z"⟩, 11), (⟨"RibbedLoansModel", "manyIn", "(I)I"⟩, 11), (⟨"RibbedLoansModel", "roomOf", "(I)I"⟩, 11), (⟨"RibbedLoansModel", "manyAt", "(II)I"⟩, 11), (⟨"RibbedLoansModel", "isAt", "(III)Z"⟩, 11), (⟨"RibbedLoansModel", "save", "()V"⟩, 11), (⟨"RibbedLoansModel", "goes", "(III)V"⟩, 11), (⟨"RibbedLoansModel", "spends", "(I)V"⟩, 11), (⟨"RibbedLoansModel", "whyBorrow", "(II)I"⟩, 11), (⟨"RibbedLoansModel", "canBorrow", "(I)Z"⟩, 11), (⟨"RibbedLoansModel", "bestOf", "(I)I"⟩, 11), (⟨"RibbedLoansModel", "isBroken", "(I)Z"⟩, 11), (⟨"RibbedLoansModel", "borrows", "(II)I"⟩, 11), (⟨"RibbedLoansModel", "whyBring", "(II)I"⟩, 11), (⟨"RibbedLoansModel", "brings", "(II)I"⟩, 11), (⟨"RibbedLoansModel", "fee", "(IZ)I"⟩, 11)]
theorem lw_r2 : ∀ q ∈ lw_privs_2, lw_okq q := List.forall_mem_cons.mpr ⟨lw_p16, List.forall_mem_cons.mpr ⟨lw_p17, List.forall_mem_cons.mpr ⟨lw_p18, List.forall_mem_cons.mpr ⟨lw_p19, List.forall_mem_cons.mpr ⟨lw_p20, List.forall_mem_cons.mpr ⟨lw_p21, List.forall_mem_cons.mpr ⟨lw_p22, List.forall_mem_cons.mpr ⟨lw_p23, List.forall_mem_cons.mpr ⟨lw_p24, List.forall_mem_cons.mpr ⟨lw_p25, List.forall_mem_cons.mpr ⟨lw_p26, List.forall_mem_cons.mpr ⟨lw_p27, List.forall_mem_cons.mpr ⟨lw_p28, List.forall_mem_cons.mpr ⟨lw_p29, List.forall_mem_cons.mpr ⟨lw_p30, List.forall_mem_cons.mpr ⟨lw_p31, fun _ h => absurd h List.not_mem_nil⟩⟩⟩⟩⟩⟩⟩⟩⟩⟩⟩⟩⟩⟩⟩⟩
theorem lw_p32 : lw_okq (⟨"RibbedLoansModel", "whyHour", "(II)I"⟩, 11) := ⟨⟨by decide +kernel, by decide +kernel⟩, List.mem_of_getElem? (i := 645) (by decide +kernel), List.mem_of_getElem? (i := 778) (by decide +kernel), List.mem_of_getElem? (i := 779) (by decide +kernel)⟩
theorem lw_p33 : lw_okq (⟨"RibbedLoansModel", "passes", "(II)I"⟩, 11) := ⟨⟨by decide +kernel, by decide +kernel⟩, List.mem_of_getElem? (i := 645) (by decide +kernel), List.mem_of_getElem? (i := 782) (by decide +kernel), List.mem_of_getElem? (i := 783) (by decide +kernel)⟩
theorem lw_p34 : lw_okq (⟨"RibbedLoansModel", "worstOf", "(I)I"⟩, 11) := ⟨⟨by decide +kernel, by decide +kernel⟩, List.mem_of_getElem? (i := 645) (by decide +kernel), List.mem_of_getElem? (i := 796) (by decide +kernel), List.mem_of_getElem? (i := 797) (by decide +kernel)⟩
theorem lw_p35 : lw_okq (⟨"RibbedLoansModel", "brokenAt", "(II)I"⟩, 11) := ⟨⟨by decide +kernel, by decide +kernel⟩, List.mem_of_getElem? (i := 645) (by decide +kernel), List.mem_of_getElem? (i := 804) (by decide +kernel), List.mem_of_getElem? (i := 805) (by decide +kernel)⟩
theorem lw_p36 : lw_okq (⟨"RibbedLoansModel", "leastInShop", "(I)I"⟩, 11) := ⟨⟨by decide +kernel, by decide +kernel⟩, List.mem_of_getElem? (i := 645) (by decide +kernel), List.mem_of_getElem? (i := 816) (by decide +kernel), List.mem_of_getElem? (i := 817) (by decide +kernel)⟩
theorem lw_p37 : lw_okq (⟨"RibbedLoansModel", "levels", "()I"⟩, 11) := ⟨⟨by decide +kernel, by decide +kernel⟩, List.mem_of_getElem? (i := 645) (by decide +kernel), List.mem_of_getElem? (i := 824) (by decide +kernel), List.mem_of_getElem? (i := 825) (by decide +kernel)⟩
theorem lw_p38 : lw_okq (⟨"RibbedLoansModel", "faultOf", "()I"⟩, 11) := ⟨⟨by decide +kernel, by decide +kernel⟩, List.mem_of_getElem? (i := 645) (by decide +kernel), List.mem_of_getElem? (i := 852) (by decide +kernel), List.mem_of_getElem? (i := 853) (by decide +kernel)⟩
theorem lw_p39 : lw_okq (⟨"RibbedLoansModel", "readOrder", "()Z"⟩, 11) := ⟨⟨by decide +kernel, by decide +kernel⟩, List.mem_of_getElem? (i := 645) (by decide +kernel), List.mem_of_getElem? (i := 856) (by decide +kernel), List.mem_of_getElem? (i := 857) (by decide +kernel)⟩
theorem lw_p40 : lw_okq (⟨"RibbedLoansModel", "here", "()I"⟩, 11) := ⟨⟨by decide +kernel, by decide +kernel⟩, List.mem_of_getElem? (i := 645) (by decide +kernel), List.mem_of_getElem? (i := 860) (by decide +kernel), List.mem_of_getElem? (i := 861) (by decide +kernel)⟩
theorem lw_p41 : lw_okq (⟨"RibbedLoansModel", "readNumber", "()Z"⟩, 11) := ⟨⟨by decide +kernel, by decide +kernel⟩, List.mem_of_getElem? (i := 645) (by decide +kernel), List.mem_of_getElem? (i := 864) (by decide +kernel), List.mem_of_getElem? (i := 865) (by decide +kernel)⟩
theorem lw_p42 : lw_okq (⟨"RibbedLoansModel", "passes", "(I)Z"⟩, 11) := ⟨⟨by decide +kernel, by decide +kernel⟩, List.mem_of_getElem? (i := 645) (by decide +kernel), List.mem_of_getElem? (i := 868) (by decide +kernel), List.mem_of_getElem? (i := 869) (by decide +kernel)⟩
theorem lw_p43 : lw_okq (⟨"RibbedLoansModel", "does", "()Z"⟩, 11) := ⟨⟨by decide +kernel, by decide +kernel⟩, List.mem_of_getElem? (i := 645) (by decide +kernel), List.mem_of_getElem? (i := 872) (by decide +kernel), List.mem_of_getElem? (i := 873) (by decide +kernel)⟩
theorem lw_p44 : lw_okq (⟨"RibbedLoansModel", "brokenOnes", "()I"⟩, 11) := ⟨⟨by decide +kernel, by decide +kernel⟩, List.mem_of_getElem? (i := 645) (by decide +kernel), List.mem_of_getElem? (i := 880) (by decide +kernel), List.mem_of_getElem? (i := 881) (by decide +kernel)⟩
theorem lw_p45 : lw_okq (⟨"RibbedLoansModel", "coinsOfPersons", "()I"⟩, 11) := ⟨⟨by decide +kernel, by decide +kernel⟩, List.mem_of_getElem? (i := 645) (by decide +kernel), List.mem_of_getElem? (i := 884) (by decide +kernel), List.mem_of_getElem? (i := 885) (by decide +kernel)⟩
theorem lw_p46 : lw_okq (⟨"RibbedLoansModel", "meanOf", "(I)I"⟩, 11) := ⟨⟨by decide +kernel, by decide +kernel⟩, List.mem_of_getElem? (i := 645) (by decide +kernel), List.mem_of_getElem? (i := 899) (by decide +kernel), List.mem_of_getElem? (i := 900) (by decide +kernel)⟩
theorem lw_p47 : lw_okq (⟨"RibbedLoansModel", "wanting", "(I)I"⟩, 11) := ⟨⟨by decide +kernel, by decide +kernel⟩, List.mem_of_getElem? (i := 645) (by decide +kernel), List.mem_of_getElem? (i := 927) (by decide +kernel), List.mem_of_getElem? (i := 928) (by decide +kernel)⟩
def lw_privs_3 : List (MethodName × Nat) := [(⟨"RibbedLoansModel", "whyHour", "(II)I"⟩, 11), (⟨"RibbedLoansModel", "passes", "(II)I"⟩, 11), (⟨"RibbedLoansModel", "worstOf", "(I)I"⟩, 11), (⟨"RibbedLoansModel", "brokenAt", "(II)I"⟩, 11), (⟨"RibbedLoansModel", "leastInShop", "(I)I"⟩, 11), (⟨"RibbedLoansModel", "levels", "()I"⟩, 11), (⟨"RibbedLoansModel", "faultOf", "()I"⟩, 11), (⟨"RibbedLoansModel", "readOrder", "()Z"⟩, 11), (⟨"RibbedLoansModel", "here", "()I"⟩, 11), (⟨"RibbedLoansModel", "readNumber", "()Z"⟩, 11), (⟨"RibbedLoansModel", "passes", "(I)Z"⟩, 11), (⟨"RibbedLoansModel", "does", "()Z"⟩, 11), (⟨"RibbedLoansModel", "brokenOnes", "()I"⟩, 11), (⟨"RibbedLoansModel", "coinsOfPersons", "()I"⟩, 11), (⟨"RibbedLoansModel", "meanOf", "(I)I"⟩, 11), (⟨"RibbedLoansModel", "wanting", "(I)I"⟩, 11)]
theorem lw_r3 : ∀ q ∈ lw_privs_3, lw_okq q := List.forall_mem_cons.mpr ⟨lw_p32, List.forall_mem_cons.mpr ⟨lw_p33, List.forall_mem_cons.mpr ⟨lw_p34, List.forall_mem_cons.mpr ⟨lw_p35, List.forall_mem_cons.mpr ⟨lw_p36, List.forall_mem_cons.mpr ⟨lw_p37, List.forall_mem_cons.mpr ⟨lw_p38, List.forall_mem_cons.mpr ⟨lw_p39, List.forall_mem_cons.mpr ⟨lw_p40, List.forall_mem_cons.mpr ⟨lw_p41, List.forall_mem_cons.mpr ⟨lw_p42, List.forall_mem_cons.mpr ⟨lw_p43, List.forall_mem_cons.mpr ⟨lw_p44, List.forall_mem_cons.mpr ⟨lw_p45, List.forall_mem_cons.mpr ⟨lw_p46, List.forall_mem_cons.mpr ⟨lw_p47, fun _ h => absurd h List.not_mem_nil⟩⟩⟩⟩⟩⟩⟩⟩⟩⟩⟩⟩⟩⟩⟩⟩
def lw_privs : List (MethodName × Nat) := lw_privs_1 ++ (lw_privs_2 ++ (lw_privs_3))
def lw_tbl : List Cond := k2_sels lw_privs ++ tables_1
theorem lw_privs_ok : ∀ q ∈ lw_privs, lw_okq q := by
  show ∀ q ∈ lw_privs_1 ++ (lw_privs_2 ++ (lw_privs_3)), lw_okq q
  exact List.forall_mem_append.mpr ⟨lw_r1, List.forall_mem_append.mpr ⟨lw_r2, lw_r3⟩⟩
end
section
def RX0 : String := "RibbedLoans$City"
def TX0 : u_T := fun k => match k with
  | 0 => ("RibbedLoans$City", "umbrellas", "LRibbedLoans$Umbrellas;", true)
  | 1 => ("RibbedLoans$City", "rooms", "LRibbedLoans$Row;", true)
  | 2 => ("RibbedLoans$City", "purses", "LRibbedLoans$Row;", true)
  | 3 => ("RibbedLoans$City", "showers", "LRibbedLoans$Row;", true)
  | 4 => ("RibbedLoans$City", "homes", "LRibbedLoans$Row;", true)
  | 5 => ("RibbedLoans$City", "paid", "LRibbedLoans$Row;", true)
  | 6 => ("RibbedLoans$City", "hours", "I", false)
  | 7 => ("RibbedLoans$City", "house", "I", false)
  | 8 => ("RibbedLoans$City", "spent", "I", false)
  | 9 => ("RibbedLoans$City", "loans", "I", false)
  | 10 => ("RibbedLoans$City", "surges", "I", false)
  | _ => ("RibbedLoans$City", "rate", "I", false)
def tyX0 : Nat → FieldType := fun k => match k with
  | 0 => .object "RibbedLoans$Umbrellas"
  | 1 => .object "RibbedLoans$Row"
  | 2 => .object "RibbedLoans$Row"
  | 3 => .object "RibbedLoans$Row"
  | 4 => .object "RibbedLoans$Row"
  | 5 => .object "RibbedLoans$Row"
  | 6 => .int
  | 7 => .int
  | 8 => .int
  | 9 => .int
  | 10 => .int
  | _ => .int
theorem nmX0 : ∀ a, a < 12 → ∀ b, b < 12 → a ≠ b → (TX0 a).2.1 ≠ (TX0 b).2.1 := by decide +kernel
theorem tyX0_ok : ∀ k, k < 12 → parseFieldDescriptor (TX0 k).2.2.1 = some (tyX0 k) := by decide +kernel
abbrev cX0_init : ByteArray := prog_2_method_1_code
def yX0_init : MethodName := ⟨RX0, "<init>", "()V"⟩
abbrev cX0_copyFrom : ByteArray := prog_2_method_2_code
def yX0_copyFrom : MethodName := ⟨RX0, "copyFrom", "(LRibbedLoans$City;)V"⟩
abbrev cX0_spendable : ByteArray := prog_2_method_3_code
def yX0_spendable : MethodName := ⟨RX0, "spendable", "()I"⟩
abbrev cX0_spend : ByteArray := prog_2_method_4_code
def yX0_spend : MethodName := ⟨RX0, "spend", "(I)V"⟩
abbrev cX0_freeAt : ByteArray := prog_2_method_5_code
def yX0_freeAt : MethodName := ⟨RX0, "freeAt", "(I)I"⟩
abbrev cX0_hasOne : ByteArray := prog_2_method_6_code
def yX0_hasOne : MethodName := ⟨RX0, "hasOne", "(I)Z"⟩
abbrev cX0_inHand : ByteArray := prog_2_method_7_code
def yX0_inHand : MethodName := ⟨RX0, "inHand", "(I)I"⟩
abbrev cX0_buyingError : ByteArray := prog_2_method_8_code
def yX0_buyingError : MethodName := ⟨RX0, "buyingError", "(II)I"⟩
abbrev cX0_purchase : ByteArray := prog_2_method_9_code
def yX0_purchase : MethodName := ⟨RX0, "purchase", "(II)I"⟩
abbrev cX0_settingError : ByteArray := prog_2_method_10_code
def yX0_settingError : MethodName := ⟨RX0, "settingError", "(II)I"⟩
abbrev cX0_change : ByteArray := prog_2_method_11_code
def yX0_change : MethodName := ⟨RX0, "change", "(II)I"⟩
abbrev cX0_lendingError : ByteArray := prog_2_method_12_code
def yX0_lendingError : MethodName := ⟨RX0, "lendingError", "(II)I"⟩
abbrev cX0_wouldBorrow : ByteArray := prog_2_method_13_code
def yX0_wouldBorrow : MethodName := ⟨RX0, "wouldBorrow", "(I)Z"⟩
abbrev cX0_lend : ByteArray := prog_2_method_14_code
def yX0_lend : MethodName := ⟨RX0, "lend", "(II)I"⟩
abbrev cX0_handOut : ByteArray := prog_2_method_15_code
def yX0_handOut : MethodName := ⟨RX0, "handOut", "(II)V"⟩
abbrev cX0_returningError : ByteArray := prog_2_method_16_code
def yX0_returningError : MethodName := ⟨RX0, "returningError", "(II)I"⟩
abbrev cX0_takeBack : ByteArray := prog_2_method_17_code
def yX0_takeBack : MethodName := ⟨RX0, "takeBack", "(II)I"⟩
abbrev cX0_feeAfter : ByteArray := prog_2_method_18_code
def yX0_feeAfter : MethodName := ⟨RX0, "feeAfter", "(III)I"⟩
abbrev cX0_hoursToBreak : ByteArray := prog_2_method_19_code
def yX0_hoursToBreak : MethodName := ⟨RX0, "hoursToBreak", "(III)I"⟩
abbrev cX0_passingError : ByteArray := prog_2_method_20_code
def yX0_passingError : MethodName := ⟨RX0, "passingError", "(II)I"⟩
abbrev cX0_passHour : ByteArray := prog_2_method_21_code
def yX0_passHour : MethodName := ⟨RX0, "passHour", "(II)I"⟩
abbrev cX0_countShower : ByteArray := prog_2_method_22_code
def yX0_countShower : MethodName := ⟨RX0, "countShower", "()V"⟩
abbrev cX0_wearDown : ByteArray := prog_2_method_23_code
def yX0_wearDown : MethodName := ⟨RX0, "wearDown", "(II)I"⟩
abbrev cX0_surge : ByteArray := prog_2_method_24_code
def yX0_surge : MethodName := ⟨RX0, "surge", "()V"⟩
abbrev cX0_lackAt : ByteArray := prog_2_method_25_code
def yX0_lackAt : MethodName := ⟨RX0, "lackAt", "(I)I"⟩
abbrev cX0_loadingError : ByteArray := prog_2_method_26_code
def yX0_loadingError : MethodName := ⟨RX0, "loadingError", "(III)I"⟩
abbrev cX0_fillVan : ByteArray := prog_2_method_27_code
def yX0_fillVan : MethodName := ⟨RX0, "fillVan", "(III)I"⟩
abbrev cX0_unloadingError : ByteArray := prog_2_method_28_code
def yX0_unloadingError : MethodName := ⟨RX0, "unloadingError", "(III)I"⟩
abbrev cX0_emptyVan : ByteArray := prog_2_method_29_code
def yX0_emptyVan : MethodName := ⟨RX0, "emptyVan", "(III)I"⟩
abbrev cX0_deliveringError : ByteArray := prog_2_method_30_code
def yX0_deliveringError : MethodName := ⟨RX0, "deliveringError", "(I)I"⟩
abbrev cX0_deliver : ByteArray := prog_2_method_31_code
def yX0_deliver : MethodName := ⟨RX0, "deliver", "(I)I"⟩
abbrev cX0_mendingError : ByteArray := prog_2_method_32_code
def yX0_mendingError : MethodName := ⟨RX0, "mendingError", "(I)I"⟩
abbrev cX0_mendOne : ByteArray := prog_2_method_33_code
def yX0_mendOne : MethodName := ⟨RX0, "mendOne", "(I)I"⟩
abbrev cX0_evenOut : ByteArray := prog_2_method_34_code
def yX0_evenOut : MethodName := ⟨RX0, "evenOut", "()I"⟩
abbrev cX0_fullest : ByteArray := prog_2_method_35_code
def yX0_fullest : MethodName := ⟨RX0, "fullest", "()I"⟩
abbrev cX0_emptiestWithRoom : ByteArray := prog_2_method_36_code
def yX0_emptiestWithRoom : MethodName := ⟨RX0, "emptiestWithRoom", "()I"⟩
def RX1 : String := "RibbedLoans$History"
def TX1 : u_T := fun k => match k with
  | 0 => ("RibbedLoans$History", "ring", "[LRibbedLoans$State;", true)
  | 1 => ("RibbedLoans$History", "next", "I", false)
  | _ => ("RibbedLoans$History", "size", "I", false)
def tyX1 : Nat → FieldType := fun k => match k with
  | 0 => .array (.object "RibbedLoans$State")
  | 1 => .int
  | _ => .int
theorem nmX1 : ∀ a, a < 3 → ∀ b, b < 3 → a ≠ b → (TX1 a).2.1 ≠ (TX1 b).2.1 := by decide +kernel
theorem tyX1_ok : ∀ k, k < 3 → parseFieldDescriptor (TX1 k).2.2.1 = some (tyX1 k) := by decide +kernel
abbrev cX1_init : ByteArray := prog_3_method_1_code
def yX1_init : MethodName := ⟨RX1, "<init>", "()V"⟩
abbrev cX1_record : ByteArray := prog_3_method_2_code
def yX1_record : MethodName := ⟨RX1, "record", "(LRibbedLoans$State;)V"⟩
abbrev cX1_moveLatestTo : ByteArray := prog_3_method_3_code
def yX1_moveLatestTo : MethodName := ⟨RX1, "moveLatestTo", "(LRibbedLoans$State;)V"⟩
def RX2 : String := "RibbedLoans$Row"
def TX2 : u_T := fun k => match k with
  | _ => ("RibbedLoans$Row", "cells", "[I", true)
def tyX2 : Nat → FieldType := fun k => match k with
  | _ => .array .int
theorem nmX2 : ∀ a, a < 1 → ∀ b, b < 1 → a ≠ b → (TX2 a).2.1 ≠ (TX2 b).2.1 := by decide +kernel
theorem tyX2_ok : ∀ k, k < 1 → parseFieldDescriptor (TX2 k).2.2.1 = some (tyX2 k) := by decide +kernel
abbrev cX2_init : ByteArray := prog_4_method_1_code
def yX2_init : MethodName := ⟨RX2, "<init>", "(II)V"⟩
abbrev cX2_at : ByteArray := prog_4_method_2_code
def yX2_at : MethodName := ⟨RX2, "at", "(I)I"⟩
abbrev cX2_put : ByteArray := prog_4_method_3_code
def yX2_put : MethodName := ⟨RX2, "put", "(II)V"⟩
abbrev cX2_add : ByteArray := prog_4_method_4_code
def yX2_add : MethodName := ⟨RX2, "add", "(II)V"⟩
abbrev cX2_sum : ByteArray := prog_4_method_5_code
def yX2_sum : MethodName := ⟨RX2, "sum", "()I"⟩
abbrev cX2_copyFrom : ByteArray := prog_4_method_6_code
def yX2_copyFrom : MethodName := ⟨RX2, "copyFrom", "(LRibbedLoans$Row;)V"⟩
def RX3 : String := "RibbedLoans$State"
def TX3 : u_T := fun k => match k with
  | 0 => ("RibbedLoans$State", "city", "LRibbedLoans$City;", true)
  | 1 => ("RibbedLoans$State", "snapshot0", "LRibbedLoans$City;", true)
  | 2 => ("RibbedLoans$State", "snapshot1", "LRibbedLoans$City;", true)
  | 3 => ("RibbedLoans$State", "kept0", "Z", false)
  | _ => ("RibbedLoans$State", "kept1", "Z", false)
def tyX3 : Nat → FieldType := fun k => match k with
  | 0 => .object "RibbedLoans$City"
  | 1 => .object "RibbedLoans$City"
  | 2 => .object "RibbedLoans$City"
  | 3 => .boolean
  | _ => .boolean
theorem nmX3 : ∀ a, a < 5 → ∀ b, b < 5 → a ≠ b → (TX3 a).2.1 ≠ (TX3 b).2.1 := by decide +kernel
theorem tyX3_ok : ∀ k, k < 5 → parseFieldDescriptor (TX3 k).2.2.1 = some (tyX3 k) := by decide +kernel
abbrev cX3_init : ByteArray := prog_5_method_1_code
def yX3_init : MethodName := ⟨RX3, "<init>", "()V"⟩
abbrev cX3_copyFrom : ByteArray := prog_5_method_2_code
def yX3_copyFrom : MethodName := ⟨RX3, "copyFrom", "(LRibbedLoans$State;)V"⟩
abbrev cX3_snapshot : ByteArray := prog_5_method_3_code
def yX3_snapshot : MethodName := ⟨RX3, "snapshot", "(I)LRibbedLoans$City;"⟩
abbrev cX3_isKept : ByteArray := prog_5_method_4_code
def yX3_isKept : MethodName := ⟨RX3, "isKept", "(I)Z"⟩
abbrev cX3_numberKept : ByteArray := prog_5_method_5_code
def yX3_numberKept : MethodName := ⟨RX3, "numberKept", "()I"⟩
abbrev cX3_keep : ByteArray := prog_5_method_6_code
def yX3_keep : MethodName := ⟨RX3, "keep", "(I)V"⟩
abbrev cX3_bringUp : ByteArray := prog_5_method_7_code
def yX3_bringUp : MethodName := ⟨RX3, "bringUp", "(I)V"⟩
def RX4 : String := "RibbedLoans$Text"
def TX4 : u_T := fun k => match k with
  | 0 => ("RibbedLoans$Text", "characters", "[C", true)
  | 1 => ("RibbedLoans$Text", "length", "I", false)
  | 2 => ("RibbedLoans$Text", "cursor", "I", false)
  | 3 => ("RibbedLoans$Text", "verb", "I", false)
  | 4 => ("RibbedLoans$Text", "first", "I", false)
  | _ => ("RibbedLoans$Text", "second", "I", false)
def tyX4 : Nat → FieldType := fun k => match k with
  | 0 => .array .char
  | 1 => .int
  | 2 => .int
  | 3 => .int
  | 4 => .int
  | _ => .int
theorem nmX4 : ∀ a, a < 6 → ∀ b, b < 6 → a ≠ b → (TX4 a).2.1 ≠ (TX4 b).2.1 := by decide +kernel
theorem tyX4_ok : ∀ k, k < 6 → parseFieldDescriptor (TX4 k).2.2.1 = some (tyX4 k) := by decide +kernel
abbrev cX4_init : ByteArray := prog_6_method_1_code
def yX4_init : MethodName := ⟨RX4, "<init>", "()V"⟩
abbrev cX4_add : ByteArray := prog_6_method_2_code
def yX4_add : MethodName := ⟨RX4, "add", "(I)V"⟩
abbrev cX4_fault : ByteArray := prog_6_method_3_code
def yX4_fault : MethodName := ⟨RX4, "fault", "()I"⟩
abbrev cX4_rewind : ByteArray := prog_6_method_4_code
def yX4_rewind : MethodName := ⟨RX4, "rewind", "()V"⟩
abbrev cX4_readOrder : ByteArray := prog_6_method_5_code
def yX4_readOrder : MethodName := ⟨RX4, "readOrder", "()Z"⟩
abbrev cX4_readNumbers : ByteArray := prog_6_method_6_code
def yX4_readNumbers : MethodName := ⟨RX4, "readNumbers", "(C)Z"⟩
abbrev cX4_readNumber : ByteArray := prog_6_method_7_code
def yX4_readNumber : MethodName := ⟨RX4, "readNumber", "()I"⟩
abbrev cX4_readDigit : ByteArray := prog_6_method_8_code
def yX4_readDigit : MethodName := ⟨RX4, "readDigit", "()I"⟩
abbrev cX4_accept : ByteArray := prog_6_method_9_code
def yX4_accept : MethodName := ⟨RX4, "accept", "(C)Z"⟩
abbrev cX4_peek : ByteArray := prog_6_method_10_code
def yX4_peek : MethodName := ⟨RX4, "peek", "()I"⟩
def RX5 : String := "RibbedLoans$Umbrellas"
def TX5 : u_T := fun k => match k with
  | 0 => ("RibbedLoans$Umbrellas", "spots", "LRibbedLoans$Row;", true)
  | 1 => ("RibbedLoans$Umbrellas", "wears", "LRibbedLoans$Row;", true)
  | 2 => ("RibbedLoans$Umbrellas", "lendings", "LRibbedLoans$Row;", true)
  | 3 => ("RibbedLoans$Umbrellas", "tally", "LRibbedLoans$Row;", true)
  | _ => ("RibbedLoans$Umbrellas", "number", "I", false)
def tyX5 : Nat → FieldType := fun k => match k with
  | 0 => .object "RibbedLoans$Row"
  | 1 => .object "RibbedLoans$Row"
  | 2 => .object "RibbedLoans$Row"
  | 3 => .object "RibbedLoans$Row"
  | _ => .int
theorem nmX5 : ∀ a, a < 5 → ∀ b, b < 5 → a ≠ b → (TX5 a).2.1 ≠ (TX5 b).2.1 := by decide +kernel
theorem tyX5_ok : ∀ k, k < 5 → parseFieldDescriptor (TX5 k).2.2.1 = some (tyX5 k) := by decide +kernel
abbrev cX5_init : ByteArray := prog_7_method_1_code
def yX5_init : MethodName := ⟨RX5, "<init>", "()V"⟩
abbrev cX5_copyFrom : ByteArray := prog_7_method_2_code
def yX5_copyFrom : MethodName := ⟨RX5, "copyFrom", "(LRibbedLoans$Umbrellas;)V"⟩
abbrev cX5_addNew : ByteArray := prog_7_method_3_code
def yX5_addNew : MethodName := ⟨RX5, "addNew", "(I)V"⟩
abbrev cX5_move : ByteArray := prog_7_method_4_code
def yX5_move : MethodName := ⟨RX5, "move", "(II)V"⟩
abbrev cX5_isBroken : ByteArray := prog_7_method_5_code
def yX5_isBroken : MethodName := ⟨RX5, "isBroken", "(I)Z"⟩
abbrev cX5_numberAt : ByteArray := prog_7_method_6_code
def yX5_numberAt : MethodName := ⟨RX5, "numberAt", "(I)I"⟩
abbrev cX5_numberOfKind : ByteArray := prog_7_method_7_code
def yX5_numberOfKind : MethodName := ⟨RX5, "numberOfKind", "(I)I"⟩
abbrev cX5_numberBroken : ByteArray := prog_7_method_8_code
def yX5_numberBroken : MethodName := ⟨RX5, "numberBroken", "()I"⟩
abbrev cX5_brokenAt : ByteArray := prog_7_method_9_code
def yX5_brokenAt : MethodName := ⟨RX5, "brokenAt", "(I)I"⟩
abbrev cX5_wholeAt : ByteArray := prog_7_method_10_code
def yX5_wholeAt : MethodName := ⟨RX5, "wholeAt", "(I)I"⟩
abbrev cX5_nthAt : ByteArray := prog_7_method_11_code
def yX5_nthAt : MethodName := ⟨RX5, "nthAt", "(II)I"⟩
abbrev cX5_leastWornAt : ByteArray := prog_7_method_12_code
def yX5_leastWornAt : MethodName := ⟨RX5, "leastWornAt", "(III)I"⟩
abbrev cX5_bestAt : ByteArray := prog_7_method_13_code
def yX5_bestAt : MethodName := ⟨RX5, "bestAt", "(I)I"⟩
abbrev cX5_worstAt : ByteArray := prog_7_method_14_code
def yX5_worstAt : MethodName := ⟨RX5, "worstAt", "(I)I"⟩
abbrev cX5_meanWearAt : ByteArray := prog_7_method_15_code
def yX5_meanWearAt : MethodName := ⟨RX5, "meanWearAt", "(I)I"⟩
def RX6 : String := "RibbedLoans"
def TX6 : u_T := fun k => match k with
  | 0 => ("RibbedLoans", "now", "LRibbedLoans$State;", true)
  | 1 => ("RibbedLoans", "history", "LRibbedLoans$History;", true)
  | _ => ("RibbedLoans", "text", "LRibbedLoans$Text;", true)
def tyX6 : Nat → FieldType := fun k => match k with
  | 0 => .object "RibbedLoans$State"
  | 1 => .object "RibbedLoans$History"
  | _ => .object "RibbedLoans$Text"
theorem nmX6 : ∀ a, a < 3 → ∀ b, b < 3 → a ≠ b → (TX6 a).2.1 ≠ (TX6 b).2.1 := by decide +kernel
theorem tyX6_ok : ∀ k, k < 3 → parseFieldDescriptor (TX6 k).2.2.1 = some (tyX6 k) := by decide +kernel
abbrev cX6_init : ByteArray := prog_1_method_1_code
def yX6_init : MethodName := ⟨RX6, "<init>", "()V"⟩
abbrev cX6_buy : ByteArray := prog_1_method_2_code
def yX6_buy : MethodName := ⟨RX6, "buy", "(II)I"⟩
abbrev cX6_set : ByteArray := prog_1_method_3_code
def yX6_set : MethodName := ⟨RX6, "set", "(II)I"⟩
abbrev cX6_borrow : ByteArray := prog_1_method_4_code
def yX6_borrow : MethodName := ⟨RX6, "borrow", "(II)I"⟩
abbrev cX6_bringBack : ByteArray := prog_1_method_5_code
def yX6_bringBack : MethodName := ⟨RX6, "bringBack", "(II)I"⟩
abbrev cX6_hour : ByteArray := prog_1_method_6_code
def yX6_hour : MethodName := ⟨RX6, "hour", "(II)I"⟩
abbrev cX6_load : ByteArray := prog_1_method_7_code
def yX6_load : MethodName := ⟨RX6, "load", "(III)I"⟩
abbrev cX6_unload : ByteArray := prog_1_method_8_code
def yX6_unload : MethodName := ⟨RX6, "unload", "(III)I"⟩
abbrev cX6_toWorkshop : ByteArray := prog_1_method_9_code
def yX6_toWorkshop : MethodName := ⟨RX6, "toWorkshop", "(I)I"⟩
abbrev cX6_mend : ByteArray := prog_1_method_10_code
def yX6_mend : MethodName := ⟨RX6, "mend", "(I)I"⟩
abbrev cX6_level : ByteArray := prog_1_method_11_code
def yX6_level : MethodName := ⟨RX6, "level", "()I"⟩
abbrev cX6_take : ByteArray := prog_1_method_12_code
def yX6_take : MethodName := ⟨RX6, "take", "(I)I"⟩
abbrev cX6_restore : ByteArray := prog_1_method_13_code
def yX6_restore : MethodName := ⟨RX6, "restore", "(I)I"⟩
abbrev cX6_undo : ByteArray := prog_1_method_14_code
def yX6_undo : MethodName := ⟨RX6, "undo", "()I"⟩
abbrev cX6_append : ByteArray := prog_1_method_15_code
def yX6_append : MethodName := ⟨RX6, "append", "(I)I"⟩
abbrev cX6_clearText : ByteArray := prog_1_method_16_code
def yX6_clearText : MethodName := ⟨RX6, "clearText", "()I"⟩
abbrev cX6_carryOut : ByteArray := prog_1_method_17_code
def yX6_carryOut : MethodName := ⟨RX6, "carryOut", "()I"⟩
abbrev cX6_obey : ByteArray := prog_1_method_18_code
def yX6_obey : MethodName := ⟨RX6, "obey", "()I"⟩
abbrev cX6_count : ByteArray := prog_1_method_19_code
def yX6_count : MethodName := ⟨RX6, "count", "(I)I"⟩
abbrev cX6_umbrella : ByteArray := prog_1_method_20_code
def yX6_umbrella : MethodName := ⟨RX6, "umbrella", "(II)I"⟩
abbrev cX6_stand : ByteArray := prog_1_method_21_code
def yX6_stand : MethodName := ⟨RX6, "stand", "(II)I"⟩
abbrev cX6_person : ByteArray := prog_1_method_22_code
def yX6_person : MethodName := ⟨RX6, "person", "(II)I"⟩
abbrev cX6_inVan : ByteArray := prog_1_method_23_code
def yX6_inVan : MethodName := ⟨RX6, "inVan", "(II)I"⟩
abbrev cX6_feeIn : ByteArray := prog_1_method_24_code
def yX6_feeIn : MethodName := ⟨RX6, "feeIn", "(III)I"⟩
abbrev cX6_breaksIn : ByteArray := prog_1_method_25_code
def yX6_breaksIn : MethodName := ⟨RX6, "breaksIn", "(III)I"⟩
abbrev cX6_emptied : ByteArray := prog_1_method_26_code
def yX6_emptied : MethodName := ⟨RX6, "emptied", "()I"⟩
abbrev cX6_shortest : ByteArray := prog_1_method_27_code
def yX6_shortest : MethodName := ⟨RX6, "shortest", "(I)I"⟩
abbrev cX6_outside : ByteArray := prog_1_method_28_code
def yX6_outside : MethodName := ⟨RX6, "outside", "(III)Z"⟩
abbrev cX6_kindOf : ByteArray := prog_1_method_29_code
def yX6_kindOf : MethodName := ⟨RX6, "kindOf", "(I)I"⟩
abbrev cX6_ownerOf : ByteArray := prog_1_method_30_code
def yX6_ownerOf : MethodName := ⟨RX6, "ownerOf", "(I)I"⟩
abbrev cX6_wornBy : ByteArray := prog_1_method_31_code
def yX6_wornBy : MethodName := ⟨RX6, "wornBy", "(III)I"⟩
def RX7 : String := "RibbedLoansModel"
def TX7 : u_T := fun k => match k with
  | 0 => ("RibbedLoansModel", "p", "[I", true)
  | 1 => ("RibbedLoansModel", "saved", "[I", true)
  | 2 => ("RibbedLoansModel", "aside", "[I", true)
  | 3 => ("RibbedLoansModel", "states", "I", false)
  | 4 => ("RibbedLoansModel", "text", "[I", true)
  | 5 => ("RibbedLoansModel", "length", "I", false)
  | 6 => ("RibbedLoansModel", "at", "I", false)
  | 7 => ("RibbedLoansModel", "letter", "I", false)
  | 8 => ("RibbedLoansModel", "one", "I", false)
  | 9 => ("RibbedLoansModel", "two", "I", false)
  | _ => ("RibbedLoansModel", "number", "I", false)
def tyX7 : Nat → FieldType := fun k => match k with
  | 0 => .array .int
  | 1 => .array .int
  | 2 => .array .int
  | 3 => .int
  | 4 => .array .int
  | 5 => .int
  | 6 => .int
  | 7 => .int
  | 8 => .int
  | 9 => .int
  | _ => .int
theorem nmX7 : ∀ a, a < 11 → ∀ b, b < 11 → a ≠ b → (TX7 a).2.1 ≠ (TX7 b).2.1 := by decide +kernel
theorem tyX7_ok : ∀ k, k < 11 → parseFieldDescriptor (TX7 k).2.2.1 = some (tyX7 k) := by decide +kernel
abbrev cX7_init : ByteArray := prog_9_method_1_code
def yX7_init : MethodName := ⟨RX7, "<init>", "()V"⟩
abbrev cX7_in : ByteArray := prog_9_method_3_code
def yX7_in : MethodName := ⟨RX7, "in", "(III)Z"⟩
abbrev cX7_isStand : ByteArray := prog_9_method_4_code
def yX7_isStand : MethodName := ⟨RX7, "isStand", "(I)Z"⟩
abbrev cX7_isPerson : ByteArray := prog_9_method_5_code
def yX7_isPerson : MethodName := ⟨RX7, "isPerson", "(I)Z"⟩
abbrev cX7_save : ByteArray := prog_9_method_6_code
def yX7_save : MethodName := ⟨RX7, "save", "()V"⟩
abbrev cX7_isAt : ByteArray := prog_9_method_7_code
def yX7_isAt : MethodName := ⟨RX7, "isAt", "(III)Z"⟩
abbrev cX7_manyAt : ByteArray := prog_9_method_8_code
def yX7_manyAt : MethodName := ⟨RX7, "manyAt", "(II)I"⟩
abbrev cX7_manyIn : ByteArray := prog_9_method_9_code
def yX7_manyIn : MethodName := ⟨RX7, "manyIn", "(I)I"⟩
abbrev cX7_isBroken : ByteArray := prog_9_method_10_code
def yX7_isBroken : MethodName := ⟨RX7, "isBroken", "(I)Z"⟩
abbrev cX7_brokenAt : ByteArray := prog_9_method_11_code
def yX7_brokenAt : MethodName := ⟨RX7, "brokenAt", "(II)I"⟩
abbrev cX7_goes : ByteArray := prog_9_method_12_code
def yX7_goes : MethodName := ⟨RX7, "goes", "(III)V"⟩
abbrev cX7_bestOf : ByteArray := prog_9_method_13_code
def yX7_bestOf : MethodName := ⟨RX7, "bestOf", "(I)I"⟩
abbrev cX7_worstOf : ByteArray := prog_9_method_14_code
def yX7_worstOf : MethodName := ⟨RX7, "worstOf", "(I)I"⟩
abbrev cX7_roomOf : ByteArray := prog_9_method_15_code
def yX7_roomOf : MethodName := ⟨RX7, "roomOf", "(I)I"⟩
abbrev cX7_canSpend : ByteArray := prog_9_method_16_code
def yX7_canSpend : MethodName := ⟨RX7, "canSpend", "(I)Z"⟩
abbrev cX7_spends : ByteArray := prog_9_method_17_code
def yX7_spends : MethodName := ⟨RX7, "spends", "(I)V"⟩
abbrev cX7_buy : ByteArray := prog_9_method_18_code
def yX7_buy : MethodName := ⟨RX7, "buy", "(II)I"⟩
abbrev cX7_set : ByteArray := prog_9_method_19_code
def yX7_set : MethodName := ⟨RX7, "set", "(II)I"⟩
abbrev cX7_canBorrow : ByteArray := prog_9_method_20_code
def yX7_canBorrow : MethodName := ⟨RX7, "canBorrow", "(I)Z"⟩
abbrev cX7_whyBorrow : ByteArray := prog_9_method_21_code
def yX7_whyBorrow : MethodName := ⟨RX7, "whyBorrow", "(II)I"⟩
abbrev cX7_borrows : ByteArray := prog_9_method_22_code
def yX7_borrows : MethodName := ⟨RX7, "borrows", "(II)I"⟩
abbrev cX7_borrow : ByteArray := prog_9_method_23_code
def yX7_borrow : MethodName := ⟨RX7, "borrow", "(II)I"⟩
abbrev cX7_fee : ByteArray := prog_9_method_24_code
def yX7_fee : MethodName := ⟨RX7, "fee", "(IZ)I"⟩
abbrev cX7_whyBring : ByteArray := prog_9_method_25_code
def yX7_whyBring : MethodName := ⟨RX7, "whyBring", "(II)I"⟩
abbrev cX7_brings : ByteArray := prog_9_method_26_code
def yX7_brings : MethodName := ⟨RX7, "brings", "(II)I"⟩
abbrev cX7_bringBack : ByteArray := prog_9_method_27_code
def yX7_bringBack : MethodName := ⟨RX7, "bringBack", "(II)I"⟩
abbrev cX7_worn : ByteArray := prog_9_method_28_code
def yX7_worn : MethodName := ⟨RX7, "worn", "(III)I"⟩
abbrev cX7_passes : ByteArray := prog_9_method_29_code
def yX7_passes : MethodName := ⟨RX7, "passes", "(II)I"⟩
abbrev cX7_whyHour : ByteArray := prog_9_method_30_code
def yX7_whyHour : MethodName := ⟨RX7, "whyHour", "(II)I"⟩
abbrev cX7_hour : ByteArray := prog_9_method_31_code
def yX7_hour : MethodName := ⟨RX7, "hour", "(II)I"⟩
abbrev cX7_isLoad : ByteArray := prog_9_method_32_code
def yX7_isLoad : MethodName := ⟨RX7, "isLoad", "(III)Z"⟩
abbrev cX7_load : ByteArray := prog_9_method_33_code
def yX7_load : MethodName := ⟨RX7, "load", "(III)I"⟩
abbrev cX7_unload : ByteArray := prog_9_method_34_code
def yX7_unload : MethodName := ⟨RX7, "unload", "(III)I"⟩
abbrev cX7_toWorkshop : ByteArray := prog_9_method_35_code
def yX7_toWorkshop : MethodName := ⟨RX7, "toWorkshop", "(I)I"⟩
abbrev cX7_leastInShop : ByteArray := prog_9_method_36_code
def yX7_leastInShop : MethodName := ⟨RX7, "leastInShop", "(I)I"⟩
abbrev cX7_mend : ByteArray := prog_9_method_37_code
def yX7_mend : MethodName := ⟨RX7, "mend", "(I)I"⟩
abbrev cX7_levels : ByteArray := prog_9_method_38_code
def yX7_levels : MethodName := ⟨RX7, "levels", "()I"⟩
abbrev cX7_level : ByteArray := prog_9_method_39_code
def yX7_level : MethodName := ⟨RX7, "level", "()I"⟩
abbrev cX7_take : ByteArray := prog_9_method_40_code
def yX7_take : MethodName := ⟨RX7, "take", "(I)I"⟩
abbrev cX7_restore : ByteArray := prog_9_method_41_code
def yX7_restore : MethodName := ⟨RX7, "restore", "(I)I"⟩
abbrev cX7_undo : ByteArray := prog_9_method_42_code
def yX7_undo : MethodName := ⟨RX7, "undo", "()I"⟩
abbrev cX7_append : ByteArray := prog_9_method_43_code
def yX7_append : MethodName := ⟨RX7, "append", "(I)I"⟩
abbrev cX7_clearText : ByteArray := prog_9_method_44_code
def yX7_clearText : MethodName := ⟨RX7, "clearText", "()I"⟩
abbrev cX7_here : ByteArray := prog_9_method_45_code
def yX7_here : MethodName := ⟨RX7, "here", "()I"⟩
abbrev cX7_passes_ : ByteArray := prog_9_method_46_code
def yX7_passes_ : MethodName := ⟨RX7, "passes", "(I)Z"⟩
abbrev cX7_readNumber : ByteArray := prog_9_method_47_code
def yX7_readNumber : MethodName := ⟨RX7, "readNumber", "()Z"⟩
abbrev cX7_readOrder : ByteArray := prog_9_method_48_code
def yX7_readOrder : MethodName := ⟨RX7, "readOrder", "()Z"⟩
abbrev cX7_faultOf : ByteArray := prog_9_method_49_code
def yX7_faultOf : MethodName := ⟨RX7, "faultOf", "()I"⟩
abbrev cX7_does : ByteArray := prog_9_method_50_code
def yX7_does : MethodName := ⟨RX7, "does", "()Z"⟩
abbrev cX7_carryOut : ByteArray := prog_9_method_51_code
def yX7_carryOut : MethodName := ⟨RX7, "carryOut", "()I"⟩
abbrev cX7_brokenOnes : ByteArray := prog_9_method_52_code
def yX7_brokenOnes : MethodName := ⟨RX7, "brokenOnes", "()I"⟩
abbrev cX7_coinsOfPersons : ByteArray := prog_9_method_53_code
def yX7_coinsOfPersons : MethodName := ⟨RX7, "coinsOfPersons", "()I"⟩
abbrev cX7_count : ByteArray := prog_9_method_54_code
def yX7_count : MethodName := ⟨RX7, "count", "(I)I"⟩
abbrev cX7_umbrella : ByteArray := prog_9_method_55_code
def yX7_umbrella : MethodName := ⟨RX7, "umbrella", "(II)I"⟩
abbrev cX7_told : ByteArray := prog_9_method_56_code
def yX7_told : MethodName := ⟨RX7, "told", "(I)I"⟩
abbrev cX7_meanOf : ByteArray := prog_9_method_57_code
def yX7_meanOf : MethodName := ⟨RX7, "meanOf", "(I)I"⟩
abbrev cX7_stand : ByteArray := prog_9_method_58_code
def yX7_stand : MethodName := ⟨RX7, "stand", "(II)I"⟩
abbrev cX7_person : ByteArray := prog_9_method_59_code
def yX7_person : MethodName := ⟨RX7, "person", "(II)I"⟩
abbrev cX7_inVan : ByteArray := prog_9_method_60_code
def yX7_inVan : MethodName := ⟨RX7, "inVan", "(II)I"⟩
abbrev cX7_feeIn : ByteArray := prog_9_method_61_code
def yX7_feeIn : MethodName := ⟨RX7, "feeIn", "(III)I"⟩
abbrev cX7_breaksIn : ByteArray := prog_9_method_62_code
def yX7_breaksIn : MethodName := ⟨RX7, "breaksIn", "(III)I"⟩
abbrev cX7_wanting : ByteArray := prog_9_method_63_code
def yX7_wanting : MethodName := ⟨RX7, "wanting", "(I)I"⟩
abbrev cX7_emptied : ByteArray := prog_9_method_64_code
def yX7_emptied : MethodName := ⟨RX7, "emptied", "()I"⟩
abbrev cX7_shortest : ByteArray := prog_9_method_65_code
def yX7_shortest : MethodName := ⟨RX7, "shortest", "(I)I"⟩
def RJ9 : String := "java/lang/Math"
abbrev cJ9_max_7cf53 : ByteArray := prog_10_method_65_code
def yJ9_max_7cf53 : MethodName := ⟨RJ9, "max", "(II)I"⟩
abbrev cJ9_min_7cf53 : ByteArray := prog_10_method_69_code
def yJ9_min_7cf53 : MethodName := ⟨RJ9, "min", "(II)I"⟩
def RJ10 : String := "java/lang/System"
def RJ7 : String := "java/util/Arrays"
abbrev cJ7_fill_53178 : ByteArray := prog_12_method_103_code
def yJ7_fill_53178 : MethodName := ⟨RJ7, "fill", "([II)V"⟩
def RL : String := "RibbedLoansLaw"
abbrev cL_law : ByteArray := code
def yL_law : MethodName := ⟨RL, "law", "([I)Z"⟩
abbrev vwCl : List vw_C := [(RX0, TX0, 12), (RX1, TX1, 3), (RX2, TX2, 1), (RX3, TX3, 5), (RX4, TX4, 6), (RX5, TX5, 5), (RX6, TX6, 3), (RX7, TX7, 11)]
def GW : List Cond := lw_tbl.filter goodWord
def mws (y : MethodName) (cc : ByteArray) (ml : Nat) (ret : Option FieldType) : List Cond := .code y cc ml ret :: GW
theorem gw_0 : Cond.selects RX0 yX0_spendable yX0_spendable ∈ GW := List.mem_filter.mpr ⟨List.mem_of_getElem? (i := 0) (by decide +kernel), rfl⟩
theorem gw_1 : Cond.selects RX0 yX0_freeAt yX0_freeAt ∈ GW := List.mem_filter.mpr ⟨List.mem_of_getElem? (i := 1) (by decide +kernel), rfl⟩
theorem gw_2 : Cond.selects RX0 yX0_spend yX0_spend ∈ GW := List.mem_filter.mpr ⟨List.mem_of_getElem? (i := 2) (by decide +kernel), rfl⟩
theorem gw_3 : Cond.selects RX0 yX0_wouldBorrow yX0_wouldBorrow ∈ GW := List.mem_filter.mpr ⟨List.mem_of_getElem? (i := 3) (by decide +kernel), rfl⟩
theorem gw_4 : Cond.selects RX0 yX0_handOut yX0_handOut ∈ GW := List.mem_filter.mpr ⟨List.mem_of_getElem? (i := 4) (by decide +kernel), rfl⟩
theorem gw_5 : Cond.selects RX0 yX0_countShower yX0_countShower ∈ GW := List.mem_filter.mpr ⟨List.mem_of_getElem? (i := 5) (by decide +kernel), rfl⟩
theorem gw_6 : Cond.selects RX0 yX0_wearDown yX0_wearDown ∈ GW := List.mem_filter.mpr ⟨List.mem_of_getElem? (i := 6) (by decide +kernel), rfl⟩
theorem gw_7 : Cond.selects RX0 yX0_surge yX0_surge ∈ GW := List.mem_filter.mpr ⟨List.mem_of_getElem? (i := 7) (by decide +kernel), rfl⟩
theorem gw_8 : Cond.selects RX0 yX0_fullest yX0_fullest ∈ GW := List.mem_filter.mpr ⟨List.mem_of_getElem? (i := 8) (by decide +kernel), rfl⟩
theorem gw_9 : Cond.selects RX0 yX0_emptiestWithRoom yX0_emptiestWithRoom ∈ GW := List.mem_filter.mpr ⟨List.mem_of_getElem? (i := 9) (by decide +kernel), rfl⟩
theorem gw_10 : Cond.selects RX3 yX3_snapshot yX3_snapshot ∈ GW := List.mem_filter.mpr ⟨List.mem_of_getElem? (i := 10) (by decide +kernel), rfl⟩
theorem gw_11 : Cond.selects RX4 yX4_peek yX4_peek ∈ GW := List.mem_filter.mpr ⟨List.mem_of_getElem? (i := 11) (by decide +kernel), rfl⟩
theorem gw_12 : Cond.selects RX4 yX4_readNumbers yX4_readNumbers ∈ GW := List.mem_filter.mpr ⟨List.mem_of_getElem? (i := 12) (by decide +kernel), rfl⟩
theorem gw_13 : Cond.selects RX4 yX4_readNumber yX4_readNumber ∈ GW := List.mem_filter.mpr ⟨List.mem_of_getElem? (i := 13) (by decide +kernel), rfl⟩
theorem gw_14 : Cond.selects RX4 yX4_readDigit yX4_readDigit ∈ GW := List.mem_filter.mpr ⟨List.mem_of_getElem? (i := 14) (by decide +kernel), rfl⟩
theorem gw_15 : Cond.selects RX6 yX6_obey yX6_obey ∈ GW := List.mem_filter.mpr ⟨List.mem_of_getElem? (i := 15) (by decide +kernel), rfl⟩
theorem gw_16 : Cond.selects RX7 yX7_canSpend yX7_canSpend ∈ GW := List.mem_filter.mpr ⟨List.mem_of_getElem? (i := 16) (by decide +kernel), rfl⟩
theorem gw_17 : Cond.selects RX7 yX7_manyIn yX7_manyIn ∈ GW := List.mem_filter.mpr ⟨List.mem_of_getElem? (i := 17) (by decide +kernel), rfl⟩
theorem gw_18 : Cond.selects RX7 yX7_roomOf yX7_roomOf ∈ GW := List.mem_filter.mpr ⟨List.mem_of_getElem? (i := 18) (by decide +kernel), rfl⟩
theorem gw_19 : Cond.selects RX7 yX7_manyAt yX7_manyAt ∈ GW := List.mem_filter.mpr ⟨List.mem_of_getElem? (i := 19) (by decide +kernel), rfl⟩
theorem gw_20 : Cond.selects RX7 yX7_isAt yX7_isAt ∈ GW := List.mem_filter.mpr ⟨List.mem_of_getElem? (i := 20) (by decide +kernel), rfl⟩
theorem gw_21 : Cond.selects RX7 yX7_save yX7_save ∈ GW := List.mem_filter.mpr ⟨List.mem_of_getElem? (i := 21) (by decide +kernel), rfl⟩
theorem gw_22 : Cond.selects RX7 yX7_goes yX7_goes ∈ GW := List.mem_filter.mpr ⟨List.mem_of_getElem? (i := 22) (by decide +kernel), rfl⟩
theorem gw_23 : Cond.selects RX7 yX7_spends yX7_spends ∈ GW := List.mem_filter.mpr ⟨List.mem_of_getElem? (i := 23) (by decide +kernel), rfl⟩
theorem gw_24 : Cond.selects RX7 yX7_whyBorrow yX7_whyBorrow ∈ GW := List.mem_filter.mpr ⟨List.mem_of_getElem? (i := 24) (by decide +kernel), rfl⟩
theorem gw_25 : Cond.selects RX7 yX7_canBorrow yX7_canBorrow ∈ GW := List.mem_filter.mpr ⟨List.mem_of_getElem? (i := 25) (by decide +kernel), rfl⟩
theorem gw_26 : Cond.selects RX7 yX7_bestOf yX7_bestOf ∈ GW := List.mem_filter.mpr ⟨List.mem_of_getElem? (i := 26) (by decide +kernel), rfl⟩
theorem gw_27 : Cond.selects RX7 yX7_isBroken yX7_isBroken ∈ GW := List.mem_filter.mpr ⟨List.mem_of_getElem? (i := 27) (by decide +kernel), rfl⟩
theorem gw_28 : Cond.selects RX7 yX7_borrows yX7_borrows ∈ GW := List.mem_filter.mpr ⟨List.mem_of_getElem? (i := 28) (by decide +kernel), rfl⟩
theorem gw_29 : Cond.selects RX7 yX7_whyBring yX7_whyBring ∈ GW := List.mem_filter.mpr ⟨List.mem_of_getElem? (i := 29) (by decide +kernel), rfl⟩
theorem gw_30 : Cond.selects RX7 yX7_brings yX7_brings ∈ GW := List.mem_filter.mpr ⟨List.mem_of_getElem? (i := 30) (by decide +kernel), rfl⟩
theorem gw_31 : Cond.selects RX7 yX7_fee yX7_fee ∈ GW := List.mem_filter.mpr ⟨List.mem_of_getElem? (i := 31) (by decide +kernel), rfl⟩
theorem gw_32 : Cond.selects RX7 yX7_whyHour yX7_whyHour ∈ GW := List.mem_filter.mpr ⟨List.mem_of_getElem? (i := 32) (by decide +kernel), rfl⟩
theorem gw_33 : Cond.selects RX7 yX7_passes yX7_passes ∈ GW := List.mem_filter.mpr ⟨List.mem_of_getElem? (i := 33) (by decide +kernel), rfl⟩
theorem gw_34 : Cond.selects RX7 yX7_worstOf yX7_worstOf ∈ GW := List.mem_filter.mpr ⟨List.mem_of_getElem? (i := 34) (by decide +kernel), rfl⟩
theorem gw_35 : Cond.selects RX7 yX7_brokenAt yX7_brokenAt ∈ GW := List.mem_filter.mpr ⟨List.mem_of_getElem? (i := 35) (by decide +kernel), rfl⟩
theorem gw_36 : Cond.selects RX7 yX7_leastInShop yX7_leastInShop ∈ GW := List.mem_filter.mpr ⟨List.mem_of_getElem? (i := 36) (by decide +kernel), rfl⟩
theorem gw_37 : Cond.selects RX7 yX7_levels yX7_levels ∈ GW := List.mem_filter.mpr ⟨List.mem_of_getElem? (i := 37) (by decide +kernel), rfl⟩
theorem gw_38 : Cond.selects RX7 yX7_faultOf yX7_faultOf ∈ GW := List.mem_filter.mpr ⟨List.mem_of_getElem? (i := 38) (by decide +kernel), rfl⟩
theorem gw_39 : Cond.selects RX7 yX7_readOrder yX7_readOrder ∈ GW := List.mem_filter.mpr ⟨List.mem_of_getElem? (i := 39) (by decide +kernel), rfl⟩
theorem gw_40 : Cond.selects RX7 yX7_here yX7_here ∈ GW := List.mem_filter.mpr ⟨List.mem_of_getElem? (i := 40) (by decide +kernel), rfl⟩
theorem gw_41 : Cond.selects RX7 yX7_readNumber yX7_readNumber ∈ GW := List.mem_filter.mpr ⟨List.mem_of_getElem? (i := 41) (by decide +kernel), rfl⟩
theorem gw_42 : Cond.selects RX7 yX7_passes_ yX7_passes_ ∈ GW := List.mem_filter.mpr ⟨List.mem_of_getElem? (i := 42) (by decide +kernel), rfl⟩
theorem gw_43 : Cond.selects RX7 yX7_does yX7_does ∈ GW := List.mem_filter.mpr ⟨List.mem_of_getElem? (i := 43) (by decide +kernel), rfl⟩
theorem gw_44 : Cond.selects RX7 yX7_brokenOnes yX7_brokenOnes ∈ GW := List.mem_filter.mpr ⟨List.mem_of_getElem? (i := 44) (by decide +kernel), rfl⟩
theorem gw_45 : Cond.selects RX7 yX7_coinsOfPersons yX7_coinsOfPersons ∈ GW := List.mem_filter.mpr ⟨List.mem_of_getElem? (i := 45) (by decide +kernel), rfl⟩
theorem gw_46 : Cond.selects RX7 yX7_meanOf yX7_meanOf ∈ GW := List.mem_filter.mpr ⟨List.mem_of_getElem? (i := 46) (by decide +kernel), rfl⟩
theorem gw_47 : Cond.selects RX7 yX7_wanting yX7_wanting ∈ GW := List.mem_filter.mpr ⟨List.mem_of_getElem? (i := 47) (by decide +kernel), rfl⟩
theorem gw_48 : Cond.initialized "RibbedLoansLaw" ∈ GW := List.mem_filter.mpr ⟨List.mem_of_getElem? (i := 48) (by decide +kernel), rfl⟩
theorem gw_49 : Cond.initialized RX6 ∈ GW := List.mem_filter.mpr ⟨List.mem_of_getElem? (i := 49) (by decide +kernel), rfl⟩
theorem gw_50 : Cond.initialized RX3 ∈ GW := List.mem_filter.mpr ⟨List.mem_of_getElem? (i := 50) (by decide +kernel), rfl⟩
theorem gw_51 : Cond.initialized RX0 ∈ GW := List.mem_filter.mpr ⟨List.mem_of_getElem? (i := 51) (by decide +kernel), rfl⟩
theorem gw_52 : Cond.initialized RX5 ∈ GW := List.mem_filter.mpr ⟨List.mem_of_getElem? (i := 52) (by decide +kernel), rfl⟩
theorem gw_53 : Cond.initialized RX2 ∈ GW := List.mem_filter.mpr ⟨List.mem_of_getElem? (i := 53) (by decide +kernel), rfl⟩
theorem gw_54 : Cond.initialized "java/lang/Math" ∈ GW := List.mem_filter.mpr ⟨List.mem_of_getElem? (i := 54) (by decide +kernel), rfl⟩
theorem gw_55 : Cond.initialized RJ7 ∈ GW := List.mem_filter.mpr ⟨List.mem_of_getElem? (i := 55) (by decide +kernel), rfl⟩
theorem gw_56 : Cond.initialized RX1 ∈ GW := List.mem_filter.mpr ⟨List.mem_of_getElem? (i := 56) (by decide +kernel), rfl⟩
theorem gw_57 : Cond.initialized RX4 ∈ GW := List.mem_filter.mpr ⟨List.mem_of_getElem? (i := 57) (by decide +kernel), rfl⟩
theorem gw_58 : Cond.initialized RX7 ∈ GW := List.mem_filter.mpr ⟨List.mem_of_getElem? (i := 58) (by decide +kernel), rfl⟩
theorem gw_59 : Cond.initialized "java/lang/System" ∈ GW := List.mem_filter.mpr ⟨List.mem_of_getElem? (i := 59) (by decide +kernel), rfl⟩
theorem gw_60 : Cond.classLink "RibbedLoansLaw" 7 RX6 ∈ GW := List.mem_filter.mpr ⟨List.mem_of_getElem? (i := 60) (by decide +kernel), rfl⟩
theorem gw_61 : Cond.instantiable RX6 3 ∈ GW := List.mem_filter.mpr ⟨List.mem_of_getElem? (i := 61) (by decide +kernel), rfl⟩
theorem gw_62 : Cond.methodLink "RibbedLoansLaw" 9 yX6_init ∈ GW := List.mem_filter.mpr ⟨List.mem_of_getElem? (i := 62) (by decide +kernel), rfl⟩
theorem gw_63 : Cond.instanceMethod yX6_init ∈ GW := List.mem_filter.mpr ⟨List.mem_of_getElem? (i := 63) (by decide +kernel), rfl⟩
theorem gw_64 : Cond.code yX6_init cX6_init 1 none ∈ GW := List.mem_filter.mpr ⟨List.mem_of_getElem? (i := 64) rfl, rfl⟩
theorem gw_65 : Cond.methodLink RX6 3 objectInit ∈ GW := List.mem_filter.mpr ⟨List.mem_of_getElem? (i := 65) (by decide +kernel), rfl⟩
theorem gw_66 : Cond.instanceMethod objectInit ∈ GW := List.mem_filter.mpr ⟨List.mem_of_getElem? (i := 66) (by decide +kernel), rfl⟩
theorem gw_67 : Cond.code objectInit ⟨#[0xb1]⟩ 1 none ∈ GW := List.mem_filter.mpr ⟨List.mem_of_getElem? (i := 67) rfl, rfl⟩
theorem gw_68 : Cond.classLink RX6 9 RX3 ∈ GW := List.mem_filter.mpr ⟨List.mem_of_getElem? (i := 68) (by decide +kernel), rfl⟩
theorem gw_69 : Cond.instantiable RX3 5 ∈ GW := List.mem_filter.mpr ⟨List.mem_of_getElem? (i := 69) (by decide +kernel), rfl⟩
theorem gw_71 : Cond.instanceMethod yX3_init ∈ GW := List.mem_filter.mpr ⟨List.mem_of_getElem? (i := 71) (by decide +kernel), rfl⟩
theorem gw_72 : Cond.code yX3_init cX3_init 1 none ∈ GW := List.mem_filter.mpr ⟨List.mem_of_getElem? (i := 72) rfl, rfl⟩
theorem gw_73 : Cond.methodLink RX3 1 objectInit ∈ GW := List.mem_filter.mpr ⟨List.mem_of_getElem? (i := 73) (by decide +kernel), rfl⟩
theorem gw_74 : Cond.classLink RX3 7 RX0 ∈ GW := List.mem_filter.mpr ⟨List.mem_of_getElem? (i := 74) (by decide +kernel), rfl⟩
theorem gw_75 : Cond.instantiable RX0 12 ∈ GW := List.mem_filter.mpr ⟨List.mem_of_getElem? (i := 75) (by decide +kernel), rfl⟩
theorem gw_76 : Cond.methodLink RX3 9 yX0_init ∈ GW := List.mem_filter.mpr ⟨List.mem_of_getElem? (i := 76) (by decide +kernel), rfl⟩
theorem gw_77 : Cond.instanceMethod yX0_init ∈ GW := List.mem_filter.mpr ⟨List.mem_of_getElem? (i := 77) (by decide +kernel), rfl⟩
theorem gw_78 : Cond.code yX0_init cX0_init 2 none ∈ GW := List.mem_filter.mpr ⟨List.mem_of_getElem? (i := 78) rfl, rfl⟩
theorem gw_79 : Cond.methodLink RX0 3 objectInit ∈ GW := List.mem_filter.mpr ⟨List.mem_of_getElem? (i := 79) (by decide +kernel), rfl⟩
theorem gw_80 : Cond.classLink RX0 9 RX5 ∈ GW := List.mem_filter.mpr ⟨List.mem_of_getElem? (i := 80) (by decide +kernel), rfl⟩
theorem gw_81 : Cond.instantiable RX5 5 ∈ GW := List.mem_filter.mpr ⟨List.mem_of_getElem? (i := 81) (by decide +kernel), rfl⟩
theorem gw_83 : Cond.instanceMethod yX5_init ∈ GW := List.mem_filter.mpr ⟨List.mem_of_getElem? (i := 83) (by decide +kernel), rfl⟩
theorem gw_84 : Cond.code yX5_init cX5_init 1 none ∈ GW := List.mem_filter.mpr ⟨List.mem_of_getElem? (i := 84) rfl, rfl⟩
theorem gw_85 : Cond.methodLink RX5 3 objectInit ∈ GW := List.mem_filter.mpr ⟨List.mem_of_getElem? (i := 85) (by decide +kernel), rfl⟩
theorem gw_86 : Cond.classLink RX5 9 RX2 ∈ GW := List.mem_filter.mpr ⟨List.mem_of_getElem? (i := 86) (by decide +kernel), rfl⟩
theorem gw_87 : Cond.instantiable RX2 1 ∈ GW := List.mem_filter.mpr ⟨List.mem_of_getElem? (i := 87) (by decide +kernel), rfl⟩
theorem gw_88 : Cond.methodLink RX5 11 yX2_init ∈ GW := List.mem_filter.mpr ⟨List.mem_of_getElem? (i := 88) (by decide +kernel), rfl⟩
theorem gw_89 : Cond.instanceMethod yX2_init ∈ GW := List.mem_filter.mpr ⟨List.mem_of_getElem? (i := 89) (by decide +kernel), rfl⟩
theorem gw_90 : Cond.code yX2_init cX2_init 3 none ∈ GW := List.mem_filter.mpr ⟨List.mem_of_getElem? (i := 90) rfl, rfl⟩
theorem gw_91 : Cond.methodLink RX2 1 objectInit ∈ GW := List.mem_filter.mpr ⟨List.mem_of_getElem? (i := 91) (by decide +kernel), rfl⟩
theorem gw_92 : Cond.methodLink RX2 7 Lib.Math.max.name ∈ GW := List.mem_filter.mpr ⟨List.mem_of_getElem? (i := 92) (by decide +kernel), rfl⟩
theorem gw_93 : Cond.static Lib.Math.max.name ∈ GW := List.mem_filter.mpr ⟨List.mem_of_getElem? (i := 93) (by decide +kernel), rfl⟩
theorem gw_94 : Cond.code Lib.Math.max.name Lib.Math.max.code 2 (some .int) ∈ GW := List.mem_filter.mpr ⟨List.mem_of_getElem? (i := 94) rfl, rfl⟩
theorem gw_95 : Cond.methodLink RX2 19 yJ7_fill_53178 ∈ GW := List.mem_filter.mpr ⟨List.mem_of_getElem? (i := 95) (by decide +kernel), rfl⟩
theorem gw_96 : Cond.static yJ7_fill_53178 ∈ GW := List.mem_filter.mpr ⟨List.mem_of_getElem? (i := 96) (by decide +kernel), rfl⟩
theorem gw_97 : Cond.code yJ7_fill_53178 cJ7_fill_53178 4 none ∈ GW := List.mem_filter.mpr ⟨List.mem_of_getElem? (i := 97) rfl, rfl⟩
theorem gw_98 : Cond.fieldLink RX2 13 RX2 "cells" "[I" ∈ GW := List.mem_filter.mpr ⟨List.mem_of_getElem? (i := 98) (by decide +kernel), rfl⟩
theorem gw_102 : Cond.arrayClass .int ∈ GW := List.mem_filter.mpr ⟨List.mem_of_getElem? (i := 102) (by decide +kernel), rfl⟩
theorem gw_103 : Cond.fieldLink RX5 14 RX5 "spots" "LRibbedLoans$Row;" ∈ GW := List.mem_filter.mpr ⟨List.mem_of_getElem? (i := 103) (by decide +kernel), rfl⟩
theorem gw_106 : Cond.fieldLink RX5 20 RX5 "wears" "LRibbedLoans$Row;" ∈ GW := List.mem_filter.mpr ⟨List.mem_of_getElem? (i := 106) (by decide +kernel), rfl⟩
theorem gw_109 : Cond.fieldLink RX5 23 RX5 "lendings" "LRibbedLoans$Row;" ∈ GW := List.mem_filter.mpr ⟨List.mem_of_getElem? (i := 109) (by decide +kernel), rfl⟩
theorem gw_112 : Cond.fieldLink RX5 26 RX5 "tally" "LRibbedLoans$Row;" ∈ GW := List.mem_filter.mpr ⟨List.mem_of_getElem? (i := 112) (by decide +kernel), rfl⟩
theorem gw_113 : Cond.fieldLink RX5 33 RX5 "number" "I" ∈ GW := List.mem_filter.mpr ⟨List.mem_of_getElem? (i := 113) (by decide +kernel), rfl⟩
theorem gw_127 : Cond.classLink RX0 18 RX2 ∈ GW := List.mem_filter.mpr ⟨List.mem_of_getElem? (i := 127) (by decide +kernel), rfl⟩
theorem gw_128 : Cond.methodLink RX0 20 yX2_init ∈ GW := List.mem_filter.mpr ⟨List.mem_of_getElem? (i := 128) (by decide +kernel), rfl⟩
theorem gw_129 : Cond.methodLink RX0 46 yX2_put ∈ GW := List.mem_filter.mpr ⟨List.mem_of_getElem? (i := 129) (by decide +kernel), rfl⟩
theorem gw_130 : Cond.instanceMethod yX2_put ∈ GW := List.mem_filter.mpr ⟨List.mem_of_getElem? (i := 130) (by decide +kernel), rfl⟩
theorem gw_131 : Cond.selects RX2 yX2_put yX2_put ∈ GW := List.mem_filter.mpr ⟨List.mem_of_getElem? (i := 131) (by decide +kernel), rfl⟩
theorem gw_132 : Cond.code yX2_put cX2_put 3 none ∈ GW := List.mem_filter.mpr ⟨List.mem_of_getElem? (i := 132) rfl, rfl⟩
theorem gw_133 : Cond.fieldLink RX0 12 RX0 "umbrellas" "LRibbedLoans$Umbrellas;" ∈ GW := List.mem_filter.mpr ⟨List.mem_of_getElem? (i := 133) (by decide +kernel), rfl⟩
theorem gw_135 : Cond.fieldLink RX0 23 RX0 "rooms" "LRibbedLoans$Row;" ∈ GW := List.mem_filter.mpr ⟨List.mem_of_getElem? (i := 135) (by decide +kernel), rfl⟩
theorem gw_137 : Cond.fieldLink RX0 27 RX0 "purses" "LRibbedLoans$Row;" ∈ GW := List.mem_filter.mpr ⟨List.mem_of_getElem? (i := 137) (by decide +kernel), rfl⟩
theorem gw_139 : Cond.fieldLink RX0 30 RX0 "showers" "LRibbedLoans$Row;" ∈ GW := List.mem_filter.mpr ⟨List.mem_of_getElem? (i := 139) (by decide +kernel), rfl⟩
theorem gw_141 : Cond.fieldLink RX0 33 RX0 "homes" "LRibbedLoans$Row;" ∈ GW := List.mem_filter.mpr ⟨List.mem_of_getElem? (i := 141) (by decide +kernel), rfl⟩
theorem gw_143 : Cond.fieldLink RX0 36 RX0 "paid" "LRibbedLoans$Row;" ∈ GW := List.mem_filter.mpr ⟨List.mem_of_getElem? (i := 143) (by decide +kernel), rfl⟩
theorem gw_145 : Cond.fieldLink RX0 56 RX0 "hours" "I" ∈ GW := List.mem_filter.mpr ⟨List.mem_of_getElem? (i := 145) (by decide +kernel), rfl⟩
theorem gw_147 : Cond.fieldLink RX0 39 RX0 "house" "I" ∈ GW := List.mem_filter.mpr ⟨List.mem_of_getElem? (i := 147) (by decide +kernel), rfl⟩
theorem gw_149 : Cond.fieldLink RX0 59 RX0 "spent" "I" ∈ GW := List.mem_filter.mpr ⟨List.mem_of_getElem? (i := 149) (by decide +kernel), rfl⟩
theorem gw_151 : Cond.fieldLink RX0 62 RX0 "loans" "I" ∈ GW := List.mem_filter.mpr ⟨List.mem_of_getElem? (i := 151) (by decide +kernel), rfl⟩
theorem gw_153 : Cond.fieldLink RX0 65 RX0 "surges" "I" ∈ GW := List.mem_filter.mpr ⟨List.mem_of_getElem? (i := 153) (by decide +kernel), rfl⟩
theorem gw_155 : Cond.fieldLink RX0 43 RX0 "rate" "I" ∈ GW := List.mem_filter.mpr ⟨List.mem_of_getElem? (i := 155) (by decide +kernel), rfl⟩
theorem gw_182 : Cond.fieldLink RX3 10 RX3 "city" "LRibbedLoans$City;" ∈ GW := List.mem_filter.mpr ⟨List.mem_of_getElem? (i := 182) (by decide +kernel), rfl⟩
theorem gw_184 : Cond.fieldLink RX3 16 RX3 "snapshot0" "LRibbedLoans$City;" ∈ GW := List.mem_filter.mpr ⟨List.mem_of_getElem? (i := 184) (by decide +kernel), rfl⟩
theorem gw_185 : Cond.fieldLink RX3 19 RX3 "snapshot1" "LRibbedLoans$City;" ∈ GW := List.mem_filter.mpr ⟨List.mem_of_getElem? (i := 185) (by decide +kernel), rfl⟩
theorem gw_186 : Cond.fieldLink RX3 26 RX3 "kept0" "Z" ∈ GW := List.mem_filter.mpr ⟨List.mem_of_getElem? (i := 186) (by decide +kernel), rfl⟩
theorem gw_187 : Cond.fieldLink RX3 30 RX3 "kept1" "Z" ∈ GW := List.mem_filter.mpr ⟨List.mem_of_getElem? (i := 187) (by decide +kernel), rfl⟩
theorem gw_199 : Cond.classLink RX6 16 RX1 ∈ GW := List.mem_filter.mpr ⟨List.mem_of_getElem? (i := 199) (by decide +kernel), rfl⟩
theorem gw_200 : Cond.instantiable RX1 3 ∈ GW := List.mem_filter.mpr ⟨List.mem_of_getElem? (i := 200) (by decide +kernel), rfl⟩
theorem gw_201 : Cond.methodLink RX6 18 yX1_init ∈ GW := List.mem_filter.mpr ⟨List.mem_of_getElem? (i := 201) (by decide +kernel), rfl⟩
theorem gw_202 : Cond.instanceMethod yX1_init ∈ GW := List.mem_filter.mpr ⟨List.mem_of_getElem? (i := 202) (by decide +kernel), rfl⟩
theorem gw_203 : Cond.code yX1_init cX1_init 2 none ∈ GW := List.mem_filter.mpr ⟨List.mem_of_getElem? (i := 203) rfl, rfl⟩
theorem gw_204 : Cond.methodLink RX1 3 objectInit ∈ GW := List.mem_filter.mpr ⟨List.mem_of_getElem? (i := 204) (by decide +kernel), rfl⟩
theorem gw_205 : Cond.classLink RX1 9 RX3 ∈ GW := List.mem_filter.mpr ⟨List.mem_of_getElem? (i := 205) (by decide +kernel), rfl⟩
theorem gw_208 : Cond.fieldLink RX1 11 RX1 "ring" "[LRibbedLoans$State;" ∈ GW := List.mem_filter.mpr ⟨List.mem_of_getElem? (i := 208) (by decide +kernel), rfl⟩
theorem gw_209 : Cond.fieldLink RX1 18 RX1 "next" "I" ∈ GW := List.mem_filter.mpr ⟨List.mem_of_getElem? (i := 209) (by decide +kernel), rfl⟩
theorem gw_210 : Cond.fieldLink RX1 26 RX1 "size" "I" ∈ GW := List.mem_filter.mpr ⟨List.mem_of_getElem? (i := 210) (by decide +kernel), rfl⟩
theorem gw_219 : Cond.classLink RX6 23 RX4 ∈ GW := List.mem_filter.mpr ⟨List.mem_of_getElem? (i := 219) (by decide +kernel), rfl⟩
theorem gw_220 : Cond.instantiable RX4 6 ∈ GW := List.mem_filter.mpr ⟨List.mem_of_getElem? (i := 220) (by decide +kernel), rfl⟩
theorem gw_222 : Cond.instanceMethod yX4_init ∈ GW := List.mem_filter.mpr ⟨List.mem_of_getElem? (i := 222) (by decide +kernel), rfl⟩
theorem gw_223 : Cond.code yX4_init cX4_init 1 none ∈ GW := List.mem_filter.mpr ⟨List.mem_of_getElem? (i := 223) rfl, rfl⟩
theorem gw_224 : Cond.methodLink RX4 3 objectInit ∈ GW := List.mem_filter.mpr ⟨List.mem_of_getElem? (i := 224) (by decide +kernel), rfl⟩
theorem gw_225 : Cond.fieldLink RX4 9 RX4 "characters" "[C" ∈ GW := List.mem_filter.mpr ⟨List.mem_of_getElem? (i := 225) (by decide +kernel), rfl⟩
theorem gw_226 : Cond.fieldLink RX4 15 RX4 "length" "I" ∈ GW := List.mem_filter.mpr ⟨List.mem_of_getElem? (i := 226) (by decide +kernel), rfl⟩
theorem gw_228 : Cond.fieldLink RX4 26 RX4 "cursor" "I" ∈ GW := List.mem_filter.mpr ⟨List.mem_of_getElem? (i := 228) (by decide +kernel), rfl⟩
theorem gw_229 : Cond.fieldLink RX4 37 RX4 "verb" "I" ∈ GW := List.mem_filter.mpr ⟨List.mem_of_getElem? (i := 229) (by decide +kernel), rfl⟩
theorem gw_231 : Cond.fieldLink RX4 46 RX4 "first" "I" ∈ GW := List.mem_filter.mpr ⟨List.mem_of_getElem? (i := 231) (by decide +kernel), rfl⟩
theorem gw_233 : Cond.fieldLink RX4 49 RX4 "second" "I" ∈ GW := List.mem_filter.mpr ⟨List.mem_of_getElem? (i := 233) (by decide +kernel), rfl⟩
theorem gw_248 : Cond.arrayClass .char ∈ GW := List.mem_filter.mpr ⟨List.mem_of_getElem? (i := 248) (by decide +kernel), rfl⟩
theorem gw_249 : Cond.fieldLink RX6 12 RX6 "now" "LRibbedLoans$State;" ∈ GW := List.mem_filter.mpr ⟨List.mem_of_getElem? (i := 249) (by decide +kernel), rfl⟩
theorem gw_250 : Cond.fieldLink RX6 19 RX6 "history" "LRibbedLoans$History;" ∈ GW := List.mem_filter.mpr ⟨List.mem_of_getElem? (i := 250) (by decide +kernel), rfl⟩
theorem gw_251 : Cond.fieldLink RX6 26 RX6 "text" "LRibbedLoans$Text;" ∈ GW := List.mem_filter.mpr ⟨List.mem_of_getElem? (i := 251) (by decide +kernel), rfl⟩
theorem gw_259 : Cond.methodLink "RibbedLoansLaw" 13 yX6_buy ∈ GW := List.mem_filter.mpr ⟨List.mem_of_getElem? (i := 259) (by decide +kernel), rfl⟩
theorem gw_260 : Cond.instanceMethod yX6_buy ∈ GW := List.mem_filter.mpr ⟨List.mem_of_getElem? (i := 260) (by decide +kernel), rfl⟩
theorem gw_261 : Cond.selects RX6 yX6_buy yX6_buy ∈ GW := List.mem_filter.mpr ⟨List.mem_of_getElem? (i := 261) (by decide +kernel), rfl⟩
theorem gw_262 : Cond.code yX6_buy cX6_buy 4 (some .int) ∈ GW := List.mem_filter.mpr ⟨List.mem_of_getElem? (i := 262) rfl, rfl⟩
theorem gw_263 : Cond.methodLink RX6 34 yX0_buyingError ∈ GW := List.mem_filter.mpr ⟨List.mem_of_getElem? (i := 263) (by decide +kernel), rfl⟩
theorem gw_264 : Cond.instanceMethod yX0_buyingError ∈ GW := List.mem_filter.mpr ⟨List.mem_of_getElem? (i := 264) (by decide +kernel), rfl⟩
theorem gw_265 : Cond.selects RX0 yX0_buyingError yX0_buyingError ∈ GW := List.mem_filter.mpr ⟨List.mem_of_getElem? (i := 265) (by decide +kernel), rfl⟩
theorem gw_266 : Cond.code yX0_buyingError cX0_buyingError 4 (some .int) ∈ GW := List.mem_filter.mpr ⟨List.mem_of_getElem? (i := 266) rfl, rfl⟩
theorem gw_268 : Cond.static yX6_outside ∈ GW := List.mem_filter.mpr ⟨List.mem_of_getElem? (i := 268) (by decide +kernel), rfl⟩
theorem gw_269 : Cond.code yX6_outside cX6_outside 3 (some .boolean) ∈ GW := List.mem_filter.mpr ⟨List.mem_of_getElem? (i := 269) rfl, rfl⟩
theorem gw_270 : Cond.methodLink RX0 86 yX0_spendable ∈ GW := List.mem_filter.mpr ⟨List.mem_of_getElem? (i := 270) (by decide +kernel), rfl⟩
theorem gw_272 : Cond.instanceMethod yX0_spendable ∈ GW := List.mem_filter.mpr ⟨List.mem_of_getElem? (i := 272) (by decide +kernel), rfl⟩
theorem gw_273 : Cond.code yX0_spendable cX0_spendable 1 (some .int) ∈ GW := List.mem_filter.mpr ⟨List.mem_of_getElem? (i := 273) rfl, rfl⟩
theorem gw_274 : Cond.methodLink RX0 68 yX5_numberOfKind ∈ GW := List.mem_filter.mpr ⟨List.mem_of_getElem? (i := 274) (by decide +kernel), rfl⟩
theorem gw_275 : Cond.instanceMethod yX5_numberOfKind ∈ GW := List.mem_filter.mpr ⟨List.mem_of_getElem? (i := 275) (by decide +kernel), rfl⟩
theorem gw_276 : Cond.selects RX5 yX5_numberOfKind yX5_numberOfKind ∈ GW := List.mem_filter.mpr ⟨List.mem_of_getElem? (i := 276) (by decide +kernel), rfl⟩
theorem gw_277 : Cond.code yX5_numberOfKind cX5_numberOfKind 4 (some .int) ∈ GW := List.mem_filter.mpr ⟨List.mem_of_getElem? (i := 277) rfl, rfl⟩
theorem gw_279 : Cond.static yX6_kindOf ∈ GW := List.mem_filter.mpr ⟨List.mem_of_getElem? (i := 279) (by decide +kernel), rfl⟩
theorem gw_280 : Cond.code yX6_kindOf cX6_kindOf 1 (some .int) ∈ GW := List.mem_filter.mpr ⟨List.mem_of_getElem? (i := 280) rfl, rfl⟩
theorem gw_281 : Cond.methodLink RX5 50 yX5_numberAt ∈ GW := List.mem_filter.mpr ⟨List.mem_of_getElem? (i := 281) (by decide +kernel), rfl⟩
theorem gw_282 : Cond.instanceMethod yX5_numberAt ∈ GW := List.mem_filter.mpr ⟨List.mem_of_getElem? (i := 282) (by decide +kernel), rfl⟩
theorem gw_283 : Cond.selects RX5 yX5_numberAt yX5_numberAt ∈ GW := List.mem_filter.mpr ⟨List.mem_of_getElem? (i := 283) (by decide +kernel), rfl⟩
theorem gw_284 : Cond.code yX5_numberAt cX5_numberAt 2 (some .int) ∈ GW := List.mem_filter.mpr ⟨List.mem_of_getElem? (i := 284) rfl, rfl⟩
theorem gw_285 : Cond.methodLink RX5 43 yX2_at ∈ GW := List.mem_filter.mpr ⟨List.mem_of_getElem? (i := 285) (by decide +kernel), rfl⟩
theorem gw_286 : Cond.instanceMethod yX2_at ∈ GW := List.mem_filter.mpr ⟨List.mem_of_getElem? (i := 286) (by decide +kernel), rfl⟩
theorem gw_287 : Cond.selects RX2 yX2_at yX2_at ∈ GW := List.mem_filter.mpr ⟨List.mem_of_getElem? (i := 287) (by decide +kernel), rfl⟩
theorem gw_288 : Cond.code yX2_at cX2_at 2 (some .int) ∈ GW := List.mem_filter.mpr ⟨List.mem_of_getElem? (i := 288) rfl, rfl⟩
theorem gw_289 : Cond.methodLink RX0 93 yX0_freeAt ∈ GW := List.mem_filter.mpr ⟨List.mem_of_getElem? (i := 289) (by decide +kernel), rfl⟩
theorem gw_291 : Cond.instanceMethod yX0_freeAt ∈ GW := List.mem_filter.mpr ⟨List.mem_of_getElem? (i := 291) (by decide +kernel), rfl⟩
theorem gw_292 : Cond.code yX0_freeAt cX0_freeAt 2 (some .int) ∈ GW := List.mem_filter.mpr ⟨List.mem_of_getElem? (i := 292) rfl, rfl⟩
theorem gw_293 : Cond.methodLink RX0 72 yX2_at ∈ GW := List.mem_filter.mpr ⟨List.mem_of_getElem? (i := 293) (by decide +kernel), rfl⟩
theorem gw_294 : Cond.methodLink RX0 75 yX5_numberAt ∈ GW := List.mem_filter.mpr ⟨List.mem_of_getElem? (i := 294) (by decide +kernel), rfl⟩
theorem gw_295 : Cond.methodLink RX6 40 yX1_record ∈ GW := List.mem_filter.mpr ⟨List.mem_of_getElem? (i := 295) (by decide +kernel), rfl⟩
theorem gw_296 : Cond.instanceMethod yX1_record ∈ GW := List.mem_filter.mpr ⟨List.mem_of_getElem? (i := 296) (by decide +kernel), rfl⟩
theorem gw_297 : Cond.selects RX1 yX1_record yX1_record ∈ GW := List.mem_filter.mpr ⟨List.mem_of_getElem? (i := 297) (by decide +kernel), rfl⟩
theorem gw_298 : Cond.code yX1_record cX1_record 3 none ∈ GW := List.mem_filter.mpr ⟨List.mem_of_getElem? (i := 298) rfl, rfl⟩
theorem gw_299 : Cond.methodLink RX1 22 yX3_copyFrom ∈ GW := List.mem_filter.mpr ⟨List.mem_of_getElem? (i := 299) (by decide +kernel), rfl⟩
theorem gw_300 : Cond.instanceMethod yX3_copyFrom ∈ GW := List.mem_filter.mpr ⟨List.mem_of_getElem? (i := 300) (by decide +kernel), rfl⟩
set_option maxRecDepth 20000 in
theorem gw_301 : Cond.selects RX3 yX3_copyFrom yX3_copyFrom ∈ GW := List.mem_filter.mpr ⟨List.mem_of_getElem? (i := 301) (by decide +kernel), rfl⟩
set_option maxRecDepth 20000 in
theorem gw_302 : Cond.code yX3_copyFrom cX3_copyFrom 2 none ∈ GW := List.mem_filter.mpr ⟨List.mem_of_getElem? (i := 302) rfl, rfl⟩
set_option maxRecDepth 20000 in
theorem gw_303 : Cond.methodLink RX3 22 yX0_copyFrom ∈ GW := List.mem_filter.mpr ⟨List.mem_of_getElem? (i := 303) (by decide +kernel), rfl⟩
set_option maxRecDepth 20000 in
theorem gw_304 : Cond.instanceMethod yX0_copyFrom ∈ GW := List.mem_filter.mpr ⟨List.mem_of_getElem? (i := 304) (by decide +kernel), rfl⟩
set_option maxRecDepth 20000 in
theorem gw_305 : Cond.selects RX0 yX0_copyFrom yX0_copyFrom ∈ GW := List.mem_filter.mpr ⟨List.mem_of_getElem? (i := 305) (by decide +kernel), rfl⟩
set_option maxRecDepth 20000 in
theorem gw_306 : Cond.code yX0_copyFrom cX0_copyFrom 2 none ∈ GW := List.mem_filter.mpr ⟨List.mem_of_getElem? (i := 306) rfl, rfl⟩
set_option maxRecDepth 20000 in
theorem gw_307 : Cond.methodLink RX0 49 yX5_copyFrom ∈ GW := List.mem_filter.mpr ⟨List.mem_of_getElem? (i := 307) (by decide +kernel), rfl⟩
set_option maxRecDepth 20000 in
theorem gw_308 : Cond.instanceMethod yX5_copyFrom ∈ GW := List.mem_filter.mpr ⟨List.mem_of_getElem? (i := 308) (by decide +kernel), rfl⟩
set_option maxRecDepth 20000 in
theorem gw_309 : Cond.selects RX5 yX5_copyFrom yX5_copyFrom ∈ GW := List.mem_filter.mpr ⟨List.mem_of_getElem? (i := 309) (by decide +kernel), rfl⟩
set_option maxRecDepth 20000 in
theorem gw_310 : Cond.code yX5_copyFrom cX5_copyFrom 2 none ∈ GW := List.mem_filter.mpr ⟨List.mem_of_getElem? (i := 310) rfl, rfl⟩
set_option maxRecDepth 20000 in
theorem gw_311 : Cond.methodLink RX5 29 yX2_copyFrom ∈ GW := List.mem_filter.mpr ⟨List.mem_of_getElem? (i := 311) (by decide +kernel), rfl⟩
set_option maxRecDepth 20000 in
theorem gw_312 : Cond.instanceMethod yX2_copyFrom ∈ GW := List.mem_filter.mpr ⟨List.mem_of_getElem? (i := 312) (by decide +kernel), rfl⟩
set_option maxRecDepth 20000 in
theorem gw_313 : Cond.selects RX2 yX2_copyFrom yX2_copyFrom ∈ GW := List.mem_filter.mpr ⟨List.mem_of_getElem? (i := 313) (by decide +kernel), rfl⟩
set_option maxRecDepth 20000 in
theorem gw_314 : Cond.code yX2_copyFrom cX2_copyFrom 2 none ∈ GW := List.mem_filter.mpr ⟨List.mem_of_getElem? (i := 314) rfl, rfl⟩
set_option maxRecDepth 20000 in
theorem gw_315 : Cond.methodLink RX2 25 Lib.Math.min.name ∈ GW := List.mem_filter.mpr ⟨List.mem_of_getElem? (i := 315) (by decide +kernel), rfl⟩
set_option maxRecDepth 20000 in
theorem gw_316 : Cond.static Lib.Math.min.name ∈ GW := List.mem_filter.mpr ⟨List.mem_of_getElem? (i := 316) (by decide +kernel), rfl⟩
set_option maxRecDepth 20000 in
theorem gw_317 : Cond.code Lib.Math.min.name Lib.Math.min.code 2 (some .int) ∈ GW := List.mem_filter.mpr ⟨List.mem_of_getElem? (i := 317) rfl, rfl⟩
set_option maxRecDepth 20000 in
theorem gw_318 : Cond.methodLink RX2 28 arraycopyName ∈ GW := List.mem_filter.mpr ⟨List.mem_of_getElem? (i := 318) (by decide +kernel), rfl⟩
set_option maxRecDepth 20000 in
theorem gw_319 : Cond.static arraycopyName ∈ GW := List.mem_filter.mpr ⟨List.mem_of_getElem? (i := 319) (by decide +kernel), rfl⟩
set_option maxRecDepth 20000 in
theorem gw_320 : Cond.native arraycopyName ∈ GW := List.mem_filter.mpr ⟨List.mem_of_getElem? (i := 320) (by decide +kernel), rfl⟩
set_option maxRecDepth 20000 in
theorem gw_321 : Cond.methodLink RX0 53 yX2_copyFrom ∈ GW := List.mem_filter.mpr ⟨List.mem_of_getElem? (i := 321) (by decide +kernel), rfl⟩
set_option maxRecDepth 20000 in
theorem gw_322 : Cond.methodLink RX1 29 Lib.Math.min.name ∈ GW := List.mem_filter.mpr ⟨List.mem_of_getElem? (i := 322) (by decide +kernel), rfl⟩
set_option maxRecDepth 20000 in
theorem gw_323 : Cond.methodLink RX6 44 yX0_purchase ∈ GW := List.mem_filter.mpr ⟨List.mem_of_getElem? (i := 323) (by decide +kernel), rfl⟩
set_option maxRecDepth 20000 in
theorem gw_324 : Cond.instanceMethod yX0_purchase ∈ GW := List.mem_filter.mpr ⟨List.mem_of_getElem? (i := 324) (by decide +kernel), rfl⟩
set_option maxRecDepth 20000 in
theorem gw_325 : Cond.selects RX0 yX0_purchase yX0_purchase ∈ GW := List.mem_filter.mpr ⟨List.mem_of_getElem? (i := 325) (by decide +kernel), rfl⟩
set_option maxRecDepth 20000 in
theorem gw_326 : Cond.code yX0_purchase cX0_purchase 5 (some .int) ∈ GW := List.mem_filter.mpr ⟨List.mem_of_getElem? (i := 326) rfl, rfl⟩
set_option maxRecDepth 20000 in
theorem gw_327 : Cond.methodLink RX0 96 yX5_addNew ∈ GW := List.mem_filter.mpr ⟨List.mem_of_getElem? (i := 327) (by decide +kernel), rfl⟩
set_option maxRecDepth 20000 in
theorem gw_328 : Cond.instanceMethod yX5_addNew ∈ GW := List.mem_filter.mpr ⟨List.mem_of_getElem? (i := 328) (by decide +kernel), rfl⟩
set_option maxRecDepth 20000 in
theorem gw_329 : Cond.selects RX5 yX5_addNew yX5_addNew ∈ GW := List.mem_filter.mpr ⟨List.mem_of_getElem? (i := 329) (by decide +kernel), rfl⟩
set_option maxRecDepth 20000 in
theorem gw_330 : Cond.code yX5_addNew cX5_addNew 2 none ∈ GW := List.mem_filter.mpr ⟨List.mem_of_getElem? (i := 330) rfl, rfl⟩
set_option maxRecDepth 20000 in
theorem gw_331 : Cond.methodLink RX5 37 yX2_put ∈ GW := List.mem_filter.mpr ⟨List.mem_of_getElem? (i := 331) (by decide +kernel), rfl⟩
set_option maxRecDepth 20000 in
theorem gw_332 : Cond.methodLink RX5 40 yX2_add ∈ GW := List.mem_filter.mpr ⟨List.mem_of_getElem? (i := 332) (by decide +kernel), rfl⟩
set_option maxRecDepth 20000 in
theorem gw_333 : Cond.instanceMethod yX2_add ∈ GW := List.mem_filter.mpr ⟨List.mem_of_getElem? (i := 333) (by decide +kernel), rfl⟩
set_option maxRecDepth 20000 in
theorem gw_334 : Cond.selects RX2 yX2_add yX2_add ∈ GW := List.mem_filter.mpr ⟨List.mem_of_getElem? (i := 334) (by decide +kernel), rfl⟩
set_option maxRecDepth 20000 in
theorem gw_335 : Cond.code yX2_add cX2_add 3 none ∈ GW := List.mem_filter.mpr ⟨List.mem_of_getElem? (i := 335) rfl, rfl⟩
set_option maxRecDepth 20000 in
theorem gw_336 : Cond.methodLink RX0 100 yX0_spend ∈ GW := List.mem_filter.mpr ⟨List.mem_of_getElem? (i := 336) (by decide +kernel), rfl⟩
set_option maxRecDepth 20000 in
theorem gw_338 : Cond.instanceMethod yX0_spend ∈ GW := List.mem_filter.mpr ⟨List.mem_of_getElem? (i := 338) (by decide +kernel), rfl⟩
set_option maxRecDepth 20000 in
theorem gw_339 : Cond.code yX0_spend cX0_spend 2 none ∈ GW := List.mem_filter.mpr ⟨List.mem_of_getElem? (i := 339) rfl, rfl⟩
set_option maxRecDepth 20000 in
theorem gw_340 : Cond.methodLink "RibbedLoansLaw" 18 yX6_set ∈ GW := List.mem_filter.mpr ⟨List.mem_of_getElem? (i := 340) (by decide +kernel), rfl⟩
set_option maxRecDepth 20000 in
theorem gw_341 : Cond.instanceMethod yX6_set ∈ GW := List.mem_filter.mpr ⟨List.mem_of_getElem? (i := 341) (by decide +kernel), rfl⟩
set_option maxRecDepth 20000 in
theorem gw_342 : Cond.selects RX6 yX6_set yX6_set ∈ GW := List.mem_filter.mpr ⟨List.mem_of_getElem? (i := 342) (by decide +kernel), rfl⟩
set_option maxRecDepth 20000 in
theorem gw_343 : Cond.code yX6_set cX6_set 4 (some .int) ∈ GW := List.mem_filter.mpr ⟨List.mem_of_getElem? (i := 343) rfl, rfl⟩
set_option maxRecDepth 20000 in
theorem gw_344 : Cond.methodLink RX6 47 yX0_settingError ∈ GW := List.mem_filter.mpr ⟨List.mem_of_getElem? (i := 344) (by decide +kernel), rfl⟩
set_option maxRecDepth 20000 in
theorem gw_345 : Cond.instanceMethod yX0_settingError ∈ GW := List.mem_filter.mpr ⟨List.mem_of_getElem? (i := 345) (by decide +kernel), rfl⟩
set_option maxRecDepth 20000 in
theorem gw_346 : Cond.selects RX0 yX0_settingError yX0_settingError ∈ GW := List.mem_filter.mpr ⟨List.mem_of_getElem? (i := 346) (by decide +kernel), rfl⟩
set_option maxRecDepth 20000 in
theorem gw_347 : Cond.code yX0_settingError cX0_settingError 3 (some .int) ∈ GW := List.mem_filter.mpr ⟨List.mem_of_getElem? (i := 347) rfl, rfl⟩
set_option maxRecDepth 20000 in
theorem gw_348 : Cond.methodLink RX6 50 yX0_change ∈ GW := List.mem_filter.mpr ⟨List.mem_of_getElem? (i := 348) (by decide +kernel), rfl⟩
set_option maxRecDepth 20000 in
theorem gw_349 : Cond.instanceMethod yX0_change ∈ GW := List.mem_filter.mpr ⟨List.mem_of_getElem? (i := 349) (by decide +kernel), rfl⟩
set_option maxRecDepth 20000 in
theorem gw_350 : Cond.selects RX0 yX0_change yX0_change ∈ GW := List.mem_filter.mpr ⟨List.mem_of_getElem? (i := 350) (by decide +kernel), rfl⟩
set_option maxRecDepth 20000 in
theorem gw_351 : Cond.code yX0_change cX0_change 4 (some .int) ∈ GW := List.mem_filter.mpr ⟨List.mem_of_getElem? (i := 351) rfl, rfl⟩
set_option maxRecDepth 20000 in
theorem gw_352 : Cond.methodLink "RibbedLoansLaw" 22 yX6_borrow ∈ GW := List.mem_filter.mpr ⟨List.mem_of_getElem? (i := 352) (by decide +kernel), rfl⟩
set_option maxRecDepth 20000 in
theorem gw_353 : Cond.instanceMethod yX6_borrow ∈ GW := List.mem_filter.mpr ⟨List.mem_of_getElem? (i := 353) (by decide +kernel), rfl⟩
set_option maxRecDepth 20000 in
theorem gw_354 : Cond.selects RX6 yX6_borrow yX6_borrow ∈ GW := List.mem_filter.mpr ⟨List.mem_of_getElem? (i := 354) (by decide +kernel), rfl⟩
set_option maxRecDepth 20000 in
theorem gw_355 : Cond.code yX6_borrow cX6_borrow 4 (some .int) ∈ GW := List.mem_filter.mpr ⟨List.mem_of_getElem? (i := 355) rfl, rfl⟩
set_option maxRecDepth 20000 in
theorem gw_356 : Cond.methodLink RX6 53 yX0_lendingError ∈ GW := List.mem_filter.mpr ⟨List.mem_of_getElem? (i := 356) (by decide +kernel), rfl⟩
set_option maxRecDepth 20000 in
theorem gw_357 : Cond.instanceMethod yX0_lendingError ∈ GW := List.mem_filter.mpr ⟨List.mem_of_getElem? (i := 357) (by decide +kernel), rfl⟩
set_option maxRecDepth 20000 in
theorem gw_358 : Cond.selects RX0 yX0_lendingError yX0_lendingError ∈ GW := List.mem_filter.mpr ⟨List.mem_of_getElem? (i := 358) (by decide +kernel), rfl⟩
set_option maxRecDepth 20000 in
theorem gw_359 : Cond.code yX0_lendingError cX0_lendingError 4 (some .int) ∈ GW := List.mem_filter.mpr ⟨List.mem_of_getElem? (i := 359) rfl, rfl⟩
set_option maxRecDepth 20000 in
theorem gw_360 : Cond.methodLink RX0 103 yX0_wouldBorrow ∈ GW := List.mem_filter.mpr ⟨List.mem_of_getElem? (i := 360) (by decide +kernel), rfl⟩
set_option maxRecDepth 20000 in
theorem gw_362 : Cond.instanceMethod yX0_wouldBorrow ∈ GW := List.mem_filter.mpr ⟨List.mem_of_getElem? (i := 362) (by decide +kernel), rfl⟩
set_option maxRecDepth 20000 in
theorem gw_363 : Cond.code yX0_wouldBorrow cX0_wouldBorrow 2 (some .boolean) ∈ GW := List.mem_filter.mpr ⟨List.mem_of_getElem? (i := 363) rfl, rfl⟩
set_option maxRecDepth 20000 in
theorem gw_364 : Cond.methodLink RX0 107 yX5_bestAt ∈ GW := List.mem_filter.mpr ⟨List.mem_of_getElem? (i := 364) (by decide +kernel), rfl⟩
set_option maxRecDepth 20000 in
theorem gw_365 : Cond.instanceMethod yX5_bestAt ∈ GW := List.mem_filter.mpr ⟨List.mem_of_getElem? (i := 365) (by decide +kernel), rfl⟩
set_option maxRecDepth 20000 in
theorem gw_366 : Cond.selects RX5 yX5_bestAt yX5_bestAt ∈ GW := List.mem_filter.mpr ⟨List.mem_of_getElem? (i := 366) (by decide +kernel), rfl⟩
set_option maxRecDepth 20000 in
theorem gw_367 : Cond.code yX5_bestAt cX5_bestAt 2 (some .int) ∈ GW := List.mem_filter.mpr ⟨List.mem_of_getElem? (i := 367) rfl, rfl⟩
set_option maxRecDepth 20000 in
theorem gw_368 : Cond.methodLink RX5 60 yX5_leastWornAt ∈ GW := List.mem_filter.mpr ⟨List.mem_of_getElem? (i := 368) (by decide +kernel), rfl⟩
set_option maxRecDepth 20000 in
theorem gw_369 : Cond.instanceMethod yX5_leastWornAt ∈ GW := List.mem_filter.mpr ⟨List.mem_of_getElem? (i := 369) (by decide +kernel), rfl⟩
set_option maxRecDepth 20000 in
theorem gw_370 : Cond.selects RX5 yX5_leastWornAt yX5_leastWornAt ∈ GW := List.mem_filter.mpr ⟨List.mem_of_getElem? (i := 370) (by decide +kernel), rfl⟩
set_option maxRecDepth 20000 in
theorem gw_371 : Cond.code yX5_leastWornAt cX5_leastWornAt 7 (some .int) ∈ GW := List.mem_filter.mpr ⟨List.mem_of_getElem? (i := 371) rfl, rfl⟩
set_option maxRecDepth 20000 in
theorem gw_372 : Cond.methodLink RX6 56 yX0_lend ∈ GW := List.mem_filter.mpr ⟨List.mem_of_getElem? (i := 372) (by decide +kernel), rfl⟩
set_option maxRecDepth 20000 in
theorem gw_373 : Cond.instanceMethod yX0_lend ∈ GW := List.mem_filter.mpr ⟨List.mem_of_getElem? (i := 373) (by decide +kernel), rfl⟩
set_option maxRecDepth 20000 in
theorem gw_374 : Cond.selects RX0 yX0_lend yX0_lend ∈ GW := List.mem_filter.mpr ⟨List.mem_of_getElem? (i := 374) (by decide +kernel), rfl⟩
set_option maxRecDepth 20000 in
theorem gw_375 : Cond.code yX0_lend cX0_lend 4 (some .int) ∈ GW := List.mem_filter.mpr ⟨List.mem_of_getElem? (i := 375) rfl, rfl⟩
set_option maxRecDepth 20000 in
theorem gw_376 : Cond.methodLink RX0 110 yX0_handOut ∈ GW := List.mem_filter.mpr ⟨List.mem_of_getElem? (i := 376) (by decide +kernel), rfl⟩
set_option maxRecDepth 20000 in
theorem gw_378 : Cond.instanceMethod yX0_handOut ∈ GW := List.mem_filter.mpr ⟨List.mem_of_getElem? (i := 378) (by decide +kernel), rfl⟩
set_option maxRecDepth 20000 in
theorem gw_379 : Cond.code yX0_handOut cX0_handOut 3 none ∈ GW := List.mem_filter.mpr ⟨List.mem_of_getElem? (i := 379) rfl, rfl⟩
set_option maxRecDepth 20000 in
theorem gw_380 : Cond.methodLink RX0 113 yX5_move ∈ GW := List.mem_filter.mpr ⟨List.mem_of_getElem? (i := 380) (by decide +kernel), rfl⟩
set_option maxRecDepth 20000 in
theorem gw_381 : Cond.instanceMethod yX5_move ∈ GW := List.mem_filter.mpr ⟨List.mem_of_getElem? (i := 381) (by decide +kernel), rfl⟩
set_option maxRecDepth 20000 in
theorem gw_382 : Cond.selects RX5 yX5_move yX5_move ∈ GW := List.mem_filter.mpr ⟨List.mem_of_getElem? (i := 382) (by decide +kernel), rfl⟩
set_option maxRecDepth 20000 in
theorem gw_383 : Cond.code yX5_move cX5_move 3 none ∈ GW := List.mem_filter.mpr ⟨List.mem_of_getElem? (i := 383) rfl, rfl⟩
set_option maxRecDepth 20000 in
theorem gw_384 : Cond.methodLink RX0 119 yX2_add ∈ GW := List.mem_filter.mpr ⟨List.mem_of_getElem? (i := 384) (by decide +kernel), rfl⟩
set_option maxRecDepth 20000 in
theorem gw_385 : Cond.methodLink "RibbedLoansLaw" 26 yX6_bringBack ∈ GW := List.mem_filter.mpr ⟨List.mem_of_getElem? (i := 385) (by decide +kernel), rfl⟩
set_option maxRecDepth 20000 in
theorem gw_386 : Cond.instanceMethod yX6_bringBack ∈ GW := List.mem_filter.mpr ⟨List.mem_of_getElem? (i := 386) (by decide +kernel), rfl⟩
set_option maxRecDepth 20000 in
theorem gw_387 : Cond.selects RX6 yX6_bringBack yX6_bringBack ∈ GW := List.mem_filter.mpr ⟨List.mem_of_getElem? (i := 387) (by decide +kernel), rfl⟩
set_option maxRecDepth 20000 in
theorem gw_388 : Cond.code yX6_bringBack cX6_bringBack 4 (some .int) ∈ GW := List.mem_filter.mpr ⟨List.mem_of_getElem? (i := 388) rfl, rfl⟩
set_option maxRecDepth 20000 in
theorem gw_389 : Cond.methodLink RX6 59 yX0_returningError ∈ GW := List.mem_filter.mpr ⟨List.mem_of_getElem? (i := 389) (by decide +kernel), rfl⟩
set_option maxRecDepth 20000 in
theorem gw_390 : Cond.instanceMethod yX0_returningError ∈ GW := List.mem_filter.mpr ⟨List.mem_of_getElem? (i := 390) (by decide +kernel), rfl⟩
set_option maxRecDepth 20000 in
theorem gw_391 : Cond.selects RX0 yX0_returningError yX0_returningError ∈ GW := List.mem_filter.mpr ⟨List.mem_of_getElem? (i := 391) (by decide +kernel), rfl⟩
set_option maxRecDepth 20000 in
theorem gw_392 : Cond.code yX0_returningError cX0_returningError 3 (some .int) ∈ GW := List.mem_filter.mpr ⟨List.mem_of_getElem? (i := 392) rfl, rfl⟩
set_option maxRecDepth 20000 in
theorem gw_393 : Cond.methodLink RX0 122 yX0_hasOne ∈ GW := List.mem_filter.mpr ⟨List.mem_of_getElem? (i := 393) (by decide +kernel), rfl⟩
set_option maxRecDepth 20000 in
theorem gw_394 : Cond.instanceMethod yX0_hasOne ∈ GW := List.mem_filter.mpr ⟨List.mem_of_getElem? (i := 394) (by decide +kernel), rfl⟩
set_option maxRecDepth 20000 in
theorem gw_395 : Cond.selects RX0 yX0_hasOne yX0_hasOne ∈ GW := List.mem_filter.mpr ⟨List.mem_of_getElem? (i := 395) (by decide +kernel), rfl⟩
set_option maxRecDepth 20000 in
theorem gw_396 : Cond.code yX0_hasOne cX0_hasOne 2 (some .boolean) ∈ GW := List.mem_filter.mpr ⟨List.mem_of_getElem? (i := 396) rfl, rfl⟩
set_option maxRecDepth 20000 in
theorem gw_397 : Cond.methodLink RX6 62 yX0_takeBack ∈ GW := List.mem_filter.mpr ⟨List.mem_of_getElem? (i := 397) (by decide +kernel), rfl⟩
set_option maxRecDepth 20000 in
theorem gw_398 : Cond.instanceMethod yX0_takeBack ∈ GW := List.mem_filter.mpr ⟨List.mem_of_getElem? (i := 398) (by decide +kernel), rfl⟩
set_option maxRecDepth 20000 in
theorem gw_399 : Cond.selects RX0 yX0_takeBack yX0_takeBack ∈ GW := List.mem_filter.mpr ⟨List.mem_of_getElem? (i := 399) (by decide +kernel), rfl⟩
set_option maxRecDepth 20000 in
theorem gw_400 : Cond.code yX0_takeBack cX0_takeBack 4 (some .int) ∈ GW := List.mem_filter.mpr ⟨List.mem_of_getElem? (i := 400) rfl, rfl⟩
set_option maxRecDepth 20000 in
theorem gw_401 : Cond.methodLink RX0 125 yX0_feeAfter ∈ GW := List.mem_filter.mpr ⟨List.mem_of_getElem? (i := 401) (by decide +kernel), rfl⟩
set_option maxRecDepth 20000 in
theorem gw_402 : Cond.instanceMethod yX0_feeAfter ∈ GW := List.mem_filter.mpr ⟨List.mem_of_getElem? (i := 402) (by decide +kernel), rfl⟩
set_option maxRecDepth 20000 in
theorem gw_403 : Cond.selects RX0 yX0_feeAfter yX0_feeAfter ∈ GW := List.mem_filter.mpr ⟨List.mem_of_getElem? (i := 403) (by decide +kernel), rfl⟩
set_option maxRecDepth 20000 in
theorem gw_404 : Cond.code yX0_feeAfter cX0_feeAfter 7 (some .int) ∈ GW := List.mem_filter.mpr ⟨List.mem_of_getElem? (i := 404) rfl, rfl⟩
set_option maxRecDepth 20000 in
theorem gw_405 : Cond.methodLink RX0 129 yX0_inHand ∈ GW := List.mem_filter.mpr ⟨List.mem_of_getElem? (i := 405) (by decide +kernel), rfl⟩
set_option maxRecDepth 20000 in
theorem gw_406 : Cond.instanceMethod yX0_inHand ∈ GW := List.mem_filter.mpr ⟨List.mem_of_getElem? (i := 406) (by decide +kernel), rfl⟩
set_option maxRecDepth 20000 in
theorem gw_407 : Cond.selects RX0 yX0_inHand yX0_inHand ∈ GW := List.mem_filter.mpr ⟨List.mem_of_getElem? (i := 407) (by decide +kernel), rfl⟩
set_option maxRecDepth 20000 in
theorem gw_408 : Cond.code yX0_inHand cX0_inHand 2 (some .int) ∈ GW := List.mem_filter.mpr ⟨List.mem_of_getElem? (i := 408) rfl, rfl⟩
set_option maxRecDepth 20000 in
theorem gw_409 : Cond.methodLink RX0 78 yX5_nthAt ∈ GW := List.mem_filter.mpr ⟨List.mem_of_getElem? (i := 409) (by decide +kernel), rfl⟩
set_option maxRecDepth 20000 in
theorem gw_410 : Cond.instanceMethod yX5_nthAt ∈ GW := List.mem_filter.mpr ⟨List.mem_of_getElem? (i := 410) (by decide +kernel), rfl⟩
set_option maxRecDepth 20000 in
theorem gw_411 : Cond.selects RX5 yX5_nthAt yX5_nthAt ∈ GW := List.mem_filter.mpr ⟨List.mem_of_getElem? (i := 411) (by decide +kernel), rfl⟩
set_option maxRecDepth 20000 in
theorem gw_412 : Cond.code yX5_nthAt cX5_nthAt 5 (some .int) ∈ GW := List.mem_filter.mpr ⟨List.mem_of_getElem? (i := 412) rfl, rfl⟩
set_option maxRecDepth 20000 in
theorem gw_414 : Cond.static yX6_wornBy ∈ GW := List.mem_filter.mpr ⟨List.mem_of_getElem? (i := 414) (by decide +kernel), rfl⟩
set_option maxRecDepth 20000 in
theorem gw_415 : Cond.code yX6_wornBy cX6_wornBy 4 (some .int) ∈ GW := List.mem_filter.mpr ⟨List.mem_of_getElem? (i := 415) rfl, rfl⟩
set_option maxRecDepth 20000 in
theorem gw_416 : Cond.methodLink RX6 266 Lib.Math.min.name ∈ GW := List.mem_filter.mpr ⟨List.mem_of_getElem? (i := 416) (by decide +kernel), rfl⟩
set_option maxRecDepth 20000 in
theorem gw_417 : Cond.methodLink RX0 138 Lib.Math.min.name ∈ GW := List.mem_filter.mpr ⟨List.mem_of_getElem? (i := 417) (by decide +kernel), rfl⟩
set_option maxRecDepth 20000 in
theorem gw_418 : Cond.methodLink "RibbedLoansLaw" 30 yX6_hour ∈ GW := List.mem_filter.mpr ⟨List.mem_of_getElem? (i := 418) (by decide +kernel), rfl⟩
set_option maxRecDepth 20000 in
theorem gw_419 : Cond.instanceMethod yX6_hour ∈ GW := List.mem_filter.mpr ⟨List.mem_of_getElem? (i := 419) (by decide +kernel), rfl⟩
set_option maxRecDepth 20000 in
theorem gw_420 : Cond.selects RX6 yX6_hour yX6_hour ∈ GW := List.mem_filter.mpr ⟨List.mem_of_getElem? (i := 420) (by decide +kernel), rfl⟩
set_option maxRecDepth 20000 in
theorem gw_421 : Cond.code yX6_hour cX6_hour 4 (some .int) ∈ GW := List.mem_filter.mpr ⟨List.mem_of_getElem? (i := 421) rfl, rfl⟩
set_option maxRecDepth 20000 in
theorem gw_422 : Cond.methodLink RX6 65 yX0_passingError ∈ GW := List.mem_filter.mpr ⟨List.mem_of_getElem? (i := 422) (by decide +kernel), rfl⟩
set_option maxRecDepth 20000 in
theorem gw_423 : Cond.instanceMethod yX0_passingError ∈ GW := List.mem_filter.mpr ⟨List.mem_of_getElem? (i := 423) (by decide +kernel), rfl⟩
set_option maxRecDepth 20000 in
theorem gw_424 : Cond.selects RX0 yX0_passingError yX0_passingError ∈ GW := List.mem_filter.mpr ⟨List.mem_of_getElem? (i := 424) (by decide +kernel), rfl⟩
set_option maxRecDepth 20000 in
theorem gw_425 : Cond.code yX0_passingError cX0_passingError 3 (some .int) ∈ GW := List.mem_filter.mpr ⟨List.mem_of_getElem? (i := 425) rfl, rfl⟩
set_option maxRecDepth 20000 in
theorem gw_426 : Cond.methodLink RX6 68 yX0_passHour ∈ GW := List.mem_filter.mpr ⟨List.mem_of_getElem? (i := 426) (by decide +kernel), rfl⟩
set_option maxRecDepth 20000 in
theorem gw_427 : Cond.instanceMethod yX0_passHour ∈ GW := List.mem_filter.mpr ⟨List.mem_of_getElem? (i := 427) (by decide +kernel), rfl⟩
set_option maxRecDepth 20000 in
theorem gw_428 : Cond.selects RX0 yX0_passHour yX0_passHour ∈ GW := List.mem_filter.mpr ⟨List.mem_of_getElem? (i := 428) (by decide +kernel), rfl⟩
set_option maxRecDepth 20000 in
theorem gw_429 : Cond.code yX0_passHour cX0_passHour 4 (some .int) ∈ GW := List.mem_filter.mpr ⟨List.mem_of_getElem? (i := 429) rfl, rfl⟩
set_option maxRecDepth 20000 in
theorem gw_430 : Cond.methodLink RX0 143 yX0_countShower ∈ GW := List.mem_filter.mpr ⟨List.mem_of_getElem? (i := 430) (by decide +kernel), rfl⟩
set_option maxRecDepth 20000 in
theorem gw_432 : Cond.instanceMethod yX0_countShower ∈ GW := List.mem_filter.mpr ⟨List.mem_of_getElem? (i := 432) (by decide +kernel), rfl⟩
set_option maxRecDepth 20000 in
theorem gw_433 : Cond.code yX0_countShower cX0_countShower 2 none ∈ GW := List.mem_filter.mpr ⟨List.mem_of_getElem? (i := 433) rfl, rfl⟩
set_option maxRecDepth 20000 in
theorem gw_434 : Cond.methodLink RX0 146 yX0_wearDown ∈ GW := List.mem_filter.mpr ⟨List.mem_of_getElem? (i := 434) (by decide +kernel), rfl⟩
set_option maxRecDepth 20000 in
theorem gw_436 : Cond.instanceMethod yX0_wearDown ∈ GW := List.mem_filter.mpr ⟨List.mem_of_getElem? (i := 436) (by decide +kernel), rfl⟩
set_option maxRecDepth 20000 in
theorem gw_437 : Cond.code yX0_wearDown cX0_wearDown 7 (some .int) ∈ GW := List.mem_filter.mpr ⟨List.mem_of_getElem? (i := 437) rfl, rfl⟩
set_option maxRecDepth 20000 in
theorem gw_439 : Cond.methodLink RX0 149 yX0_surge ∈ GW := List.mem_filter.mpr ⟨List.mem_of_getElem? (i := 439) (by decide +kernel), rfl⟩
set_option maxRecDepth 20000 in
theorem gw_441 : Cond.instanceMethod yX0_surge ∈ GW := List.mem_filter.mpr ⟨List.mem_of_getElem? (i := 441) (by decide +kernel), rfl⟩
set_option maxRecDepth 20000 in
theorem gw_442 : Cond.code yX0_surge cX0_surge 3 none ∈ GW := List.mem_filter.mpr ⟨List.mem_of_getElem? (i := 442) rfl, rfl⟩
set_option maxRecDepth 20000 in
theorem gw_443 : Cond.methodLink "RibbedLoansLaw" 34 yX6_load ∈ GW := List.mem_filter.mpr ⟨List.mem_of_getElem? (i := 443) (by decide +kernel), rfl⟩
set_option maxRecDepth 20000 in
theorem gw_444 : Cond.instanceMethod yX6_load ∈ GW := List.mem_filter.mpr ⟨List.mem_of_getElem? (i := 444) (by decide +kernel), rfl⟩
set_option maxRecDepth 20000 in
theorem gw_445 : Cond.selects RX6 yX6_load yX6_load ∈ GW := List.mem_filter.mpr ⟨List.mem_of_getElem? (i := 445) (by decide +kernel), rfl⟩
set_option maxRecDepth 20000 in
theorem gw_446 : Cond.code yX6_load cX6_load 5 (some .int) ∈ GW := List.mem_filter.mpr ⟨List.mem_of_getElem? (i := 446) rfl, rfl⟩
set_option maxRecDepth 20000 in
theorem gw_447 : Cond.methodLink RX6 71 yX0_loadingError ∈ GW := List.mem_filter.mpr ⟨List.mem_of_getElem? (i := 447) (by decide +kernel), rfl⟩
set_option maxRecDepth 20000 in
theorem gw_448 : Cond.instanceMethod yX0_loadingError ∈ GW := List.mem_filter.mpr ⟨List.mem_of_getElem? (i := 448) (by decide +kernel), rfl⟩
set_option maxRecDepth 20000 in
theorem gw_449 : Cond.selects RX0 yX0_loadingError yX0_loadingError ∈ GW := List.mem_filter.mpr ⟨List.mem_of_getElem? (i := 449) (by decide +kernel), rfl⟩
set_option maxRecDepth 20000 in
theorem gw_450 : Cond.code yX0_loadingError cX0_loadingError 5 (some .int) ∈ GW := List.mem_filter.mpr ⟨List.mem_of_getElem? (i := 450) rfl, rfl⟩
set_option maxRecDepth 20000 in
theorem gw_451 : Cond.methodLink RX6 75 yX0_fillVan ∈ GW := List.mem_filter.mpr ⟨List.mem_of_getElem? (i := 451) (by decide +kernel), rfl⟩
set_option maxRecDepth 20000 in
theorem gw_452 : Cond.instanceMethod yX0_fillVan ∈ GW := List.mem_filter.mpr ⟨List.mem_of_getElem? (i := 452) (by decide +kernel), rfl⟩
set_option maxRecDepth 20000 in
theorem gw_453 : Cond.selects RX0 yX0_fillVan yX0_fillVan ∈ GW := List.mem_filter.mpr ⟨List.mem_of_getElem? (i := 453) (by decide +kernel), rfl⟩
set_option maxRecDepth 20000 in
theorem gw_454 : Cond.code yX0_fillVan cX0_fillVan 7 (some .int) ∈ GW := List.mem_filter.mpr ⟨List.mem_of_getElem? (i := 454) rfl, rfl⟩
set_option maxRecDepth 20000 in
theorem gw_455 : Cond.methodLink RX0 161 yX5_worstAt ∈ GW := List.mem_filter.mpr ⟨List.mem_of_getElem? (i := 455) (by decide +kernel), rfl⟩
set_option maxRecDepth 20000 in
theorem gw_456 : Cond.instanceMethod yX5_worstAt ∈ GW := List.mem_filter.mpr ⟨List.mem_of_getElem? (i := 456) (by decide +kernel), rfl⟩
set_option maxRecDepth 20000 in
theorem gw_457 : Cond.selects RX5 yX5_worstAt yX5_worstAt ∈ GW := List.mem_filter.mpr ⟨List.mem_of_getElem? (i := 457) (by decide +kernel), rfl⟩
set_option maxRecDepth 20000 in
theorem gw_458 : Cond.code yX5_worstAt cX5_worstAt 4 (some .int) ∈ GW := List.mem_filter.mpr ⟨List.mem_of_getElem? (i := 458) rfl, rfl⟩
set_option maxRecDepth 20000 in
theorem gw_459 : Cond.methodLink RX0 164 yX5_isBroken ∈ GW := List.mem_filter.mpr ⟨List.mem_of_getElem? (i := 459) (by decide +kernel), rfl⟩
set_option maxRecDepth 20000 in
theorem gw_460 : Cond.instanceMethod yX5_isBroken ∈ GW := List.mem_filter.mpr ⟨List.mem_of_getElem? (i := 460) (by decide +kernel), rfl⟩
set_option maxRecDepth 20000 in
theorem gw_461 : Cond.selects RX5 yX5_isBroken yX5_isBroken ∈ GW := List.mem_filter.mpr ⟨List.mem_of_getElem? (i := 461) (by decide +kernel), rfl⟩
set_option maxRecDepth 20000 in
theorem gw_462 : Cond.code yX5_isBroken cX5_isBroken 2 (some .boolean) ∈ GW := List.mem_filter.mpr ⟨List.mem_of_getElem? (i := 462) rfl, rfl⟩
set_option maxRecDepth 20000 in
theorem gw_463 : Cond.methodLink "RibbedLoansLaw" 39 yX6_unload ∈ GW := List.mem_filter.mpr ⟨List.mem_of_getElem? (i := 463) (by decide +kernel), rfl⟩
set_option maxRecDepth 20000 in
theorem gw_464 : Cond.instanceMethod yX6_unload ∈ GW := List.mem_filter.mpr ⟨List.mem_of_getElem? (i := 464) (by decide +kernel), rfl⟩
set_option maxRecDepth 20000 in
theorem gw_465 : Cond.selects RX6 yX6_unload yX6_unload ∈ GW := List.mem_filter.mpr ⟨List.mem_of_getElem? (i := 465) (by decide +kernel), rfl⟩
set_option maxRecDepth 20000 in
theorem gw_466 : Cond.code yX6_unload cX6_unload 5 (some .int) ∈ GW := List.mem_filter.mpr ⟨List.mem_of_getElem? (i := 466) rfl, rfl⟩
set_option maxRecDepth 20000 in
theorem gw_467 : Cond.methodLink RX6 78 yX0_unloadingError ∈ GW := List.mem_filter.mpr ⟨List.mem_of_getElem? (i := 467) (by decide +kernel), rfl⟩
set_option maxRecDepth 20000 in
theorem gw_468 : Cond.instanceMethod yX0_unloadingError ∈ GW := List.mem_filter.mpr ⟨List.mem_of_getElem? (i := 468) (by decide +kernel), rfl⟩
set_option maxRecDepth 20000 in
theorem gw_469 : Cond.selects RX0 yX0_unloadingError yX0_unloadingError ∈ GW := List.mem_filter.mpr ⟨List.mem_of_getElem? (i := 469) (by decide +kernel), rfl⟩
set_option maxRecDepth 20000 in
theorem gw_470 : Cond.code yX0_unloadingError cX0_unloadingError 4 (some .int) ∈ GW := List.mem_filter.mpr ⟨List.mem_of_getElem? (i := 470) rfl, rfl⟩
set_option maxRecDepth 20000 in
theorem gw_471 : Cond.methodLink RX0 158 yX5_wholeAt ∈ GW := List.mem_filter.mpr ⟨List.mem_of_getElem? (i := 471) (by decide +kernel), rfl⟩
set_option maxRecDepth 20000 in
theorem gw_472 : Cond.instanceMethod yX5_wholeAt ∈ GW := List.mem_filter.mpr ⟨List.mem_of_getElem? (i := 472) (by decide +kernel), rfl⟩
set_option maxRecDepth 20000 in
theorem gw_473 : Cond.selects RX5 yX5_wholeAt yX5_wholeAt ∈ GW := List.mem_filter.mpr ⟨List.mem_of_getElem? (i := 473) (by decide +kernel), rfl⟩
set_option maxRecDepth 20000 in
theorem gw_474 : Cond.code yX5_wholeAt cX5_wholeAt 2 (some .int) ∈ GW := List.mem_filter.mpr ⟨List.mem_of_getElem? (i := 474) rfl, rfl⟩
set_option maxRecDepth 20000 in
theorem gw_475 : Cond.methodLink RX5 57 yX5_brokenAt ∈ GW := List.mem_filter.mpr ⟨List.mem_of_getElem? (i := 475) (by decide +kernel), rfl⟩
set_option maxRecDepth 20000 in
theorem gw_476 : Cond.instanceMethod yX5_brokenAt ∈ GW := List.mem_filter.mpr ⟨List.mem_of_getElem? (i := 476) (by decide +kernel), rfl⟩
set_option maxRecDepth 20000 in
theorem gw_477 : Cond.selects RX5 yX5_brokenAt yX5_brokenAt ∈ GW := List.mem_filter.mpr ⟨List.mem_of_getElem? (i := 477) (by decide +kernel), rfl⟩
set_option maxRecDepth 20000 in
theorem gw_478 : Cond.code yX5_brokenAt cX5_brokenAt 4 (some .int) ∈ GW := List.mem_filter.mpr ⟨List.mem_of_getElem? (i := 478) rfl, rfl⟩
set_option maxRecDepth 20000 in
theorem gw_479 : Cond.methodLink RX5 53 yX5_isBroken ∈ GW := List.mem_filter.mpr ⟨List.mem_of_getElem? (i := 479) (by decide +kernel), rfl⟩
set_option maxRecDepth 20000 in
theorem gw_480 : Cond.methodLink RX6 81 yX0_emptyVan ∈ GW := List.mem_filter.mpr ⟨List.mem_of_getElem? (i := 480) (by decide +kernel), rfl⟩
set_option maxRecDepth 20000 in
theorem gw_481 : Cond.instanceMethod yX0_emptyVan ∈ GW := List.mem_filter.mpr ⟨List.mem_of_getElem? (i := 481) (by decide +kernel), rfl⟩
set_option maxRecDepth 20000 in
theorem gw_482 : Cond.selects RX0 yX0_emptyVan yX0_emptyVan ∈ GW := List.mem_filter.mpr ⟨List.mem_of_getElem? (i := 482) (by decide +kernel), rfl⟩
set_option maxRecDepth 20000 in
theorem gw_483 : Cond.code yX0_emptyVan cX0_emptyVan 6 (some .int) ∈ GW := List.mem_filter.mpr ⟨List.mem_of_getElem? (i := 483) rfl, rfl⟩
set_option maxRecDepth 20000 in
theorem gw_484 : Cond.methodLink "RibbedLoansLaw" 43 yX6_toWorkshop ∈ GW := List.mem_filter.mpr ⟨List.mem_of_getElem? (i := 484) (by decide +kernel), rfl⟩
set_option maxRecDepth 20000 in
theorem gw_485 : Cond.instanceMethod yX6_toWorkshop ∈ GW := List.mem_filter.mpr ⟨List.mem_of_getElem? (i := 485) (by decide +kernel), rfl⟩
set_option maxRecDepth 20000 in
theorem gw_486 : Cond.selects RX6 yX6_toWorkshop yX6_toWorkshop ∈ GW := List.mem_filter.mpr ⟨List.mem_of_getElem? (i := 486) (by decide +kernel), rfl⟩
set_option maxRecDepth 20000 in
theorem gw_487 : Cond.code yX6_toWorkshop cX6_toWorkshop 3 (some .int) ∈ GW := List.mem_filter.mpr ⟨List.mem_of_getElem? (i := 487) rfl, rfl⟩
set_option maxRecDepth 20000 in
theorem gw_488 : Cond.methodLink RX6 84 yX0_deliveringError ∈ GW := List.mem_filter.mpr ⟨List.mem_of_getElem? (i := 488) (by decide +kernel), rfl⟩
set_option maxRecDepth 20000 in
theorem gw_489 : Cond.instanceMethod yX0_deliveringError ∈ GW := List.mem_filter.mpr ⟨List.mem_of_getElem? (i := 489) (by decide +kernel), rfl⟩
set_option maxRecDepth 20000 in
theorem gw_490 : Cond.selects RX0 yX0_deliveringError yX0_deliveringError ∈ GW := List.mem_filter.mpr ⟨List.mem_of_getElem? (i := 490) (by decide +kernel), rfl⟩
set_option maxRecDepth 20000 in
theorem gw_491 : Cond.code yX0_deliveringError cX0_deliveringError 2 (some .int) ∈ GW := List.mem_filter.mpr ⟨List.mem_of_getElem? (i := 491) rfl, rfl⟩
set_option maxRecDepth 20000 in
theorem gw_492 : Cond.methodLink RX0 167 yX5_brokenAt ∈ GW := List.mem_filter.mpr ⟨List.mem_of_getElem? (i := 492) (by decide +kernel), rfl⟩
set_option maxRecDepth 20000 in
theorem gw_493 : Cond.methodLink RX6 88 yX0_deliver ∈ GW := List.mem_filter.mpr ⟨List.mem_of_getElem? (i := 493) (by decide +kernel), rfl⟩
set_option maxRecDepth 20000 in
theorem gw_494 : Cond.instanceMethod yX0_deliver ∈ GW := List.mem_filter.mpr ⟨List.mem_of_getElem? (i := 494) (by decide +kernel), rfl⟩
set_option maxRecDepth 20000 in
theorem gw_495 : Cond.selects RX0 yX0_deliver yX0_deliver ∈ GW := List.mem_filter.mpr ⟨List.mem_of_getElem? (i := 495) (by decide +kernel), rfl⟩
set_option maxRecDepth 20000 in
theorem gw_496 : Cond.code yX0_deliver cX0_deliver 4 (some .int) ∈ GW := List.mem_filter.mpr ⟨List.mem_of_getElem? (i := 496) rfl, rfl⟩
set_option maxRecDepth 20000 in
theorem gw_497 : Cond.methodLink "RibbedLoansLaw" 48 yX6_mend ∈ GW := List.mem_filter.mpr ⟨List.mem_of_getElem? (i := 497) (by decide +kernel), rfl⟩
set_option maxRecDepth 20000 in
theorem gw_498 : Cond.instanceMethod yX6_mend ∈ GW := List.mem_filter.mpr ⟨List.mem_of_getElem? (i := 498) (by decide +kernel), rfl⟩
set_option maxRecDepth 20000 in
theorem gw_499 : Cond.selects RX6 yX6_mend yX6_mend ∈ GW := List.mem_filter.mpr ⟨List.mem_of_getElem? (i := 499) (by decide +kernel), rfl⟩
set_option maxRecDepth 20000 in
theorem gw_500 : Cond.code yX6_mend cX6_mend 3 (some .int) ∈ GW := List.mem_filter.mpr ⟨List.mem_of_getElem? (i := 500) rfl, rfl⟩
set_option maxRecDepth 20000 in
theorem gw_501 : Cond.methodLink RX6 91 yX0_mendingError ∈ GW := List.mem_filter.mpr ⟨List.mem_of_getElem? (i := 501) (by decide +kernel), rfl⟩
set_option maxRecDepth 20000 in
theorem gw_502 : Cond.instanceMethod yX0_mendingError ∈ GW := List.mem_filter.mpr ⟨List.mem_of_getElem? (i := 502) (by decide +kernel), rfl⟩
set_option maxRecDepth 20000 in
theorem gw_503 : Cond.selects RX0 yX0_mendingError yX0_mendingError ∈ GW := List.mem_filter.mpr ⟨List.mem_of_getElem? (i := 503) (by decide +kernel), rfl⟩
set_option maxRecDepth 20000 in
theorem gw_504 : Cond.code yX0_mendingError cX0_mendingError 2 (some .int) ∈ GW := List.mem_filter.mpr ⟨List.mem_of_getElem? (i := 504) rfl, rfl⟩
set_option maxRecDepth 20000 in
theorem gw_505 : Cond.methodLink RX6 94 yX0_mendOne ∈ GW := List.mem_filter.mpr ⟨List.mem_of_getElem? (i := 505) (by decide +kernel), rfl⟩
set_option maxRecDepth 20000 in
theorem gw_506 : Cond.instanceMethod yX0_mendOne ∈ GW := List.mem_filter.mpr ⟨List.mem_of_getElem? (i := 506) (by decide +kernel), rfl⟩
set_option maxRecDepth 20000 in
theorem gw_507 : Cond.selects RX0 yX0_mendOne yX0_mendOne ∈ GW := List.mem_filter.mpr ⟨List.mem_of_getElem? (i := 507) (by decide +kernel), rfl⟩
set_option maxRecDepth 20000 in
theorem gw_508 : Cond.code yX0_mendOne cX0_mendOne 5 (some .int) ∈ GW := List.mem_filter.mpr ⟨List.mem_of_getElem? (i := 508) rfl, rfl⟩
set_option maxRecDepth 20000 in
theorem gw_509 : Cond.methodLink RX0 170 yX5_leastWornAt ∈ GW := List.mem_filter.mpr ⟨List.mem_of_getElem? (i := 509) (by decide +kernel), rfl⟩
set_option maxRecDepth 20000 in
theorem gw_510 : Cond.methodLink RX0 173 Lib.Math.max.name ∈ GW := List.mem_filter.mpr ⟨List.mem_of_getElem? (i := 510) (by decide +kernel), rfl⟩
set_option maxRecDepth 20000 in
theorem gw_511 : Cond.methodLink "RibbedLoansLaw" 52 yX6_level ∈ GW := List.mem_filter.mpr ⟨List.mem_of_getElem? (i := 511) (by decide +kernel), rfl⟩
set_option maxRecDepth 20000 in
theorem gw_512 : Cond.instanceMethod yX6_level ∈ GW := List.mem_filter.mpr ⟨List.mem_of_getElem? (i := 512) (by decide +kernel), rfl⟩
set_option maxRecDepth 20000 in
theorem gw_513 : Cond.selects RX6 yX6_level yX6_level ∈ GW := List.mem_filter.mpr ⟨List.mem_of_getElem? (i := 513) (by decide +kernel), rfl⟩
set_option maxRecDepth 20000 in
theorem gw_514 : Cond.code yX6_level cX6_level 1 (some .int) ∈ GW := List.mem_filter.mpr ⟨List.mem_of_getElem? (i := 514) rfl, rfl⟩
set_option maxRecDepth 20000 in
theorem gw_515 : Cond.methodLink RX6 97 yX0_evenOut ∈ GW := List.mem_filter.mpr ⟨List.mem_of_getElem? (i := 515) (by decide +kernel), rfl⟩
set_option maxRecDepth 20000 in
theorem gw_516 : Cond.instanceMethod yX0_evenOut ∈ GW := List.mem_filter.mpr ⟨List.mem_of_getElem? (i := 516) (by decide +kernel), rfl⟩
set_option maxRecDepth 20000 in
theorem gw_517 : Cond.selects RX0 yX0_evenOut yX0_evenOut ∈ GW := List.mem_filter.mpr ⟨List.mem_of_getElem? (i := 517) (by decide +kernel), rfl⟩
set_option maxRecDepth 20000 in
theorem gw_518 : Cond.code yX0_evenOut cX0_evenOut 6 (some .int) ∈ GW := List.mem_filter.mpr ⟨List.mem_of_getElem? (i := 518) rfl, rfl⟩
set_option maxRecDepth 20000 in
theorem gw_519 : Cond.constant "RibbedLoans$City" 176 (1000000 : Int32) ∈ GW := List.mem_filter.mpr ⟨List.mem_of_getElem? (i := 519) (by decide +kernel), rfl⟩
set_option maxRecDepth 20000 in
theorem gw_520 : Cond.methodLink RX0 177 yX0_fullest ∈ GW := List.mem_filter.mpr ⟨List.mem_of_getElem? (i := 520) (by decide +kernel), rfl⟩
set_option maxRecDepth 20000 in
theorem gw_522 : Cond.instanceMethod yX0_fullest ∈ GW := List.mem_filter.mpr ⟨List.mem_of_getElem? (i := 522) (by decide +kernel), rfl⟩
set_option maxRecDepth 20000 in
theorem gw_523 : Cond.code yX0_fullest cX0_fullest 3 (some .int) ∈ GW := List.mem_filter.mpr ⟨List.mem_of_getElem? (i := 523) rfl, rfl⟩
set_option maxRecDepth 20000 in
theorem gw_524 : Cond.methodLink RX0 180 yX0_emptiestWithRoom ∈ GW := List.mem_filter.mpr ⟨List.mem_of_getElem? (i := 524) (by decide +kernel), rfl⟩
set_option maxRecDepth 20000 in
theorem gw_526 : Cond.instanceMethod yX0_emptiestWithRoom ∈ GW := List.mem_filter.mpr ⟨List.mem_of_getElem? (i := 526) (by decide +kernel), rfl⟩
set_option maxRecDepth 20000 in
theorem gw_527 : Cond.code yX0_emptiestWithRoom cX0_emptiestWithRoom 4 (some .int) ∈ GW := List.mem_filter.mpr ⟨List.mem_of_getElem? (i := 527) rfl, rfl⟩
set_option maxRecDepth 20000 in
theorem gw_528 : Cond.methodLink "RibbedLoansLaw" 57 yX6_take ∈ GW := List.mem_filter.mpr ⟨List.mem_of_getElem? (i := 528) (by decide +kernel), rfl⟩
set_option maxRecDepth 20000 in
theorem gw_529 : Cond.instanceMethod yX6_take ∈ GW := List.mem_filter.mpr ⟨List.mem_of_getElem? (i := 529) (by decide +kernel), rfl⟩
set_option maxRecDepth 20000 in
theorem gw_530 : Cond.selects RX6 yX6_take yX6_take ∈ GW := List.mem_filter.mpr ⟨List.mem_of_getElem? (i := 530) (by decide +kernel), rfl⟩
set_option maxRecDepth 20000 in
theorem gw_531 : Cond.code yX6_take cX6_take 2 (some .int) ∈ GW := List.mem_filter.mpr ⟨List.mem_of_getElem? (i := 531) rfl, rfl⟩
set_option maxRecDepth 20000 in
theorem gw_532 : Cond.methodLink RX6 101 yX6_outside ∈ GW := List.mem_filter.mpr ⟨List.mem_of_getElem? (i := 532) (by decide +kernel), rfl⟩
set_option maxRecDepth 20000 in
theorem gw_533 : Cond.methodLink RX6 105 yX3_keep ∈ GW := List.mem_filter.mpr ⟨List.mem_of_getElem? (i := 533) (by decide +kernel), rfl⟩
set_option maxRecDepth 20000 in
theorem gw_534 : Cond.instanceMethod yX3_keep ∈ GW := List.mem_filter.mpr ⟨List.mem_of_getElem? (i := 534) (by decide +kernel), rfl⟩
set_option maxRecDepth 20000 in
theorem gw_535 : Cond.selects RX3 yX3_keep yX3_keep ∈ GW := List.mem_filter.mpr ⟨List.mem_of_getElem? (i := 535) (by decide +kernel), rfl⟩
set_option maxRecDepth 20000 in
theorem gw_536 : Cond.code yX3_keep cX3_keep 2 none ∈ GW := List.mem_filter.mpr ⟨List.mem_of_getElem? (i := 536) rfl, rfl⟩
set_option maxRecDepth 20000 in
theorem gw_537 : Cond.methodLink RX3 33 yX3_snapshot ∈ GW := List.mem_filter.mpr ⟨List.mem_of_getElem? (i := 537) (by decide +kernel), rfl⟩
set_option maxRecDepth 20000 in
theorem gw_539 : Cond.instanceMethod yX3_snapshot ∈ GW := List.mem_filter.mpr ⟨List.mem_of_getElem? (i := 539) (by decide +kernel), rfl⟩
set_option maxRecDepth 20000 in
theorem gw_540 : Cond.code yX3_snapshot cX3_snapshot 2 (some (.object "RibbedLoans$City")) ∈ GW := List.mem_filter.mpr ⟨List.mem_of_getElem? (i := 540) rfl, rfl⟩
set_option maxRecDepth 20000 in
theorem gw_541 : Cond.methodLink "RibbedLoansLaw" 61 yX6_restore ∈ GW := List.mem_filter.mpr ⟨List.mem_of_getElem? (i := 541) (by decide +kernel), rfl⟩
set_option maxRecDepth 20000 in
theorem gw_542 : Cond.instanceMethod yX6_restore ∈ GW := List.mem_filter.mpr ⟨List.mem_of_getElem? (i := 542) (by decide +kernel), rfl⟩
set_option maxRecDepth 20000 in
theorem gw_543 : Cond.selects RX6 yX6_restore yX6_restore ∈ GW := List.mem_filter.mpr ⟨List.mem_of_getElem? (i := 543) (by decide +kernel), rfl⟩
set_option maxRecDepth 20000 in
theorem gw_544 : Cond.code yX6_restore cX6_restore 2 (some .int) ∈ GW := List.mem_filter.mpr ⟨List.mem_of_getElem? (i := 544) rfl, rfl⟩
set_option maxRecDepth 20000 in
theorem gw_545 : Cond.methodLink RX6 113 yX3_isKept ∈ GW := List.mem_filter.mpr ⟨List.mem_of_getElem? (i := 545) (by decide +kernel), rfl⟩
set_option maxRecDepth 20000 in
theorem gw_546 : Cond.instanceMethod yX3_isKept ∈ GW := List.mem_filter.mpr ⟨List.mem_of_getElem? (i := 546) (by decide +kernel), rfl⟩
set_option maxRecDepth 20000 in
theorem gw_547 : Cond.selects RX3 yX3_isKept yX3_isKept ∈ GW := List.mem_filter.mpr ⟨List.mem_of_getElem? (i := 547) (by decide +kernel), rfl⟩
set_option maxRecDepth 20000 in
theorem gw_548 : Cond.code yX3_isKept cX3_isKept 2 (some .boolean) ∈ GW := List.mem_filter.mpr ⟨List.mem_of_getElem? (i := 548) rfl, rfl⟩
set_option maxRecDepth 20000 in
theorem gw_549 : Cond.methodLink RX6 117 yX3_bringUp ∈ GW := List.mem_filter.mpr ⟨List.mem_of_getElem? (i := 549) (by decide +kernel), rfl⟩
set_option maxRecDepth 20000 in
theorem gw_550 : Cond.instanceMethod yX3_bringUp ∈ GW := List.mem_filter.mpr ⟨List.mem_of_getElem? (i := 550) (by decide +kernel), rfl⟩
set_option maxRecDepth 20000 in
theorem gw_551 : Cond.selects RX3 yX3_bringUp yX3_bringUp ∈ GW := List.mem_filter.mpr ⟨List.mem_of_getElem? (i := 551) (by decide +kernel), rfl⟩
set_option maxRecDepth 20000 in
theorem gw_552 : Cond.code yX3_bringUp cX3_bringUp 2 none ∈ GW := List.mem_filter.mpr ⟨List.mem_of_getElem? (i := 552) rfl, rfl⟩
set_option maxRecDepth 20000 in
theorem gw_553 : Cond.methodLink "RibbedLoansLaw" 65 yX6_undo ∈ GW := List.mem_filter.mpr ⟨List.mem_of_getElem? (i := 553) (by decide +kernel), rfl⟩
set_option maxRecDepth 20000 in
theorem gw_554 : Cond.instanceMethod yX6_undo ∈ GW := List.mem_filter.mpr ⟨List.mem_of_getElem? (i := 554) (by decide +kernel), rfl⟩
set_option maxRecDepth 20000 in
theorem gw_555 : Cond.selects RX6 yX6_undo yX6_undo ∈ GW := List.mem_filter.mpr ⟨List.mem_of_getElem? (i := 555) (by decide +kernel), rfl⟩
set_option maxRecDepth 20000 in
theorem gw_556 : Cond.code yX6_undo cX6_undo 1 (some .int) ∈ GW := List.mem_filter.mpr ⟨List.mem_of_getElem? (i := 556) rfl, rfl⟩
set_option maxRecDepth 20000 in
theorem gw_557 : Cond.methodLink RX6 123 yX1_moveLatestTo ∈ GW := List.mem_filter.mpr ⟨List.mem_of_getElem? (i := 557) (by decide +kernel), rfl⟩
set_option maxRecDepth 20000 in
theorem gw_558 : Cond.instanceMethod yX1_moveLatestTo ∈ GW := List.mem_filter.mpr ⟨List.mem_of_getElem? (i := 558) (by decide +kernel), rfl⟩
set_option maxRecDepth 20000 in
theorem gw_559 : Cond.selects RX1 yX1_moveLatestTo yX1_moveLatestTo ∈ GW := List.mem_filter.mpr ⟨List.mem_of_getElem? (i := 559) (by decide +kernel), rfl⟩
set_option maxRecDepth 20000 in
theorem gw_560 : Cond.code yX1_moveLatestTo cX1_moveLatestTo 3 none ∈ GW := List.mem_filter.mpr ⟨List.mem_of_getElem? (i := 560) rfl, rfl⟩
set_option maxRecDepth 20000 in
theorem gw_561 : Cond.methodLink "RibbedLoansLaw" 69 yX6_append ∈ GW := List.mem_filter.mpr ⟨List.mem_of_getElem? (i := 561) (by decide +kernel), rfl⟩
set_option maxRecDepth 20000 in
theorem gw_562 : Cond.instanceMethod yX6_append ∈ GW := List.mem_filter.mpr ⟨List.mem_of_getElem? (i := 562) (by decide +kernel), rfl⟩
set_option maxRecDepth 20000 in
theorem gw_563 : Cond.selects RX6 yX6_append yX6_append ∈ GW := List.mem_filter.mpr ⟨List.mem_of_getElem? (i := 563) (by decide +kernel), rfl⟩
set_option maxRecDepth 20000 in
theorem gw_564 : Cond.code yX6_append cX6_append 2 (some .int) ∈ GW := List.mem_filter.mpr ⟨List.mem_of_getElem? (i := 564) rfl, rfl⟩
set_option maxRecDepth 20000 in
theorem gw_565 : Cond.methodLink RX6 129 yX4_add ∈ GW := List.mem_filter.mpr ⟨List.mem_of_getElem? (i := 565) (by decide +kernel), rfl⟩
set_option maxRecDepth 20000 in
theorem gw_566 : Cond.instanceMethod yX4_add ∈ GW := List.mem_filter.mpr ⟨List.mem_of_getElem? (i := 566) (by decide +kernel), rfl⟩
set_option maxRecDepth 20000 in
theorem gw_567 : Cond.selects RX4 yX4_add yX4_add ∈ GW := List.mem_filter.mpr ⟨List.mem_of_getElem? (i := 567) (by decide +kernel), rfl⟩
set_option maxRecDepth 20000 in
theorem gw_568 : Cond.code yX4_add cX4_add 2 none ∈ GW := List.mem_filter.mpr ⟨List.mem_of_getElem? (i := 568) rfl, rfl⟩
set_option maxRecDepth 20000 in
theorem gw_569 : Cond.methodLink "RibbedLoansLaw" 73 yX6_clearText ∈ GW := List.mem_filter.mpr ⟨List.mem_of_getElem? (i := 569) (by decide +kernel), rfl⟩
set_option maxRecDepth 20000 in
theorem gw_570 : Cond.instanceMethod yX6_clearText ∈ GW := List.mem_filter.mpr ⟨List.mem_of_getElem? (i := 570) (by decide +kernel), rfl⟩
set_option maxRecDepth 20000 in
theorem gw_571 : Cond.selects RX6 yX6_clearText yX6_clearText ∈ GW := List.mem_filter.mpr ⟨List.mem_of_getElem? (i := 571) (by decide +kernel), rfl⟩
set_option maxRecDepth 20000 in
theorem gw_572 : Cond.code yX6_clearText cX6_clearText 2 (some .int) ∈ GW := List.mem_filter.mpr ⟨List.mem_of_getElem? (i := 572) rfl, rfl⟩
set_option maxRecDepth 20000 in
theorem gw_573 : Cond.methodLink "RibbedLoansLaw" 77 yX6_carryOut ∈ GW := List.mem_filter.mpr ⟨List.mem_of_getElem? (i := 573) (by decide +kernel), rfl⟩
set_option maxRecDepth 20000 in
theorem gw_574 : Cond.instanceMethod yX6_carryOut ∈ GW := List.mem_filter.mpr ⟨List.mem_of_getElem? (i := 574) (by decide +kernel), rfl⟩
set_option maxRecDepth 20000 in
theorem gw_575 : Cond.selects RX6 yX6_carryOut yX6_carryOut ∈ GW := List.mem_filter.mpr ⟨List.mem_of_getElem? (i := 575) (by decide +kernel), rfl⟩
set_option maxRecDepth 20000 in
theorem gw_576 : Cond.code yX6_carryOut cX6_carryOut 3 (some .int) ∈ GW := List.mem_filter.mpr ⟨List.mem_of_getElem? (i := 576) rfl, rfl⟩
set_option maxRecDepth 20000 in
theorem gw_577 : Cond.methodLink RX6 132 yX4_fault ∈ GW := List.mem_filter.mpr ⟨List.mem_of_getElem? (i := 577) (by decide +kernel), rfl⟩
set_option maxRecDepth 20000 in
theorem gw_578 : Cond.instanceMethod yX4_fault ∈ GW := List.mem_filter.mpr ⟨List.mem_of_getElem? (i := 578) (by decide +kernel), rfl⟩
set_option maxRecDepth 20000 in
theorem gw_579 : Cond.selects RX4 yX4_fault yX4_fault ∈ GW := List.mem_filter.mpr ⟨List.mem_of_getElem? (i := 579) (by decide +kernel), rfl⟩
set_option maxRecDepth 20000 in
theorem gw_580 : Cond.code yX4_fault cX4_fault 2 (some .int) ∈ GW := List.mem_filter.mpr ⟨List.mem_of_getElem? (i := 580) rfl, rfl⟩
set_option maxRecDepth 20000 in
theorem gw_581 : Cond.methodLink RX4 19 yX4_rewind ∈ GW := List.mem_filter.mpr ⟨List.mem_of_getElem? (i := 581) (by decide +kernel), rfl⟩
set_option maxRecDepth 20000 in
theorem gw_582 : Cond.instanceMethod yX4_rewind ∈ GW := List.mem_filter.mpr ⟨List.mem_of_getElem? (i := 582) (by decide +kernel), rfl⟩
set_option maxRecDepth 20000 in
theorem gw_583 : Cond.selects RX4 yX4_rewind yX4_rewind ∈ GW := List.mem_filter.mpr ⟨List.mem_of_getElem? (i := 583) (by decide +kernel), rfl⟩
set_option maxRecDepth 20000 in
theorem gw_584 : Cond.code yX4_rewind cX4_rewind 1 none ∈ GW := List.mem_filter.mpr ⟨List.mem_of_getElem? (i := 584) rfl, rfl⟩
set_option maxRecDepth 20000 in
theorem gw_585 : Cond.methodLink RX4 22 yX4_readOrder ∈ GW := List.mem_filter.mpr ⟨List.mem_of_getElem? (i := 585) (by decide +kernel), rfl⟩
set_option maxRecDepth 20000 in
theorem gw_586 : Cond.instanceMethod yX4_readOrder ∈ GW := List.mem_filter.mpr ⟨List.mem_of_getElem? (i := 586) (by decide +kernel), rfl⟩
set_option maxRecDepth 20000 in
theorem gw_587 : Cond.selects RX4 yX4_readOrder yX4_readOrder ∈ GW := List.mem_filter.mpr ⟨List.mem_of_getElem? (i := 587) (by decide +kernel), rfl⟩
set_option maxRecDepth 20000 in
theorem gw_588 : Cond.code yX4_readOrder cX4_readOrder 1 (some .boolean) ∈ GW := List.mem_filter.mpr ⟨List.mem_of_getElem? (i := 588) rfl, rfl⟩
set_option maxRecDepth 20000 in
theorem gw_589 : Cond.methodLink RX4 33 yX4_peek ∈ GW := List.mem_filter.mpr ⟨List.mem_of_getElem? (i := 589) (by decide +kernel), rfl⟩
set_option maxRecDepth 20000 in
theorem gw_591 : Cond.instanceMethod yX4_peek ∈ GW := List.mem_filter.mpr ⟨List.mem_of_getElem? (i := 591) (by decide +kernel), rfl⟩
set_option maxRecDepth 20000 in
theorem gw_592 : Cond.code yX4_peek cX4_peek 2 (some .int) ∈ GW := List.mem_filter.mpr ⟨List.mem_of_getElem? (i := 592) rfl, rfl⟩
set_option maxRecDepth 20000 in
theorem gw_593 : Cond.methodLink RX4 40 yX4_readNumbers ∈ GW := List.mem_filter.mpr ⟨List.mem_of_getElem? (i := 593) (by decide +kernel), rfl⟩
set_option maxRecDepth 20000 in
theorem gw_595 : Cond.instanceMethod yX4_readNumbers ∈ GW := List.mem_filter.mpr ⟨List.mem_of_getElem? (i := 595) (by decide +kernel), rfl⟩
set_option maxRecDepth 20000 in
theorem gw_596 : Cond.code yX4_readNumbers cX4_readNumbers 2 (some .boolean) ∈ GW := List.mem_filter.mpr ⟨List.mem_of_getElem? (i := 596) rfl, rfl⟩
set_option maxRecDepth 20000 in
theorem gw_597 : Cond.methodLink RX4 43 yX4_readNumber ∈ GW := List.mem_filter.mpr ⟨List.mem_of_getElem? (i := 597) (by decide +kernel), rfl⟩
set_option maxRecDepth 20000 in
theorem gw_599 : Cond.instanceMethod yX4_readNumber ∈ GW := List.mem_filter.mpr ⟨List.mem_of_getElem? (i := 599) (by decide +kernel), rfl⟩
set_option maxRecDepth 20000 in
theorem gw_600 : Cond.code yX4_readNumber cX4_readNumber 3 (some .int) ∈ GW := List.mem_filter.mpr ⟨List.mem_of_getElem? (i := 600) rfl, rfl⟩
set_option maxRecDepth 20000 in
theorem gw_601 : Cond.methodLink RX4 52 yX4_readDigit ∈ GW := List.mem_filter.mpr ⟨List.mem_of_getElem? (i := 601) (by decide +kernel), rfl⟩
set_option maxRecDepth 20000 in
theorem gw_603 : Cond.instanceMethod yX4_readDigit ∈ GW := List.mem_filter.mpr ⟨List.mem_of_getElem? (i := 603) (by decide +kernel), rfl⟩
set_option maxRecDepth 20000 in
theorem gw_604 : Cond.code yX4_readDigit cX4_readDigit 2 (some .int) ∈ GW := List.mem_filter.mpr ⟨List.mem_of_getElem? (i := 604) rfl, rfl⟩
set_option maxRecDepth 20000 in
theorem gw_606 : Cond.methodLink RX4 29 yX4_accept ∈ GW := List.mem_filter.mpr ⟨List.mem_of_getElem? (i := 606) (by decide +kernel), rfl⟩
set_option maxRecDepth 20000 in
theorem gw_607 : Cond.instanceMethod yX4_accept ∈ GW := List.mem_filter.mpr ⟨List.mem_of_getElem? (i := 607) (by decide +kernel), rfl⟩
set_option maxRecDepth 20000 in
theorem gw_608 : Cond.selects RX4 yX4_accept yX4_accept ∈ GW := List.mem_filter.mpr ⟨List.mem_of_getElem? (i := 608) (by decide +kernel), rfl⟩
set_option maxRecDepth 20000 in
theorem gw_609 : Cond.code yX4_accept cX4_accept 2 (some .boolean) ∈ GW := List.mem_filter.mpr ⟨List.mem_of_getElem? (i := 609) rfl, rfl⟩
set_option maxRecDepth 20000 in
theorem gw_610 : Cond.methodLink RX6 135 yX4_rewind ∈ GW := List.mem_filter.mpr ⟨List.mem_of_getElem? (i := 610) (by decide +kernel), rfl⟩
set_option maxRecDepth 20000 in
theorem gw_611 : Cond.methodLink RX6 138 yX4_readOrder ∈ GW := List.mem_filter.mpr ⟨List.mem_of_getElem? (i := 611) (by decide +kernel), rfl⟩
set_option maxRecDepth 20000 in
theorem gw_612 : Cond.methodLink RX6 142 yX6_obey ∈ GW := List.mem_filter.mpr ⟨List.mem_of_getElem? (i := 612) (by decide +kernel), rfl⟩
set_option maxRecDepth 20000 in
theorem gw_614 : Cond.instanceMethod yX6_obey ∈ GW := List.mem_filter.mpr ⟨List.mem_of_getElem? (i := 614) (by decide +kernel), rfl⟩
set_option maxRecDepth 20000 in
theorem gw_615 : Cond.code yX6_obey cX6_obey 5 (some .int) ∈ GW := List.mem_filter.mpr ⟨List.mem_of_getElem? (i := 615) rfl, rfl⟩
set_option maxRecDepth 20000 in
theorem gw_616 : Cond.methodLink RX6 145 yX4_accept ∈ GW := List.mem_filter.mpr ⟨List.mem_of_getElem? (i := 616) (by decide +kernel), rfl⟩
set_option maxRecDepth 20000 in
theorem gw_617 : Cond.methodLink "RibbedLoansLaw" 81 yX6_count ∈ GW := List.mem_filter.mpr ⟨List.mem_of_getElem? (i := 617) (by decide +kernel), rfl⟩
set_option maxRecDepth 20000 in
theorem gw_618 : Cond.instanceMethod yX6_count ∈ GW := List.mem_filter.mpr ⟨List.mem_of_getElem? (i := 618) (by decide +kernel), rfl⟩
set_option maxRecDepth 20000 in
theorem gw_619 : Cond.selects RX6 yX6_count yX6_count ∈ GW := List.mem_filter.mpr ⟨List.mem_of_getElem? (i := 619) (by decide +kernel), rfl⟩
set_option maxRecDepth 20000 in
theorem gw_620 : Cond.code yX6_count cX6_count 4 (some .int) ∈ GW := List.mem_filter.mpr ⟨List.mem_of_getElem? (i := 620) rfl, rfl⟩
set_option maxRecDepth 20000 in
theorem gw_621 : Cond.methodLink RX6 167 yX5_numberOfKind ∈ GW := List.mem_filter.mpr ⟨List.mem_of_getElem? (i := 621) (by decide +kernel), rfl⟩
set_option maxRecDepth 20000 in
theorem gw_622 : Cond.methodLink RX6 170 yX5_numberBroken ∈ GW := List.mem_filter.mpr ⟨List.mem_of_getElem? (i := 622) (by decide +kernel), rfl⟩
set_option maxRecDepth 20000 in
theorem gw_623 : Cond.instanceMethod yX5_numberBroken ∈ GW := List.mem_filter.mpr ⟨List.mem_of_getElem? (i := 623) (by decide +kernel), rfl⟩
set_option maxRecDepth 20000 in
theorem gw_624 : Cond.selects RX5 yX5_numberBroken yX5_numberBroken ∈ GW := List.mem_filter.mpr ⟨List.mem_of_getElem? (i := 624) (by decide +kernel), rfl⟩
set_option maxRecDepth 20000 in
theorem gw_625 : Cond.code yX5_numberBroken cX5_numberBroken 3 (some .int) ∈ GW := List.mem_filter.mpr ⟨List.mem_of_getElem? (i := 625) rfl, rfl⟩
set_option maxRecDepth 20000 in
theorem gw_626 : Cond.methodLink RX6 180 yX2_sum ∈ GW := List.mem_filter.mpr ⟨List.mem_of_getElem? (i := 626) (by decide +kernel), rfl⟩
set_option maxRecDepth 20000 in
theorem gw_627 : Cond.instanceMethod yX2_sum ∈ GW := List.mem_filter.mpr ⟨List.mem_of_getElem? (i := 627) (by decide +kernel), rfl⟩
set_option maxRecDepth 20000 in
theorem gw_628 : Cond.selects RX2 yX2_sum yX2_sum ∈ GW := List.mem_filter.mpr ⟨List.mem_of_getElem? (i := 628) (by decide +kernel), rfl⟩
set_option maxRecDepth 20000 in
theorem gw_629 : Cond.code yX2_sum cX2_sum 6 (some .int) ∈ GW := List.mem_filter.mpr ⟨List.mem_of_getElem? (i := 629) rfl, rfl⟩
set_option maxRecDepth 20000 in
theorem gw_630 : Cond.methodLink RX6 200 yX3_numberKept ∈ GW := List.mem_filter.mpr ⟨List.mem_of_getElem? (i := 630) (by decide +kernel), rfl⟩
set_option maxRecDepth 20000 in
theorem gw_631 : Cond.instanceMethod yX3_numberKept ∈ GW := List.mem_filter.mpr ⟨List.mem_of_getElem? (i := 631) (by decide +kernel), rfl⟩
set_option maxRecDepth 20000 in
theorem gw_632 : Cond.selects RX3 yX3_numberKept yX3_numberKept ∈ GW := List.mem_filter.mpr ⟨List.mem_of_getElem? (i := 632) (by decide +kernel), rfl⟩
set_option maxRecDepth 20000 in
theorem gw_633 : Cond.code yX3_numberKept cX3_numberKept 1 (some .int) ∈ GW := List.mem_filter.mpr ⟨List.mem_of_getElem? (i := 633) rfl, rfl⟩
set_option maxRecDepth 20000 in
theorem gw_634 : Cond.methodLink "RibbedLoansLaw" 85 yX6_umbrella ∈ GW := List.mem_filter.mpr ⟨List.mem_of_getElem? (i := 634) (by decide +kernel), rfl⟩
set_option maxRecDepth 20000 in
theorem gw_635 : Cond.instanceMethod yX6_umbrella ∈ GW := List.mem_filter.mpr ⟨List.mem_of_getElem? (i := 635) (by decide +kernel), rfl⟩
set_option maxRecDepth 20000 in
theorem gw_636 : Cond.selects RX6 yX6_umbrella yX6_umbrella ∈ GW := List.mem_filter.mpr ⟨List.mem_of_getElem? (i := 636) (by decide +kernel), rfl⟩
set_option maxRecDepth 20000 in
theorem gw_637 : Cond.code yX6_umbrella cX6_umbrella 5 (some .int) ∈ GW := List.mem_filter.mpr ⟨List.mem_of_getElem? (i := 637) rfl, rfl⟩
set_option maxRecDepth 20000 in
theorem gw_638 : Cond.methodLink RX6 206 yX2_at ∈ GW := List.mem_filter.mpr ⟨List.mem_of_getElem? (i := 638) (by decide +kernel), rfl⟩
set_option maxRecDepth 20000 in
theorem gw_639 : Cond.methodLink RX6 209 yX6_kindOf ∈ GW := List.mem_filter.mpr ⟨List.mem_of_getElem? (i := 639) (by decide +kernel), rfl⟩
set_option maxRecDepth 20000 in
theorem gw_640 : Cond.methodLink RX6 212 yX6_ownerOf ∈ GW := List.mem_filter.mpr ⟨List.mem_of_getElem? (i := 640) (by decide +kernel), rfl⟩
set_option maxRecDepth 20000 in
theorem gw_641 : Cond.static yX6_ownerOf ∈ GW := List.mem_filter.mpr ⟨List.mem_of_getElem? (i := 641) (by decide +kernel), rfl⟩
set_option maxRecDepth 20000 in
theorem gw_642 : Cond.code yX6_ownerOf cX6_ownerOf 1 (some .int) ∈ GW := List.mem_filter.mpr ⟨List.mem_of_getElem? (i := 642) rfl, rfl⟩
set_option maxRecDepth 20000 in
theorem gw_643 : Cond.methodLink RX6 218 yX5_isBroken ∈ GW := List.mem_filter.mpr ⟨List.mem_of_getElem? (i := 643) (by decide +kernel), rfl⟩
set_option maxRecDepth 20000 in
theorem gw_644 : Cond.methodLink "RibbedLoansLaw" 89 yX6_stand ∈ GW := List.mem_filter.mpr ⟨List.mem_of_getElem? (i := 644) (by decide +kernel), rfl⟩
set_option maxRecDepth 20000 in
theorem gw_645 : Cond.instanceMethod yX6_stand ∈ GW := List.mem_filter.mpr ⟨List.mem_of_getElem? (i := 645) (by decide +kernel), rfl⟩
set_option maxRecDepth 20000 in
theorem gw_646 : Cond.selects RX6 yX6_stand yX6_stand ∈ GW := List.mem_filter.mpr ⟨List.mem_of_getElem? (i := 646) (by decide +kernel), rfl⟩
set_option maxRecDepth 20000 in
theorem gw_647 : Cond.code yX6_stand cX6_stand 4 (some .int) ∈ GW := List.mem_filter.mpr ⟨List.mem_of_getElem? (i := 647) rfl, rfl⟩
set_option maxRecDepth 20000 in
theorem gw_648 : Cond.methodLink RX6 227 yX5_numberAt ∈ GW := List.mem_filter.mpr ⟨List.mem_of_getElem? (i := 648) (by decide +kernel), rfl⟩
set_option maxRecDepth 20000 in
theorem gw_649 : Cond.methodLink RX6 230 yX5_brokenAt ∈ GW := List.mem_filter.mpr ⟨List.mem_of_getElem? (i := 649) (by decide +kernel), rfl⟩
set_option maxRecDepth 20000 in
theorem gw_650 : Cond.methodLink RX6 233 yX5_bestAt ∈ GW := List.mem_filter.mpr ⟨List.mem_of_getElem? (i := 650) (by decide +kernel), rfl⟩
set_option maxRecDepth 20000 in
theorem gw_651 : Cond.methodLink RX6 236 yX5_worstAt ∈ GW := List.mem_filter.mpr ⟨List.mem_of_getElem? (i := 651) (by decide +kernel), rfl⟩
set_option maxRecDepth 20000 in
theorem gw_652 : Cond.methodLink RX6 239 yX5_meanWearAt ∈ GW := List.mem_filter.mpr ⟨List.mem_of_getElem? (i := 652) (by decide +kernel), rfl⟩
set_option maxRecDepth 20000 in
theorem gw_653 : Cond.instanceMethod yX5_meanWearAt ∈ GW := List.mem_filter.mpr ⟨List.mem_of_getElem? (i := 653) (by decide +kernel), rfl⟩
set_option maxRecDepth 20000 in
theorem gw_654 : Cond.selects RX5 yX5_meanWearAt yX5_meanWearAt ∈ GW := List.mem_filter.mpr ⟨List.mem_of_getElem? (i := 654) (by decide +kernel), rfl⟩
set_option maxRecDepth 20000 in
theorem gw_655 : Cond.code yX5_meanWearAt cX5_meanWearAt 5 (some .int) ∈ GW := List.mem_filter.mpr ⟨List.mem_of_getElem? (i := 655) rfl, rfl⟩
set_option maxRecDepth 20000 in
theorem gw_656 : Cond.methodLink "RibbedLoansLaw" 93 yX6_person ∈ GW := List.mem_filter.mpr ⟨List.mem_of_getElem? (i := 656) (by decide +kernel), rfl⟩
set_option maxRecDepth 20000 in
theorem gw_657 : Cond.instanceMethod yX6_person ∈ GW := List.mem_filter.mpr ⟨List.mem_of_getElem? (i := 657) (by decide +kernel), rfl⟩
set_option maxRecDepth 20000 in
theorem gw_658 : Cond.selects RX6 yX6_person yX6_person ∈ GW := List.mem_filter.mpr ⟨List.mem_of_getElem? (i := 658) (by decide +kernel), rfl⟩
set_option maxRecDepth 20000 in
theorem gw_659 : Cond.code yX6_person cX6_person 5 (some .int) ∈ GW := List.mem_filter.mpr ⟨List.mem_of_getElem? (i := 659) rfl, rfl⟩
set_option maxRecDepth 20000 in
theorem gw_660 : Cond.methodLink RX6 242 yX0_inHand ∈ GW := List.mem_filter.mpr ⟨List.mem_of_getElem? (i := 660) (by decide +kernel), rfl⟩
set_option maxRecDepth 20000 in
theorem gw_661 : Cond.methodLink "RibbedLoansLaw" 97 yX6_inVan ∈ GW := List.mem_filter.mpr ⟨List.mem_of_getElem? (i := 661) (by decide +kernel), rfl⟩
set_option maxRecDepth 20000 in
theorem gw_662 : Cond.instanceMethod yX6_inVan ∈ GW := List.mem_filter.mpr ⟨List.mem_of_getElem? (i := 662) (by decide +kernel), rfl⟩
set_option maxRecDepth 20000 in
theorem gw_663 : Cond.selects RX6 yX6_inVan yX6_inVan ∈ GW := List.mem_filter.mpr ⟨List.mem_of_getElem? (i := 663) (by decide +kernel), rfl⟩
set_option maxRecDepth 20000 in
theorem gw_664 : Cond.code yX6_inVan cX6_inVan 3 (some .int) ∈ GW := List.mem_filter.mpr ⟨List.mem_of_getElem? (i := 664) rfl, rfl⟩
set_option maxRecDepth 20000 in
theorem gw_665 : Cond.methodLink RX6 251 yX5_nthAt ∈ GW := List.mem_filter.mpr ⟨List.mem_of_getElem? (i := 665) (by decide +kernel), rfl⟩
set_option maxRecDepth 20000 in
theorem gw_666 : Cond.methodLink "RibbedLoansLaw" 101 yX6_feeIn ∈ GW := List.mem_filter.mpr ⟨List.mem_of_getElem? (i := 666) (by decide +kernel), rfl⟩
set_option maxRecDepth 20000 in
theorem gw_667 : Cond.instanceMethod yX6_feeIn ∈ GW := List.mem_filter.mpr ⟨List.mem_of_getElem? (i := 667) (by decide +kernel), rfl⟩
set_option maxRecDepth 20000 in
theorem gw_668 : Cond.selects RX6 yX6_feeIn yX6_feeIn ∈ GW := List.mem_filter.mpr ⟨List.mem_of_getElem? (i := 668) (by decide +kernel), rfl⟩
set_option maxRecDepth 20000 in
theorem gw_669 : Cond.code yX6_feeIn cX6_feeIn 4 (some .int) ∈ GW := List.mem_filter.mpr ⟨List.mem_of_getElem? (i := 669) rfl, rfl⟩
set_option maxRecDepth 20000 in
theorem gw_670 : Cond.methodLink RX6 254 yX0_hasOne ∈ GW := List.mem_filter.mpr ⟨List.mem_of_getElem? (i := 670) (by decide +kernel), rfl⟩
set_option maxRecDepth 20000 in
theorem gw_671 : Cond.methodLink RX6 257 yX0_feeAfter ∈ GW := List.mem_filter.mpr ⟨List.mem_of_getElem? (i := 671) (by decide +kernel), rfl⟩
set_option maxRecDepth 20000 in
theorem gw_672 : Cond.methodLink "RibbedLoansLaw" 105 yX6_breaksIn ∈ GW := List.mem_filter.mpr ⟨List.mem_of_getElem? (i := 672) (by decide +kernel), rfl⟩
set_option maxRecDepth 20000 in
theorem gw_673 : Cond.instanceMethod yX6_breaksIn ∈ GW := List.mem_filter.mpr ⟨List.mem_of_getElem? (i := 673) (by decide +kernel), rfl⟩
set_option maxRecDepth 20000 in
theorem gw_674 : Cond.selects RX6 yX6_breaksIn yX6_breaksIn ∈ GW := List.mem_filter.mpr ⟨List.mem_of_getElem? (i := 674) (by decide +kernel), rfl⟩
set_option maxRecDepth 20000 in
theorem gw_675 : Cond.code yX6_breaksIn cX6_breaksIn 4 (some .int) ∈ GW := List.mem_filter.mpr ⟨List.mem_of_getElem? (i := 675) rfl, rfl⟩
set_option maxRecDepth 20000 in
theorem gw_676 : Cond.methodLink RX6 260 yX0_hoursToBreak ∈ GW := List.mem_filter.mpr ⟨List.mem_of_getElem? (i := 676) (by decide +kernel), rfl⟩
set_option maxRecDepth 20000 in
theorem gw_677 : Cond.instanceMethod yX0_hoursToBreak ∈ GW := List.mem_filter.mpr ⟨List.mem_of_getElem? (i := 677) (by decide +kernel), rfl⟩
set_option maxRecDepth 20000 in
theorem gw_678 : Cond.selects RX0 yX0_hoursToBreak yX0_hoursToBreak ∈ GW := List.mem_filter.mpr ⟨List.mem_of_getElem? (i := 678) (by decide +kernel), rfl⟩
set_option maxRecDepth 20000 in
theorem gw_679 : Cond.code yX0_hoursToBreak cX0_hoursToBreak 6 (some .int) ∈ GW := List.mem_filter.mpr ⟨List.mem_of_getElem? (i := 679) rfl, rfl⟩
set_option maxRecDepth 20000 in
theorem gw_680 : Cond.methodLink "RibbedLoansLaw" 109 yX6_emptied ∈ GW := List.mem_filter.mpr ⟨List.mem_of_getElem? (i := 680) (by decide +kernel), rfl⟩
set_option maxRecDepth 20000 in
theorem gw_681 : Cond.instanceMethod yX6_emptied ∈ GW := List.mem_filter.mpr ⟨List.mem_of_getElem? (i := 681) (by decide +kernel), rfl⟩
set_option maxRecDepth 20000 in
theorem gw_682 : Cond.selects RX6 yX6_emptied yX6_emptied ∈ GW := List.mem_filter.mpr ⟨List.mem_of_getElem? (i := 682) (by decide +kernel), rfl⟩
set_option maxRecDepth 20000 in
theorem gw_683 : Cond.code yX6_emptied cX6_emptied 3 (some .int) ∈ GW := List.mem_filter.mpr ⟨List.mem_of_getElem? (i := 683) rfl, rfl⟩
set_option maxRecDepth 20000 in
theorem gw_684 : Cond.methodLink RX6 263 yX0_lackAt ∈ GW := List.mem_filter.mpr ⟨List.mem_of_getElem? (i := 684) (by decide +kernel), rfl⟩
set_option maxRecDepth 20000 in
theorem gw_685 : Cond.instanceMethod yX0_lackAt ∈ GW := List.mem_filter.mpr ⟨List.mem_of_getElem? (i := 685) (by decide +kernel), rfl⟩
set_option maxRecDepth 20000 in
theorem gw_686 : Cond.selects RX0 yX0_lackAt yX0_lackAt ∈ GW := List.mem_filter.mpr ⟨List.mem_of_getElem? (i := 686) (by decide +kernel), rfl⟩
set_option maxRecDepth 20000 in
theorem gw_687 : Cond.code yX0_lackAt cX0_lackAt 4 (some .int) ∈ GW := List.mem_filter.mpr ⟨List.mem_of_getElem? (i := 687) rfl, rfl⟩
set_option maxRecDepth 20000 in
theorem gw_688 : Cond.methodLink "RibbedLoansLaw" 113 yX6_shortest ∈ GW := List.mem_filter.mpr ⟨List.mem_of_getElem? (i := 688) (by decide +kernel), rfl⟩
set_option maxRecDepth 20000 in
theorem gw_689 : Cond.instanceMethod yX6_shortest ∈ GW := List.mem_filter.mpr ⟨List.mem_of_getElem? (i := 689) (by decide +kernel), rfl⟩
set_option maxRecDepth 20000 in
theorem gw_690 : Cond.selects RX6 yX6_shortest yX6_shortest ∈ GW := List.mem_filter.mpr ⟨List.mem_of_getElem? (i := 690) (by decide +kernel), rfl⟩
set_option maxRecDepth 20000 in
theorem gw_691 : Cond.code yX6_shortest cX6_shortest 6 (some .int) ∈ GW := List.mem_filter.mpr ⟨List.mem_of_getElem? (i := 691) rfl, rfl⟩
set_option maxRecDepth 20000 in
theorem gw_692 : Cond.classLink "RibbedLoansLaw" 10 RX7 ∈ GW := List.mem_filter.mpr ⟨List.mem_of_getElem? (i := 692) (by decide +kernel), rfl⟩
set_option maxRecDepth 20000 in
theorem gw_693 : Cond.instantiable RX7 11 ∈ GW := List.mem_filter.mpr ⟨List.mem_of_getElem? (i := 693) (by decide +kernel), rfl⟩
set_option maxRecDepth 20000 in
theorem gw_694 : Cond.methodLink "RibbedLoansLaw" 12 yX7_init ∈ GW := List.mem_filter.mpr ⟨List.mem_of_getElem? (i := 694) (by decide +kernel), rfl⟩
set_option maxRecDepth 20000 in
theorem gw_695 : Cond.instanceMethod yX7_init ∈ GW := List.mem_filter.mpr ⟨List.mem_of_getElem? (i := 695) (by decide +kernel), rfl⟩
set_option maxRecDepth 20000 in
theorem gw_696 : Cond.code yX7_init cX7_init 2 none ∈ GW := List.mem_filter.mpr ⟨List.mem_of_getElem? (i := 696) rfl, rfl⟩
set_option maxRecDepth 20000 in
theorem gw_697 : Cond.methodLink RX7 1 objectInit ∈ GW := List.mem_filter.mpr ⟨List.mem_of_getElem? (i := 697) (by decide +kernel), rfl⟩
set_option maxRecDepth 20000 in
theorem gw_698 : Cond.fieldLink RX7 7 RX7 "p" "[I" ∈ GW := List.mem_filter.mpr ⟨List.mem_of_getElem? (i := 698) (by decide +kernel), rfl⟩
set_option maxRecDepth 20000 in
theorem gw_699 : Cond.fieldLink RX7 13 RX7 "saved" "[I" ∈ GW := List.mem_filter.mpr ⟨List.mem_of_getElem? (i := 699) (by decide +kernel), rfl⟩
set_option maxRecDepth 20000 in
theorem gw_700 : Cond.fieldLink RX7 16 RX7 "aside" "[I" ∈ GW := List.mem_filter.mpr ⟨List.mem_of_getElem? (i := 700) (by decide +kernel), rfl⟩
set_option maxRecDepth 20000 in
theorem gw_701 : Cond.fieldLink RX7 26 RX7 "states" "I" ∈ GW := List.mem_filter.mpr ⟨List.mem_of_getElem? (i := 701) (by decide +kernel), rfl⟩
set_option maxRecDepth 20000 in
theorem gw_702 : Cond.fieldLink RX7 19 RX7 "text" "[I" ∈ GW := List.mem_filter.mpr ⟨List.mem_of_getElem? (i := 702) (by decide +kernel), rfl⟩
set_option maxRecDepth 20000 in
theorem gw_703 : Cond.fieldLink RX7 116 RX7 "length" "I" ∈ GW := List.mem_filter.mpr ⟨List.mem_of_getElem? (i := 703) (by decide +kernel), rfl⟩
set_option maxRecDepth 20000 in
theorem gw_704 : Cond.fieldLink RX7 119 RX7 "at" "I" ∈ GW := List.mem_filter.mpr ⟨List.mem_of_getElem? (i := 704) (by decide +kernel), rfl⟩
set_option maxRecDepth 20000 in
theorem gw_705 : Cond.fieldLink RX7 128 RX7 "letter" "I" ∈ GW := List.mem_filter.mpr ⟨List.mem_of_getElem? (i := 705) (by decide +kernel), rfl⟩
set_option maxRecDepth 20000 in
theorem gw_706 : Cond.fieldLink RX7 135 RX7 "one" "I" ∈ GW := List.mem_filter.mpr ⟨List.mem_of_getElem? (i := 706) (by decide +kernel), rfl⟩
set_option maxRecDepth 20000 in
theorem gw_707 : Cond.fieldLink RX7 140 RX7 "two" "I" ∈ GW := List.mem_filter.mpr ⟨List.mem_of_getElem? (i := 707) (by decide +kernel), rfl⟩
set_option maxRecDepth 20000 in
theorem gw_708 : Cond.fieldLink RX7 125 RX7 "number" "I" ∈ GW := List.mem_filter.mpr ⟨List.mem_of_getElem? (i := 708) (by decide +kernel), rfl⟩
set_option maxRecDepth 20000 in
theorem gw_732 : Cond.methodLink "RibbedLoansLaw" 17 yX7_buy ∈ GW := List.mem_filter.mpr ⟨List.mem_of_getElem? (i := 732) (by decide +kernel), rfl⟩
set_option maxRecDepth 20000 in
theorem gw_733 : Cond.instanceMethod yX7_buy ∈ GW := List.mem_filter.mpr ⟨List.mem_of_getElem? (i := 733) (by decide +kernel), rfl⟩
set_option maxRecDepth 20000 in
theorem gw_734 : Cond.selects RX7 yX7_buy yX7_buy ∈ GW := List.mem_filter.mpr ⟨List.mem_of_getElem? (i := 734) (by decide +kernel), rfl⟩
set_option maxRecDepth 20000 in
theorem gw_735 : Cond.code yX7_buy cX7_buy 5 (some .int) ∈ GW := List.mem_filter.mpr ⟨List.mem_of_getElem? (i := 735) rfl, rfl⟩
set_option maxRecDepth 20000 in
theorem gw_736 : Cond.methodLink RX7 45 yX7_isStand ∈ GW := List.mem_filter.mpr ⟨List.mem_of_getElem? (i := 736) (by decide +kernel), rfl⟩
set_option maxRecDepth 20000 in
theorem gw_737 : Cond.static yX7_isStand ∈ GW := List.mem_filter.mpr ⟨List.mem_of_getElem? (i := 737) (by decide +kernel), rfl⟩
set_option maxRecDepth 20000 in
theorem gw_738 : Cond.code yX7_isStand cX7_isStand 1 (some .boolean) ∈ GW := List.mem_filter.mpr ⟨List.mem_of_getElem? (i := 738) rfl, rfl⟩
set_option maxRecDepth 20000 in
theorem gw_739 : Cond.methodLink RX7 22 yX7_in ∈ GW := List.mem_filter.mpr ⟨List.mem_of_getElem? (i := 739) (by decide +kernel), rfl⟩
set_option maxRecDepth 20000 in
theorem gw_740 : Cond.static yX7_in ∈ GW := List.mem_filter.mpr ⟨List.mem_of_getElem? (i := 740) (by decide +kernel), rfl⟩
set_option maxRecDepth 20000 in
theorem gw_741 : Cond.code yX7_in cX7_in 3 (some .boolean) ∈ GW := List.mem_filter.mpr ⟨List.mem_of_getElem? (i := 741) rfl, rfl⟩
set_option maxRecDepth 20000 in
theorem gw_742 : Cond.methodLink RX7 48 yX7_canSpend ∈ GW := List.mem_filter.mpr ⟨List.mem_of_getElem? (i := 742) (by decide +kernel), rfl⟩
set_option maxRecDepth 20000 in
theorem gw_744 : Cond.instanceMethod yX7_canSpend ∈ GW := List.mem_filter.mpr ⟨List.mem_of_getElem? (i := 744) (by decide +kernel), rfl⟩
set_option maxRecDepth 20000 in
theorem gw_745 : Cond.code yX7_canSpend cX7_canSpend 2 (some .boolean) ∈ GW := List.mem_filter.mpr ⟨List.mem_of_getElem? (i := 745) rfl, rfl⟩
set_option maxRecDepth 20000 in
theorem gw_746 : Cond.methodLink RX7 41 yX7_manyIn ∈ GW := List.mem_filter.mpr ⟨List.mem_of_getElem? (i := 746) (by decide +kernel), rfl⟩
set_option maxRecDepth 20000 in
theorem gw_748 : Cond.instanceMethod yX7_manyIn ∈ GW := List.mem_filter.mpr ⟨List.mem_of_getElem? (i := 748) (by decide +kernel), rfl⟩
set_option maxRecDepth 20000 in
theorem gw_749 : Cond.code yX7_manyIn cX7_manyIn 4 (some .int) ∈ GW := List.mem_filter.mpr ⟨List.mem_of_getElem? (i := 749) rfl, rfl⟩
set_option maxRecDepth 20000 in
theorem gw_750 : Cond.methodLink RX7 51 yX7_roomOf ∈ GW := List.mem_filter.mpr ⟨List.mem_of_getElem? (i := 750) (by decide +kernel), rfl⟩
set_option maxRecDepth 20000 in
theorem gw_752 : Cond.instanceMethod yX7_roomOf ∈ GW := List.mem_filter.mpr ⟨List.mem_of_getElem? (i := 752) (by decide +kernel), rfl⟩
set_option maxRecDepth 20000 in
theorem gw_753 : Cond.code yX7_roomOf cX7_roomOf 2 (some .int) ∈ GW := List.mem_filter.mpr ⟨List.mem_of_getElem? (i := 753) rfl, rfl⟩
set_option maxRecDepth 20000 in
theorem gw_754 : Cond.methodLink RX7 37 yX7_manyAt ∈ GW := List.mem_filter.mpr ⟨List.mem_of_getElem? (i := 754) (by decide +kernel), rfl⟩
set_option maxRecDepth 20000 in
theorem gw_756 : Cond.instanceMethod yX7_manyAt ∈ GW := List.mem_filter.mpr ⟨List.mem_of_getElem? (i := 756) (by decide +kernel), rfl⟩
set_option maxRecDepth 20000 in
theorem gw_757 : Cond.code yX7_manyAt cX7_manyAt 5 (some .int) ∈ GW := List.mem_filter.mpr ⟨List.mem_of_getElem? (i := 757) rfl, rfl⟩
set_option maxRecDepth 20000 in
theorem gw_758 : Cond.methodLink RX7 30 yX7_isAt ∈ GW := List.mem_filter.mpr ⟨List.mem_of_getElem? (i := 758) (by decide +kernel), rfl⟩
set_option maxRecDepth 20000 in
theorem gw_760 : Cond.instanceMethod yX7_isAt ∈ GW := List.mem_filter.mpr ⟨List.mem_of_getElem? (i := 760) (by decide +kernel), rfl⟩
set_option maxRecDepth 20000 in
theorem gw_761 : Cond.code yX7_isAt cX7_isAt 4 (some .boolean) ∈ GW := List.mem_filter.mpr ⟨List.mem_of_getElem? (i := 761) rfl, rfl⟩
set_option maxRecDepth 20000 in
theorem gw_762 : Cond.methodLink RX7 54 yX7_save ∈ GW := List.mem_filter.mpr ⟨List.mem_of_getElem? (i := 762) (by decide +kernel), rfl⟩
set_option maxRecDepth 20000 in
theorem gw_764 : Cond.instanceMethod yX7_save ∈ GW := List.mem_filter.mpr ⟨List.mem_of_getElem? (i := 764) (by decide +kernel), rfl⟩
set_option maxRecDepth 20000 in
theorem gw_765 : Cond.code yX7_save cX7_save 2 none ∈ GW := List.mem_filter.mpr ⟨List.mem_of_getElem? (i := 765) rfl, rfl⟩
set_option maxRecDepth 20000 in
theorem gw_766 : Cond.methodLink RX7 57 yX7_goes ∈ GW := List.mem_filter.mpr ⟨List.mem_of_getElem? (i := 766) (by decide +kernel), rfl⟩
set_option maxRecDepth 20000 in
theorem gw_768 : Cond.instanceMethod yX7_goes ∈ GW := List.mem_filter.mpr ⟨List.mem_of_getElem? (i := 768) (by decide +kernel), rfl⟩
set_option maxRecDepth 20000 in
theorem gw_769 : Cond.code yX7_goes cX7_goes 4 none ∈ GW := List.mem_filter.mpr ⟨List.mem_of_getElem? (i := 769) rfl, rfl⟩
set_option maxRecDepth 20000 in
theorem gw_770 : Cond.methodLink RX7 61 yX7_spends ∈ GW := List.mem_filter.mpr ⟨List.mem_of_getElem? (i := 770) (by decide +kernel), rfl⟩
set_option maxRecDepth 20000 in
theorem gw_772 : Cond.instanceMethod yX7_spends ∈ GW := List.mem_filter.mpr ⟨List.mem_of_getElem? (i := 772) (by decide +kernel), rfl⟩
set_option maxRecDepth 20000 in
theorem gw_773 : Cond.code yX7_spends cX7_spends 2 none ∈ GW := List.mem_filter.mpr ⟨List.mem_of_getElem? (i := 773) rfl, rfl⟩
set_option maxRecDepth 20000 in
theorem gw_774 : Cond.methodLink "RibbedLoansLaw" 21 yX7_set ∈ GW := List.mem_filter.mpr ⟨List.mem_of_getElem? (i := 774) (by decide +kernel), rfl⟩
set_option maxRecDepth 20000 in
theorem gw_775 : Cond.instanceMethod yX7_set ∈ GW := List.mem_filter.mpr ⟨List.mem_of_getElem? (i := 775) (by decide +kernel), rfl⟩
set_option maxRecDepth 20000 in
theorem gw_776 : Cond.selects RX7 yX7_set yX7_set ∈ GW := List.mem_filter.mpr ⟨List.mem_of_getElem? (i := 776) (by decide +kernel), rfl⟩
set_option maxRecDepth 20000 in
theorem gw_777 : Cond.code yX7_set cX7_set 5 (some .int) ∈ GW := List.mem_filter.mpr ⟨List.mem_of_getElem? (i := 777) rfl, rfl⟩
set_option maxRecDepth 20000 in
theorem gw_778 : Cond.methodLink "RibbedLoansLaw" 25 yX7_borrow ∈ GW := List.mem_filter.mpr ⟨List.mem_of_getElem? (i := 778) (by decide +kernel), rfl⟩
set_option maxRecDepth 20000 in
theorem gw_779 : Cond.instanceMethod yX7_borrow ∈ GW := List.mem_filter.mpr ⟨List.mem_of_getElem? (i := 779) (by decide +kernel), rfl⟩
set_option maxRecDepth 20000 in
theorem gw_780 : Cond.selects RX7 yX7_borrow yX7_borrow ∈ GW := List.mem_filter.mpr ⟨List.mem_of_getElem? (i := 780) (by decide +kernel), rfl⟩
set_option maxRecDepth 20000 in
theorem gw_781 : Cond.code yX7_borrow cX7_borrow 4 (some .int) ∈ GW := List.mem_filter.mpr ⟨List.mem_of_getElem? (i := 781) rfl, rfl⟩
set_option maxRecDepth 20000 in
theorem gw_782 : Cond.methodLink RX7 74 yX7_whyBorrow ∈ GW := List.mem_filter.mpr ⟨List.mem_of_getElem? (i := 782) (by decide +kernel), rfl⟩
set_option maxRecDepth 20000 in
theorem gw_784 : Cond.instanceMethod yX7_whyBorrow ∈ GW := List.mem_filter.mpr ⟨List.mem_of_getElem? (i := 784) (by decide +kernel), rfl⟩
set_option maxRecDepth 20000 in
theorem gw_785 : Cond.code yX7_whyBorrow cX7_whyBorrow 3 (some .int) ∈ GW := List.mem_filter.mpr ⟨List.mem_of_getElem? (i := 785) rfl, rfl⟩
set_option maxRecDepth 20000 in
theorem gw_786 : Cond.methodLink RX7 65 yX7_isPerson ∈ GW := List.mem_filter.mpr ⟨List.mem_of_getElem? (i := 786) (by decide +kernel), rfl⟩
set_option maxRecDepth 20000 in
theorem gw_787 : Cond.static yX7_isPerson ∈ GW := List.mem_filter.mpr ⟨List.mem_of_getElem? (i := 787) (by decide +kernel), rfl⟩
set_option maxRecDepth 20000 in
theorem gw_788 : Cond.code yX7_isPerson cX7_isPerson 1 (some .boolean) ∈ GW := List.mem_filter.mpr ⟨List.mem_of_getElem? (i := 788) rfl, rfl⟩
set_option maxRecDepth 20000 in
theorem gw_789 : Cond.methodLink RX7 68 yX7_canBorrow ∈ GW := List.mem_filter.mpr ⟨List.mem_of_getElem? (i := 789) (by decide +kernel), rfl⟩
set_option maxRecDepth 20000 in
theorem gw_791 : Cond.instanceMethod yX7_canBorrow ∈ GW := List.mem_filter.mpr ⟨List.mem_of_getElem? (i := 791) (by decide +kernel), rfl⟩
set_option maxRecDepth 20000 in
theorem gw_792 : Cond.code yX7_canBorrow cX7_canBorrow 2 (some .boolean) ∈ GW := List.mem_filter.mpr ⟨List.mem_of_getElem? (i := 792) rfl, rfl⟩
set_option maxRecDepth 20000 in
theorem gw_793 : Cond.methodLink RX7 71 yX7_bestOf ∈ GW := List.mem_filter.mpr ⟨List.mem_of_getElem? (i := 793) (by decide +kernel), rfl⟩
set_option maxRecDepth 20000 in
theorem gw_795 : Cond.instanceMethod yX7_bestOf ∈ GW := List.mem_filter.mpr ⟨List.mem_of_getElem? (i := 795) (by decide +kernel), rfl⟩
set_option maxRecDepth 20000 in
theorem gw_796 : Cond.code yX7_bestOf cX7_bestOf 5 (some .int) ∈ GW := List.mem_filter.mpr ⟨List.mem_of_getElem? (i := 796) rfl, rfl⟩
set_option maxRecDepth 20000 in
theorem gw_797 : Cond.methodLink RX7 33 yX7_isBroken ∈ GW := List.mem_filter.mpr ⟨List.mem_of_getElem? (i := 797) (by decide +kernel), rfl⟩
set_option maxRecDepth 20000 in
theorem gw_799 : Cond.instanceMethod yX7_isBroken ∈ GW := List.mem_filter.mpr ⟨List.mem_of_getElem? (i := 799) (by decide +kernel), rfl⟩
set_option maxRecDepth 20000 in
theorem gw_800 : Cond.code yX7_isBroken cX7_isBroken 2 (some .boolean) ∈ GW := List.mem_filter.mpr ⟨List.mem_of_getElem? (i := 800) rfl, rfl⟩
set_option maxRecDepth 20000 in
theorem gw_801 : Cond.methodLink RX7 77 yX7_borrows ∈ GW := List.mem_filter.mpr ⟨List.mem_of_getElem? (i := 801) (by decide +kernel), rfl⟩
set_option maxRecDepth 20000 in
theorem gw_803 : Cond.instanceMethod yX7_borrows ∈ GW := List.mem_filter.mpr ⟨List.mem_of_getElem? (i := 803) (by decide +kernel), rfl⟩
set_option maxRecDepth 20000 in
theorem gw_804 : Cond.code yX7_borrows cX7_borrows 4 (some .int) ∈ GW := List.mem_filter.mpr ⟨List.mem_of_getElem? (i := 804) rfl, rfl⟩
set_option maxRecDepth 20000 in
theorem gw_805 : Cond.methodLink "RibbedLoansLaw" 29 yX7_bringBack ∈ GW := List.mem_filter.mpr ⟨List.mem_of_getElem? (i := 805) (by decide +kernel), rfl⟩
set_option maxRecDepth 20000 in
theorem gw_806 : Cond.instanceMethod yX7_bringBack ∈ GW := List.mem_filter.mpr ⟨List.mem_of_getElem? (i := 806) (by decide +kernel), rfl⟩
set_option maxRecDepth 20000 in
theorem gw_807 : Cond.selects RX7 yX7_bringBack yX7_bringBack ∈ GW := List.mem_filter.mpr ⟨List.mem_of_getElem? (i := 807) (by decide +kernel), rfl⟩
set_option maxRecDepth 20000 in
theorem gw_808 : Cond.code yX7_bringBack cX7_bringBack 4 (some .int) ∈ GW := List.mem_filter.mpr ⟨List.mem_of_getElem? (i := 808) rfl, rfl⟩
set_option maxRecDepth 20000 in
theorem gw_809 : Cond.methodLink RX7 84 yX7_whyBring ∈ GW := List.mem_filter.mpr ⟨List.mem_of_getElem? (i := 809) (by decide +kernel), rfl⟩
set_option maxRecDepth 20000 in
theorem gw_811 : Cond.instanceMethod yX7_whyBring ∈ GW := List.mem_filter.mpr ⟨List.mem_of_getElem? (i := 811) (by decide +kernel), rfl⟩
set_option maxRecDepth 20000 in
theorem gw_812 : Cond.code yX7_whyBring cX7_whyBring 3 (some .int) ∈ GW := List.mem_filter.mpr ⟨List.mem_of_getElem? (i := 812) rfl, rfl⟩
set_option maxRecDepth 20000 in
theorem gw_813 : Cond.methodLink RX7 87 yX7_brings ∈ GW := List.mem_filter.mpr ⟨List.mem_of_getElem? (i := 813) (by decide +kernel), rfl⟩
set_option maxRecDepth 20000 in
theorem gw_815 : Cond.instanceMethod yX7_brings ∈ GW := List.mem_filter.mpr ⟨List.mem_of_getElem? (i := 815) (by decide +kernel), rfl⟩
set_option maxRecDepth 20000 in
theorem gw_816 : Cond.code yX7_brings cX7_brings 4 (some .int) ∈ GW := List.mem_filter.mpr ⟨List.mem_of_getElem? (i := 816) rfl, rfl⟩
set_option maxRecDepth 20000 in
theorem gw_817 : Cond.methodLink RX7 80 yX7_fee ∈ GW := List.mem_filter.mpr ⟨List.mem_of_getElem? (i := 817) (by decide +kernel), rfl⟩
set_option maxRecDepth 20000 in
theorem gw_819 : Cond.instanceMethod yX7_fee ∈ GW := List.mem_filter.mpr ⟨List.mem_of_getElem? (i := 819) (by decide +kernel), rfl⟩
set_option maxRecDepth 20000 in
theorem gw_820 : Cond.code yX7_fee cX7_fee 4 (some .int) ∈ GW := List.mem_filter.mpr ⟨List.mem_of_getElem? (i := 820) rfl, rfl⟩
set_option maxRecDepth 20000 in
theorem gw_821 : Cond.methodLink "RibbedLoansLaw" 33 yX7_hour ∈ GW := List.mem_filter.mpr ⟨List.mem_of_getElem? (i := 821) (by decide +kernel), rfl⟩
set_option maxRecDepth 20000 in
theorem gw_822 : Cond.instanceMethod yX7_hour ∈ GW := List.mem_filter.mpr ⟨List.mem_of_getElem? (i := 822) (by decide +kernel), rfl⟩
set_option maxRecDepth 20000 in
theorem gw_823 : Cond.selects RX7 yX7_hour yX7_hour ∈ GW := List.mem_filter.mpr ⟨List.mem_of_getElem? (i := 823) (by decide +kernel), rfl⟩
set_option maxRecDepth 20000 in
theorem gw_824 : Cond.code yX7_hour cX7_hour 4 (some .int) ∈ GW := List.mem_filter.mpr ⟨List.mem_of_getElem? (i := 824) rfl, rfl⟩
set_option maxRecDepth 20000 in
theorem gw_825 : Cond.methodLink RX7 94 yX7_whyHour ∈ GW := List.mem_filter.mpr ⟨List.mem_of_getElem? (i := 825) (by decide +kernel), rfl⟩
set_option maxRecDepth 20000 in
theorem gw_827 : Cond.instanceMethod yX7_whyHour ∈ GW := List.mem_filter.mpr ⟨List.mem_of_getElem? (i := 827) (by decide +kernel), rfl⟩
set_option maxRecDepth 20000 in
theorem gw_828 : Cond.code yX7_whyHour cX7_whyHour 3 (some .int) ∈ GW := List.mem_filter.mpr ⟨List.mem_of_getElem? (i := 828) rfl, rfl⟩
set_option maxRecDepth 20000 in
theorem gw_829 : Cond.methodLink RX7 97 yX7_passes ∈ GW := List.mem_filter.mpr ⟨List.mem_of_getElem? (i := 829) (by decide +kernel), rfl⟩
set_option maxRecDepth 20000 in
theorem gw_831 : Cond.instanceMethod yX7_passes ∈ GW := List.mem_filter.mpr ⟨List.mem_of_getElem? (i := 831) (by decide +kernel), rfl⟩
set_option maxRecDepth 20000 in
theorem gw_832 : Cond.code yX7_passes cX7_passes 8 (some .int) ∈ GW := List.mem_filter.mpr ⟨List.mem_of_getElem? (i := 832) rfl, rfl⟩
set_option maxRecDepth 20000 in
theorem gw_833 : Cond.methodLink RX7 90 yX7_worn ∈ GW := List.mem_filter.mpr ⟨List.mem_of_getElem? (i := 833) (by decide +kernel), rfl⟩
set_option maxRecDepth 20000 in
theorem gw_834 : Cond.static yX7_worn ∈ GW := List.mem_filter.mpr ⟨List.mem_of_getElem? (i := 834) (by decide +kernel), rfl⟩
set_option maxRecDepth 20000 in
theorem gw_835 : Cond.code yX7_worn cX7_worn 4 (some .int) ∈ GW := List.mem_filter.mpr ⟨List.mem_of_getElem? (i := 835) rfl, rfl⟩
set_option maxRecDepth 20000 in
theorem gw_836 : Cond.methodLink "RibbedLoansLaw" 38 yX7_load ∈ GW := List.mem_filter.mpr ⟨List.mem_of_getElem? (i := 836) (by decide +kernel), rfl⟩
set_option maxRecDepth 20000 in
theorem gw_837 : Cond.instanceMethod yX7_load ∈ GW := List.mem_filter.mpr ⟨List.mem_of_getElem? (i := 837) (by decide +kernel), rfl⟩
set_option maxRecDepth 20000 in
theorem gw_838 : Cond.selects RX7 yX7_load yX7_load ∈ GW := List.mem_filter.mpr ⟨List.mem_of_getElem? (i := 838) (by decide +kernel), rfl⟩
set_option maxRecDepth 20000 in
theorem gw_839 : Cond.code yX7_load cX7_load 7 (some .int) ∈ GW := List.mem_filter.mpr ⟨List.mem_of_getElem? (i := 839) rfl, rfl⟩
set_option maxRecDepth 20000 in
theorem gw_840 : Cond.methodLink RX7 100 yX7_isLoad ∈ GW := List.mem_filter.mpr ⟨List.mem_of_getElem? (i := 840) (by decide +kernel), rfl⟩
set_option maxRecDepth 20000 in
theorem gw_841 : Cond.static yX7_isLoad ∈ GW := List.mem_filter.mpr ⟨List.mem_of_getElem? (i := 841) (by decide +kernel), rfl⟩
set_option maxRecDepth 20000 in
theorem gw_842 : Cond.code yX7_isLoad cX7_isLoad 3 (some .boolean) ∈ GW := List.mem_filter.mpr ⟨List.mem_of_getElem? (i := 842) rfl, rfl⟩
set_option maxRecDepth 20000 in
theorem gw_843 : Cond.methodLink RX7 103 yX7_worstOf ∈ GW := List.mem_filter.mpr ⟨List.mem_of_getElem? (i := 843) (by decide +kernel), rfl⟩
set_option maxRecDepth 20000 in
theorem gw_845 : Cond.instanceMethod yX7_worstOf ∈ GW := List.mem_filter.mpr ⟨List.mem_of_getElem? (i := 845) (by decide +kernel), rfl⟩
set_option maxRecDepth 20000 in
theorem gw_846 : Cond.code yX7_worstOf cX7_worstOf 5 (some .int) ∈ GW := List.mem_filter.mpr ⟨List.mem_of_getElem? (i := 846) rfl, rfl⟩
set_option maxRecDepth 20000 in
theorem gw_847 : Cond.methodLink "RibbedLoansLaw" 42 yX7_unload ∈ GW := List.mem_filter.mpr ⟨List.mem_of_getElem? (i := 847) (by decide +kernel), rfl⟩
set_option maxRecDepth 20000 in
theorem gw_848 : Cond.instanceMethod yX7_unload ∈ GW := List.mem_filter.mpr ⟨List.mem_of_getElem? (i := 848) (by decide +kernel), rfl⟩
set_option maxRecDepth 20000 in
theorem gw_849 : Cond.selects RX7 yX7_unload yX7_unload ∈ GW := List.mem_filter.mpr ⟨List.mem_of_getElem? (i := 849) (by decide +kernel), rfl⟩
set_option maxRecDepth 20000 in
theorem gw_850 : Cond.code yX7_unload cX7_unload 6 (some .int) ∈ GW := List.mem_filter.mpr ⟨List.mem_of_getElem? (i := 850) rfl, rfl⟩
set_option maxRecDepth 20000 in
theorem gw_851 : Cond.methodLink RX7 106 yX7_brokenAt ∈ GW := List.mem_filter.mpr ⟨List.mem_of_getElem? (i := 851) (by decide +kernel), rfl⟩
set_option maxRecDepth 20000 in
theorem gw_853 : Cond.instanceMethod yX7_brokenAt ∈ GW := List.mem_filter.mpr ⟨List.mem_of_getElem? (i := 853) (by decide +kernel), rfl⟩
set_option maxRecDepth 20000 in
theorem gw_854 : Cond.code yX7_brokenAt cX7_brokenAt 5 (some .int) ∈ GW := List.mem_filter.mpr ⟨List.mem_of_getElem? (i := 854) rfl, rfl⟩
set_option maxRecDepth 20000 in
theorem gw_855 : Cond.methodLink "RibbedLoansLaw" 47 yX7_toWorkshop ∈ GW := List.mem_filter.mpr ⟨List.mem_of_getElem? (i := 855) (by decide +kernel), rfl⟩
set_option maxRecDepth 20000 in
theorem gw_856 : Cond.instanceMethod yX7_toWorkshop ∈ GW := List.mem_filter.mpr ⟨List.mem_of_getElem? (i := 856) (by decide +kernel), rfl⟩
set_option maxRecDepth 20000 in
theorem gw_857 : Cond.selects RX7 yX7_toWorkshop yX7_toWorkshop ∈ GW := List.mem_filter.mpr ⟨List.mem_of_getElem? (i := 857) (by decide +kernel), rfl⟩
set_option maxRecDepth 20000 in
theorem gw_858 : Cond.code yX7_toWorkshop cX7_toWorkshop 4 (some .int) ∈ GW := List.mem_filter.mpr ⟨List.mem_of_getElem? (i := 858) rfl, rfl⟩
set_option maxRecDepth 20000 in
theorem gw_859 : Cond.methodLink "RibbedLoansLaw" 51 yX7_mend ∈ GW := List.mem_filter.mpr ⟨List.mem_of_getElem? (i := 859) (by decide +kernel), rfl⟩
set_option maxRecDepth 20000 in
theorem gw_860 : Cond.instanceMethod yX7_mend ∈ GW := List.mem_filter.mpr ⟨List.mem_of_getElem? (i := 860) (by decide +kernel), rfl⟩
set_option maxRecDepth 20000 in
theorem gw_861 : Cond.selects RX7 yX7_mend yX7_mend ∈ GW := List.mem_filter.mpr ⟨List.mem_of_getElem? (i := 861) (by decide +kernel), rfl⟩
set_option maxRecDepth 20000 in
theorem gw_862 : Cond.code yX7_mend cX7_mend 6 (some .int) ∈ GW := List.mem_filter.mpr ⟨List.mem_of_getElem? (i := 862) rfl, rfl⟩
set_option maxRecDepth 20000 in
theorem gw_863 : Cond.methodLink RX7 109 yX7_leastInShop ∈ GW := List.mem_filter.mpr ⟨List.mem_of_getElem? (i := 863) (by decide +kernel), rfl⟩
set_option maxRecDepth 20000 in
theorem gw_865 : Cond.instanceMethod yX7_leastInShop ∈ GW := List.mem_filter.mpr ⟨List.mem_of_getElem? (i := 865) (by decide +kernel), rfl⟩
set_option maxRecDepth 20000 in
theorem gw_866 : Cond.code yX7_leastInShop cX7_leastInShop 5 (some .int) ∈ GW := List.mem_filter.mpr ⟨List.mem_of_getElem? (i := 866) rfl, rfl⟩
set_option maxRecDepth 20000 in
theorem gw_867 : Cond.methodLink "RibbedLoansLaw" 56 yX7_level ∈ GW := List.mem_filter.mpr ⟨List.mem_of_getElem? (i := 867) (by decide +kernel), rfl⟩
set_option maxRecDepth 20000 in
theorem gw_868 : Cond.instanceMethod yX7_level ∈ GW := List.mem_filter.mpr ⟨List.mem_of_getElem? (i := 868) (by decide +kernel), rfl⟩
set_option maxRecDepth 20000 in
theorem gw_869 : Cond.selects RX7 yX7_level yX7_level ∈ GW := List.mem_filter.mpr ⟨List.mem_of_getElem? (i := 869) (by decide +kernel), rfl⟩
set_option maxRecDepth 20000 in
theorem gw_870 : Cond.code yX7_level cX7_level 1 (some .int) ∈ GW := List.mem_filter.mpr ⟨List.mem_of_getElem? (i := 870) rfl, rfl⟩
set_option maxRecDepth 20000 in
theorem gw_871 : Cond.methodLink RX7 112 yX7_levels ∈ GW := List.mem_filter.mpr ⟨List.mem_of_getElem? (i := 871) (by decide +kernel), rfl⟩
set_option maxRecDepth 20000 in
theorem gw_873 : Cond.instanceMethod yX7_levels ∈ GW := List.mem_filter.mpr ⟨List.mem_of_getElem? (i := 873) (by decide +kernel), rfl⟩
set_option maxRecDepth 20000 in
theorem gw_874 : Cond.code yX7_levels cX7_levels 7 (some .int) ∈ GW := List.mem_filter.mpr ⟨List.mem_of_getElem? (i := 874) rfl, rfl⟩
set_option maxRecDepth 20000 in
theorem gw_875 : Cond.methodLink "RibbedLoansLaw" 60 yX7_take ∈ GW := List.mem_filter.mpr ⟨List.mem_of_getElem? (i := 875) (by decide +kernel), rfl⟩
set_option maxRecDepth 20000 in
theorem gw_876 : Cond.instanceMethod yX7_take ∈ GW := List.mem_filter.mpr ⟨List.mem_of_getElem? (i := 876) (by decide +kernel), rfl⟩
set_option maxRecDepth 20000 in
theorem gw_877 : Cond.selects RX7 yX7_take yX7_take ∈ GW := List.mem_filter.mpr ⟨List.mem_of_getElem? (i := 877) (by decide +kernel), rfl⟩
set_option maxRecDepth 20000 in
theorem gw_878 : Cond.code yX7_take cX7_take 4 (some .int) ∈ GW := List.mem_filter.mpr ⟨List.mem_of_getElem? (i := 878) rfl, rfl⟩
set_option maxRecDepth 20000 in
theorem gw_879 : Cond.methodLink "RibbedLoansLaw" 64 yX7_restore ∈ GW := List.mem_filter.mpr ⟨List.mem_of_getElem? (i := 879) (by decide +kernel), rfl⟩
set_option maxRecDepth 20000 in
theorem gw_880 : Cond.instanceMethod yX7_restore ∈ GW := List.mem_filter.mpr ⟨List.mem_of_getElem? (i := 880) (by decide +kernel), rfl⟩
set_option maxRecDepth 20000 in
theorem gw_881 : Cond.selects RX7 yX7_restore yX7_restore ∈ GW := List.mem_filter.mpr ⟨List.mem_of_getElem? (i := 881) (by decide +kernel), rfl⟩
set_option maxRecDepth 20000 in
theorem gw_882 : Cond.code yX7_restore cX7_restore 4 (some .int) ∈ GW := List.mem_filter.mpr ⟨List.mem_of_getElem? (i := 882) rfl, rfl⟩
set_option maxRecDepth 20000 in
theorem gw_883 : Cond.methodLink "RibbedLoansLaw" 68 yX7_undo ∈ GW := List.mem_filter.mpr ⟨List.mem_of_getElem? (i := 883) (by decide +kernel), rfl⟩
set_option maxRecDepth 20000 in
theorem gw_884 : Cond.instanceMethod yX7_undo ∈ GW := List.mem_filter.mpr ⟨List.mem_of_getElem? (i := 884) (by decide +kernel), rfl⟩
set_option maxRecDepth 20000 in
theorem gw_885 : Cond.selects RX7 yX7_undo yX7_undo ∈ GW := List.mem_filter.mpr ⟨List.mem_of_getElem? (i := 885) (by decide +kernel), rfl⟩
set_option maxRecDepth 20000 in
theorem gw_886 : Cond.code yX7_undo cX7_undo 2 (some .int) ∈ GW := List.mem_filter.mpr ⟨List.mem_of_getElem? (i := 886) rfl, rfl⟩
set_option maxRecDepth 20000 in
theorem gw_887 : Cond.methodLink "RibbedLoansLaw" 72 yX7_append ∈ GW := List.mem_filter.mpr ⟨List.mem_of_getElem? (i := 887) (by decide +kernel), rfl⟩
set_option maxRecDepth 20000 in
theorem gw_888 : Cond.instanceMethod yX7_append ∈ GW := List.mem_filter.mpr ⟨List.mem_of_getElem? (i := 888) (by decide +kernel), rfl⟩
set_option maxRecDepth 20000 in
theorem gw_889 : Cond.selects RX7 yX7_append yX7_append ∈ GW := List.mem_filter.mpr ⟨List.mem_of_getElem? (i := 889) (by decide +kernel), rfl⟩
set_option maxRecDepth 20000 in
theorem gw_890 : Cond.code yX7_append cX7_append 2 (some .int) ∈ GW := List.mem_filter.mpr ⟨List.mem_of_getElem? (i := 890) rfl, rfl⟩
set_option maxRecDepth 20000 in
theorem gw_891 : Cond.methodLink "RibbedLoansLaw" 76 yX7_clearText ∈ GW := List.mem_filter.mpr ⟨List.mem_of_getElem? (i := 891) (by decide +kernel), rfl⟩
set_option maxRecDepth 20000 in
theorem gw_892 : Cond.instanceMethod yX7_clearText ∈ GW := List.mem_filter.mpr ⟨List.mem_of_getElem? (i := 892) (by decide +kernel), rfl⟩
set_option maxRecDepth 20000 in
theorem gw_893 : Cond.selects RX7 yX7_clearText yX7_clearText ∈ GW := List.mem_filter.mpr ⟨List.mem_of_getElem? (i := 893) (by decide +kernel), rfl⟩
set_option maxRecDepth 20000 in
theorem gw_894 : Cond.code yX7_clearText cX7_clearText 2 (some .int) ∈ GW := List.mem_filter.mpr ⟨List.mem_of_getElem? (i := 894) rfl, rfl⟩
set_option maxRecDepth 20000 in
theorem gw_895 : Cond.methodLink "RibbedLoansLaw" 80 yX7_carryOut ∈ GW := List.mem_filter.mpr ⟨List.mem_of_getElem? (i := 895) (by decide +kernel), rfl⟩
set_option maxRecDepth 20000 in
theorem gw_896 : Cond.instanceMethod yX7_carryOut ∈ GW := List.mem_filter.mpr ⟨List.mem_of_getElem? (i := 896) (by decide +kernel), rfl⟩
set_option maxRecDepth 20000 in
theorem gw_897 : Cond.selects RX7 yX7_carryOut yX7_carryOut ∈ GW := List.mem_filter.mpr ⟨List.mem_of_getElem? (i := 897) (by decide +kernel), rfl⟩
set_option maxRecDepth 20000 in
theorem gw_898 : Cond.code yX7_carryOut cX7_carryOut 4 (some .int) ∈ GW := List.mem_filter.mpr ⟨List.mem_of_getElem? (i := 898) rfl, rfl⟩
set_option maxRecDepth 20000 in
theorem gw_899 : Cond.methodLink RX7 146 yX7_faultOf ∈ GW := List.mem_filter.mpr ⟨List.mem_of_getElem? (i := 899) (by decide +kernel), rfl⟩
set_option maxRecDepth 20000 in
theorem gw_901 : Cond.instanceMethod yX7_faultOf ∈ GW := List.mem_filter.mpr ⟨List.mem_of_getElem? (i := 901) (by decide +kernel), rfl⟩
set_option maxRecDepth 20000 in
theorem gw_902 : Cond.code yX7_faultOf cX7_faultOf 2 (some .int) ∈ GW := List.mem_filter.mpr ⟨List.mem_of_getElem? (i := 902) rfl, rfl⟩
set_option maxRecDepth 20000 in
theorem gw_903 : Cond.methodLink RX7 143 yX7_readOrder ∈ GW := List.mem_filter.mpr ⟨List.mem_of_getElem? (i := 903) (by decide +kernel), rfl⟩
set_option maxRecDepth 20000 in
theorem gw_905 : Cond.instanceMethod yX7_readOrder ∈ GW := List.mem_filter.mpr ⟨List.mem_of_getElem? (i := 905) (by decide +kernel), rfl⟩
set_option maxRecDepth 20000 in
theorem gw_906 : Cond.code yX7_readOrder cX7_readOrder 1 (some .boolean) ∈ GW := List.mem_filter.mpr ⟨List.mem_of_getElem? (i := 906) rfl, rfl⟩
set_option maxRecDepth 20000 in
theorem gw_907 : Cond.methodLink RX7 122 yX7_here ∈ GW := List.mem_filter.mpr ⟨List.mem_of_getElem? (i := 907) (by decide +kernel), rfl⟩
set_option maxRecDepth 20000 in
theorem gw_909 : Cond.instanceMethod yX7_here ∈ GW := List.mem_filter.mpr ⟨List.mem_of_getElem? (i := 909) (by decide +kernel), rfl⟩
set_option maxRecDepth 20000 in
theorem gw_910 : Cond.code yX7_here cX7_here 1 (some .int) ∈ GW := List.mem_filter.mpr ⟨List.mem_of_getElem? (i := 910) rfl, rfl⟩
set_option maxRecDepth 20000 in
theorem gw_911 : Cond.methodLink RX7 131 yX7_readNumber ∈ GW := List.mem_filter.mpr ⟨List.mem_of_getElem? (i := 911) (by decide +kernel), rfl⟩
set_option maxRecDepth 20000 in
theorem gw_913 : Cond.instanceMethod yX7_readNumber ∈ GW := List.mem_filter.mpr ⟨List.mem_of_getElem? (i := 913) (by decide +kernel), rfl⟩
set_option maxRecDepth 20000 in
theorem gw_914 : Cond.code yX7_readNumber cX7_readNumber 1 (some .boolean) ∈ GW := List.mem_filter.mpr ⟨List.mem_of_getElem? (i := 914) rfl, rfl⟩
set_option maxRecDepth 20000 in
theorem gw_915 : Cond.methodLink RX7 138 yX7_passes_ ∈ GW := List.mem_filter.mpr ⟨List.mem_of_getElem? (i := 915) (by decide +kernel), rfl⟩
set_option maxRecDepth 20000 in
theorem gw_917 : Cond.instanceMethod yX7_passes_ ∈ GW := List.mem_filter.mpr ⟨List.mem_of_getElem? (i := 917) (by decide +kernel), rfl⟩
set_option maxRecDepth 20000 in
theorem gw_918 : Cond.code yX7_passes_ cX7_passes_ 3 (some .boolean) ∈ GW := List.mem_filter.mpr ⟨List.mem_of_getElem? (i := 918) rfl, rfl⟩
set_option maxRecDepth 20000 in
theorem gw_919 : Cond.methodLink RX7 149 yX7_does ∈ GW := List.mem_filter.mpr ⟨List.mem_of_getElem? (i := 919) (by decide +kernel), rfl⟩
set_option maxRecDepth 20000 in
theorem gw_921 : Cond.instanceMethod yX7_does ∈ GW := List.mem_filter.mpr ⟨List.mem_of_getElem? (i := 921) (by decide +kernel), rfl⟩
set_option maxRecDepth 20000 in
theorem gw_922 : Cond.code yX7_does cX7_does 3 (some .boolean) ∈ GW := List.mem_filter.mpr ⟨List.mem_of_getElem? (i := 922) rfl, rfl⟩
set_option maxRecDepth 20000 in
theorem gw_923 : Cond.methodLink "RibbedLoansLaw" 84 yX7_count ∈ GW := List.mem_filter.mpr ⟨List.mem_of_getElem? (i := 923) (by decide +kernel), rfl⟩
set_option maxRecDepth 20000 in
theorem gw_924 : Cond.instanceMethod yX7_count ∈ GW := List.mem_filter.mpr ⟨List.mem_of_getElem? (i := 924) (by decide +kernel), rfl⟩
set_option maxRecDepth 20000 in
theorem gw_925 : Cond.selects RX7 yX7_count yX7_count ∈ GW := List.mem_filter.mpr ⟨List.mem_of_getElem? (i := 925) (by decide +kernel), rfl⟩
set_option maxRecDepth 20000 in
theorem gw_926 : Cond.code yX7_count cX7_count 2 (some .int) ∈ GW := List.mem_filter.mpr ⟨List.mem_of_getElem? (i := 926) rfl, rfl⟩
set_option maxRecDepth 20000 in
theorem gw_927 : Cond.methodLink RX7 152 yX7_brokenOnes ∈ GW := List.mem_filter.mpr ⟨List.mem_of_getElem? (i := 927) (by decide +kernel), rfl⟩
set_option maxRecDepth 20000 in
theorem gw_929 : Cond.instanceMethod yX7_brokenOnes ∈ GW := List.mem_filter.mpr ⟨List.mem_of_getElem? (i := 929) (by decide +kernel), rfl⟩
set_option maxRecDepth 20000 in
theorem gw_930 : Cond.code yX7_brokenOnes cX7_brokenOnes 3 (some .int) ∈ GW := List.mem_filter.mpr ⟨List.mem_of_getElem? (i := 930) rfl, rfl⟩
set_option maxRecDepth 20000 in
theorem gw_931 : Cond.methodLink RX7 155 yX7_coinsOfPersons ∈ GW := List.mem_filter.mpr ⟨List.mem_of_getElem? (i := 931) (by decide +kernel), rfl⟩
set_option maxRecDepth 20000 in
theorem gw_933 : Cond.instanceMethod yX7_coinsOfPersons ∈ GW := List.mem_filter.mpr ⟨List.mem_of_getElem? (i := 933) (by decide +kernel), rfl⟩
set_option maxRecDepth 20000 in
theorem gw_934 : Cond.code yX7_coinsOfPersons cX7_coinsOfPersons 3 (some .int) ∈ GW := List.mem_filter.mpr ⟨List.mem_of_getElem? (i := 934) rfl, rfl⟩
set_option maxRecDepth 20000 in
theorem gw_935 : Cond.methodLink "RibbedLoansLaw" 88 yX7_umbrella ∈ GW := List.mem_filter.mpr ⟨List.mem_of_getElem? (i := 935) (by decide +kernel), rfl⟩
set_option maxRecDepth 20000 in
theorem gw_936 : Cond.instanceMethod yX7_umbrella ∈ GW := List.mem_filter.mpr ⟨List.mem_of_getElem? (i := 936) (by decide +kernel), rfl⟩
set_option maxRecDepth 20000 in
theorem gw_937 : Cond.selects RX7 yX7_umbrella yX7_umbrella ∈ GW := List.mem_filter.mpr ⟨List.mem_of_getElem? (i := 937) (by decide +kernel), rfl⟩
set_option maxRecDepth 20000 in
theorem gw_938 : Cond.code yX7_umbrella cX7_umbrella 3 (some .int) ∈ GW := List.mem_filter.mpr ⟨List.mem_of_getElem? (i := 938) rfl, rfl⟩
set_option maxRecDepth 20000 in
theorem gw_939 : Cond.methodLink "RibbedLoansLaw" 92 yX7_stand ∈ GW := List.mem_filter.mpr ⟨List.mem_of_getElem? (i := 939) (by decide +kernel), rfl⟩
set_option maxRecDepth 20000 in
theorem gw_940 : Cond.instanceMethod yX7_stand ∈ GW := List.mem_filter.mpr ⟨List.mem_of_getElem? (i := 940) (by decide +kernel), rfl⟩
set_option maxRecDepth 20000 in
theorem gw_941 : Cond.selects RX7 yX7_stand yX7_stand ∈ GW := List.mem_filter.mpr ⟨List.mem_of_getElem? (i := 941) (by decide +kernel), rfl⟩
set_option maxRecDepth 20000 in
theorem gw_942 : Cond.code yX7_stand cX7_stand 3 (some .int) ∈ GW := List.mem_filter.mpr ⟨List.mem_of_getElem? (i := 942) rfl, rfl⟩
set_option maxRecDepth 20000 in
theorem gw_943 : Cond.methodLink RX7 158 yX7_told ∈ GW := List.mem_filter.mpr ⟨List.mem_of_getElem? (i := 943) (by decide +kernel), rfl⟩
set_option maxRecDepth 20000 in
theorem gw_944 : Cond.static yX7_told ∈ GW := List.mem_filter.mpr ⟨List.mem_of_getElem? (i := 944) (by decide +kernel), rfl⟩
set_option maxRecDepth 20000 in
theorem gw_945 : Cond.code yX7_told cX7_told 1 (some .int) ∈ GW := List.mem_filter.mpr ⟨List.mem_of_getElem? (i := 945) rfl, rfl⟩
set_option maxRecDepth 20000 in
theorem gw_946 : Cond.methodLink RX7 161 yX7_meanOf ∈ GW := List.mem_filter.mpr ⟨List.mem_of_getElem? (i := 946) (by decide +kernel), rfl⟩
set_option maxRecDepth 20000 in
theorem gw_948 : Cond.instanceMethod yX7_meanOf ∈ GW := List.mem_filter.mpr ⟨List.mem_of_getElem? (i := 948) (by decide +kernel), rfl⟩
set_option maxRecDepth 20000 in
theorem gw_949 : Cond.code yX7_meanOf cX7_meanOf 4 (some .int) ∈ GW := List.mem_filter.mpr ⟨List.mem_of_getElem? (i := 949) rfl, rfl⟩
set_option maxRecDepth 20000 in
theorem gw_950 : Cond.methodLink "RibbedLoansLaw" 96 yX7_person ∈ GW := List.mem_filter.mpr ⟨List.mem_of_getElem? (i := 950) (by decide +kernel), rfl⟩
set_option maxRecDepth 20000 in
theorem gw_951 : Cond.instanceMethod yX7_person ∈ GW := List.mem_filter.mpr ⟨List.mem_of_getElem? (i := 951) (by decide +kernel), rfl⟩
set_option maxRecDepth 20000 in
theorem gw_952 : Cond.selects RX7 yX7_person yX7_person ∈ GW := List.mem_filter.mpr ⟨List.mem_of_getElem? (i := 952) (by decide +kernel), rfl⟩
set_option maxRecDepth 20000 in
theorem gw_953 : Cond.code yX7_person cX7_person 3 (some .int) ∈ GW := List.mem_filter.mpr ⟨List.mem_of_getElem? (i := 953) rfl, rfl⟩
set_option maxRecDepth 20000 in
theorem gw_954 : Cond.methodLink "RibbedLoansLaw" 100 yX7_inVan ∈ GW := List.mem_filter.mpr ⟨List.mem_of_getElem? (i := 954) (by decide +kernel), rfl⟩
set_option maxRecDepth 20000 in
theorem gw_955 : Cond.instanceMethod yX7_inVan ∈ GW := List.mem_filter.mpr ⟨List.mem_of_getElem? (i := 955) (by decide +kernel), rfl⟩
set_option maxRecDepth 20000 in
theorem gw_956 : Cond.selects RX7 yX7_inVan yX7_inVan ∈ GW := List.mem_filter.mpr ⟨List.mem_of_getElem? (i := 956) (by decide +kernel), rfl⟩
set_option maxRecDepth 20000 in
theorem gw_957 : Cond.code yX7_inVan cX7_inVan 5 (some .int) ∈ GW := List.mem_filter.mpr ⟨List.mem_of_getElem? (i := 957) rfl, rfl⟩
set_option maxRecDepth 20000 in
theorem gw_958 : Cond.methodLink "RibbedLoansLaw" 104 yX7_feeIn ∈ GW := List.mem_filter.mpr ⟨List.mem_of_getElem? (i := 958) (by decide +kernel), rfl⟩
set_option maxRecDepth 20000 in
theorem gw_959 : Cond.instanceMethod yX7_feeIn ∈ GW := List.mem_filter.mpr ⟨List.mem_of_getElem? (i := 959) (by decide +kernel), rfl⟩
set_option maxRecDepth 20000 in
theorem gw_960 : Cond.selects RX7 yX7_feeIn yX7_feeIn ∈ GW := List.mem_filter.mpr ⟨List.mem_of_getElem? (i := 960) (by decide +kernel), rfl⟩
set_option maxRecDepth 20000 in
theorem gw_961 : Cond.code yX7_feeIn cX7_feeIn 8 (some .int) ∈ GW := List.mem_filter.mpr ⟨List.mem_of_getElem? (i := 961) rfl, rfl⟩
set_option maxRecDepth 20000 in
theorem gw_962 : Cond.methodLink "RibbedLoansLaw" 108 yX7_breaksIn ∈ GW := List.mem_filter.mpr ⟨List.mem_of_getElem? (i := 962) (by decide +kernel), rfl⟩
set_option maxRecDepth 20000 in
theorem gw_963 : Cond.instanceMethod yX7_breaksIn ∈ GW := List.mem_filter.mpr ⟨List.mem_of_getElem? (i := 963) (by decide +kernel), rfl⟩
set_option maxRecDepth 20000 in
theorem gw_964 : Cond.selects RX7 yX7_breaksIn yX7_breaksIn ∈ GW := List.mem_filter.mpr ⟨List.mem_of_getElem? (i := 964) (by decide +kernel), rfl⟩
set_option maxRecDepth 20000 in
theorem gw_965 : Cond.code yX7_breaksIn cX7_breaksIn 7 (some .int) ∈ GW := List.mem_filter.mpr ⟨List.mem_of_getElem? (i := 965) rfl, rfl⟩
set_option maxRecDepth 20000 in
theorem gw_966 : Cond.methodLink "RibbedLoansLaw" 112 yX7_emptied ∈ GW := List.mem_filter.mpr ⟨List.mem_of_getElem? (i := 966) (by decide +kernel), rfl⟩
set_option maxRecDepth 20000 in
theorem gw_967 : Cond.instanceMethod yX7_emptied ∈ GW := List.mem_filter.mpr ⟨List.mem_of_getElem? (i := 967) (by decide +kernel), rfl⟩
set_option maxRecDepth 20000 in
theorem gw_968 : Cond.selects RX7 yX7_emptied yX7_emptied ∈ GW := List.mem_filter.mpr ⟨List.mem_of_getElem? (i := 968) (by decide +kernel), rfl⟩
set_option maxRecDepth 20000 in
theorem gw_969 : Cond.code yX7_emptied cX7_emptied 4 (some .int) ∈ GW := List.mem_filter.mpr ⟨List.mem_of_getElem? (i := 969) rfl, rfl⟩
set_option maxRecDepth 20000 in
theorem gw_970 : Cond.methodLink "RibbedLoansLaw" 116 yX7_shortest ∈ GW := List.mem_filter.mpr ⟨List.mem_of_getElem? (i := 970) (by decide +kernel), rfl⟩
set_option maxRecDepth 20000 in
theorem gw_971 : Cond.instanceMethod yX7_shortest ∈ GW := List.mem_filter.mpr ⟨List.mem_of_getElem? (i := 971) (by decide +kernel), rfl⟩
set_option maxRecDepth 20000 in
theorem gw_972 : Cond.selects RX7 yX7_shortest yX7_shortest ∈ GW := List.mem_filter.mpr ⟨List.mem_of_getElem? (i := 972) (by decide +kernel), rfl⟩
set_option maxRecDepth 20000 in
theorem gw_973 : Cond.code yX7_shortest cX7_shortest 7 (some .int) ∈ GW := List.mem_filter.mpr ⟨List.mem_of_getElem? (i := 973) rfl, rfl⟩
set_option maxRecDepth 20000 in
theorem gw_974 : Cond.methodLink RX7 164 yX7_wanting ∈ GW := List.mem_filter.mpr ⟨List.mem_of_getElem? (i := 974) (by decide +kernel), rfl⟩
set_option maxRecDepth 20000 in
theorem gw_976 : Cond.instanceMethod yX7_wanting ∈ GW := List.mem_filter.mpr ⟨List.mem_of_getElem? (i := 976) (by decide +kernel), rfl⟩
set_option maxRecDepth 20000 in
theorem gw_977 : Cond.code yX7_wanting cX7_wanting 4 (some .int) ∈ GW := List.mem_filter.mpr ⟨List.mem_of_getElem? (i := 977) rfl, rfl⟩
def NWL : List Cond := [Cond.methodLinkNest RX6 11 yX3_init RX6, Cond.methodLinkNest RX0 11 yX5_init RX6, Cond.fieldLinkNest RX6 203 RX5 "spots" "LRibbedLoans$Row;" RX6, Cond.fieldLinkNest RX0 152 RX5 "spots" "LRibbedLoans$Row;" RX6, Cond.fieldLinkNest RX0 132 RX5 "wears" "LRibbedLoans$Row;" RX6, Cond.fieldLinkNest RX6 215 RX5 "wears" "LRibbedLoans$Row;" RX6, Cond.fieldLinkNest RX0 116 RX5 "lendings" "LRibbedLoans$Row;" RX6, Cond.fieldLinkNest RX6 221 RX5 "lendings" "LRibbedLoans$Row;" RX6, Cond.fieldLinkNest RX0 90 RX5 "number" "I" RX6, Cond.fieldLinkNest RX6 162 RX5 "number" "I" RX6, Cond.fieldLinkNest RX6 158 RX0 "umbrellas" "LRibbedLoans$Umbrellas;" RX6, Cond.fieldLinkNest RX6 224 RX0 "rooms" "LRibbedLoans$Row;" RX6, Cond.fieldLinkNest RX6 176 RX0 "purses" "LRibbedLoans$Row;" RX6, Cond.fieldLinkNest RX6 245 RX0 "showers" "LRibbedLoans$Row;" RX6, Cond.fieldLinkNest RX6 248 RX0 "homes" "LRibbedLoans$Row;" RX6, Cond.fieldLinkNest RX6 188 RX0 "paid" "LRibbedLoans$Row;" RX6, Cond.fieldLinkNest RX6 109 RX0 "hours" "I" RX6, Cond.fieldLinkNest RX6 173 RX0 "house" "I" RX6, Cond.fieldLinkNest RX6 185 RX0 "spent" "I" RX6, Cond.fieldLinkNest RX6 191 RX0 "loans" "I" RX6, Cond.fieldLinkNest RX6 194 RX0 "surges" "I" RX6, Cond.fieldLinkNest RX6 197 RX0 "rate" "I" RX6, Cond.fieldLinkNest RX6 30 RX3 "city" "LRibbedLoans$City;" RX6, Cond.methodLinkNest RX1 17 yX3_init RX6, Cond.fieldLinkNest RX6 120 RX1 "size" "I" RX6, Cond.methodLinkNest RX6 25 yX4_init RX6, Cond.fieldLinkNest RX6 126 RX4 "length" "I" RX6, Cond.fieldLinkNest RX6 155 RX4 "verb" "I" RX6, Cond.fieldLinkNest RX6 149 RX4 "first" "I" RX6, Cond.fieldLinkNest RX6 152 RX4 "second" "I" RX6, Cond.methodLinkNest RX0 82 yX6_outside RX6, Cond.methodLinkNest RX5 47 yX6_kindOf RX6, Cond.methodLinkNest RX0 135 yX6_wornBy RX6, Cond.methodLinkNest RX0 155 yX6_kindOf RX6, Cond.methodLinkNest RX4 55 yX6_outside RX6]
theorem nwl_tbl : ∀ w ∈ NWL, w ∈ lw_tbl := by decide +kernel
theorem nwl_kind : ∀ w ∈ NWL, (∃ a i b n d h, w = Cond.fieldLinkNest a i b n d h) ∨ (∃ a i x h, w = Cond.methodLinkNest a i x h) := List.forall_mem_cons.mpr ⟨Or.inr ⟨_, _, _, _, rfl⟩, List.forall_mem_cons.mpr ⟨Or.inr ⟨_, _, _, _, rfl⟩, List.forall_mem_cons.mpr ⟨Or.inl ⟨_, _, _, _, _, _, rfl⟩, List.forall_mem_cons.mpr ⟨Or.inl ⟨_, _, _, _, _, _, rfl⟩, List.forall_mem_cons.mpr ⟨Or.inl ⟨_, _, _, _, _, _, rfl⟩, List.forall_mem_cons.mpr ⟨Or.inl ⟨_, _, _, _, _, _, rfl⟩, List.forall_mem_cons.mpr ⟨Or.inl ⟨_, _, _, _, _, _, rfl⟩, List.forall_mem_cons.mpr ⟨Or.inl ⟨_, _, _, _, _, _, rfl⟩, List.forall_mem_cons.mpr ⟨Or.inl ⟨_, _, _, _, _, _, rfl⟩, List.forall_mem_cons.mpr ⟨Or.inl ⟨_, _, _, _, _, _, rfl⟩, List.forall_mem_cons.mpr ⟨Or.inl ⟨_, _, _, _, _, _, rfl⟩, List.forall_mem_cons.mpr ⟨Or.inl ⟨_, _, _, _, _, _, rfl⟩, List.forall_mem_cons.mpr ⟨Or.inl ⟨_, _, _, _, _, _, rfl⟩, List.forall_mem_cons.mpr ⟨Or.inl ⟨_, _, _, _, _, _, rfl⟩, List.forall_mem_cons.mpr ⟨Or.inl ⟨_, _, _, _, _, _, rfl⟩, List.forall_mem_cons.mpr ⟨Or.inl ⟨_, _, _, _, _, _, rfl⟩, List.forall_mem_cons.mpr ⟨Or.inl ⟨_, _, _, _, _, _, rfl⟩, List.forall_mem_cons.mpr ⟨Or.inl ⟨_, _, _, _, _, _, rfl⟩, List.forall_mem_cons.mpr ⟨Or.inl ⟨_, _, _, _, _, _, rfl⟩, List.forall_mem_cons.mpr ⟨Or.inl ⟨_, _, _, _, _, _, rfl⟩, List.forall_mem_cons.mpr ⟨Or.inl ⟨_, _, _, _, _, _, rfl⟩, List.forall_mem_cons.mpr ⟨Or.inl ⟨_, _, _, _, _, _, rfl⟩, List.forall_mem_cons.mpr ⟨Or.inl ⟨_, _, _, _, _, _, rfl⟩, List.forall_mem_cons.mpr ⟨Or.inr ⟨_, _, _, _, rfl⟩, List.forall_mem_cons.mpr ⟨Or.inl ⟨_, _, _, _, _, _, rfl⟩, List.forall_mem_cons.mpr ⟨Or.inr ⟨_, _, _, _, rfl⟩, List.forall_mem_cons.mpr ⟨Or.inl ⟨_, _, _, _, _, _, rfl⟩, List.forall_mem_cons.mpr ⟨Or.inl ⟨_, _, _, _, _, _, rfl⟩, List.forall_mem_cons.mpr ⟨Or.inl ⟨_, _, _, _, _, _, rfl⟩, List.forall_mem_cons.mpr ⟨Or.inl ⟨_, _, _, _, _, _, rfl⟩, List.forall_mem_cons.mpr ⟨Or.inr ⟨_, _, _, _, rfl⟩, List.forall_mem_cons.mpr ⟨Or.inr ⟨_, _, _, _, rfl⟩, List.forall_mem_cons.mpr ⟨Or.inr ⟨_, _, _, _, rfl⟩, List.forall_mem_cons.mpr ⟨Or.inr ⟨_, _, _, _, rfl⟩, List.forall_mem_cons.mpr ⟨Or.inr ⟨_, _, _, _, rfl⟩, fun _ h => absurd h List.not_mem_nil⟩⟩⟩⟩⟩⟩⟩⟩⟩⟩⟩⟩⟩⟩⟩⟩⟩⟩⟩⟩⟩⟩⟩⟩⟩⟩⟩⟩⟩⟩⟩⟩⟩⟩⟩
theorem inX0 : ∀ w ∈ u_ws RX0 TX0 12, w ∈ GW := by decide +kernel
theorem inX1 : ∀ w ∈ u_ws RX1 TX1 3, w ∈ GW := by decide +kernel
theorem inX2 : ∀ w ∈ u_ws RX2 TX2 1, w ∈ GW := by decide +kernel
theorem inX3 : ∀ w ∈ u_ws RX3 TX3 5, w ∈ GW := by decide +kernel
theorem inX4 : ∀ w ∈ u_ws RX4 TX4 6, w ∈ GW := by decide +kernel
theorem inX5 : ∀ w ∈ u_ws RX5 TX5 5, w ∈ GW := by decide +kernel
theorem inX6 : ∀ w ∈ u_ws RX6 TX6 3, w ∈ GW := by decide +kernel
theorem inX7 : ∀ w ∈ u_ws RX7 TX7 11, w ∈ GW := by decide +kernel
end
section
theorem dX0_init_0 : decode cX0_init 0 = .ok (.aload_n 0, 1) := by decide +kernel
theorem dX0_init_1 : decode cX0_init 1 = .ok (.invokespecial 3, 3) := by decide +kernel
theorem dX0_init_4 : decode cX0_init 4 = .ok (.aload_n 0, 1) := by decide +kernel
theorem dX0_init_5 : decode cX0_init 5 = .ok (.new 9, 3) := by decide +kernel
theorem dX0_init_8 : decode cX0_init 8 = .ok (.dup, 1) := by decide +kernel
theorem dX0_init_9 : decode cX0_init 9 = .ok (.invokespecial 11, 3) := by decide +kernel
theorem dX0_init_12 : decode cX0_init 12 = .ok (.putfield 12, 3) := by decide +kernel
theorem dX0_init_15 : decode cX0_init 15 = .ok (.aload_n 0, 1) := by decide +kernel
theorem dX0_init_16 : decode cX0_init 16 = .ok (.new 18, 3) := by decide +kernel
theorem dX0_init_19 : decode cX0_init 19 = .ok (.dup, 1) := by decide +kernel
theorem dX0_init_20 : decode cX0_init 20 = .ok (.bipush 8, 2) := by decide +kernel
theorem dX0_init_22 : decode cX0_init 22 = .ok (.bipush 8, 2) := by decide +kernel
theorem dX0_init_24 : decode cX0_init 24 = .ok (.invokespecial 20, 3) := by decide +kernel
theorem dX0_init_27 : decode cX0_init 27 = .ok (.putfield 23, 3) := by decide +kernel
theorem dX0_init_30 : decode cX0_init 30 = .ok (.aload_n 0, 1) := by decide +kernel
theorem dX0_init_31 : decode cX0_init 31 = .ok (.new 18, 3) := by decide +kernel
theorem dX0_init_34 : decode cX0_init 34 = .ok (.dup, 1) := by decide +kernel
theorem dX0_init_35 : decode cX0_init 35 = .ok (.bipush 12, 2) := by decide +kernel
theorem dX0_init_37 : decode cX0_init 37 = .ok (.bipush 40, 2) := by decide +kernel
theorem dX0_init_39 : decode cX0_init 39 = .ok (.invokespecial 20, 3) := by decide +kernel
theorem dX0_init_42 : decode cX0_init 42 = .ok (.putfield 27, 3) := by decide +kernel
theorem dX0_init_45 : decode cX0_init 45 = .ok (.aload_n 0, 1) := by decide +kernel
theorem dX0_init_46 : decode cX0_init 46 = .ok (.new 18, 3) := by decide +kernel
theorem dX0_init_49 : decode cX0_init 49 = .ok (.dup, 1) := by decide +kernel
theorem dX0_init_50 : decode cX0_init 50 = .ok (.bipush 12, 2) := by decide +kernel
theorem dX0_init_52 : decode cX0_init 52 = .ok (.iconst 0, 1) := by decide +kernel
theorem dX0_init_53 : decode cX0_init 53 = .ok (.invokespecial 20, 3) := by decide +kernel
theorem dX0_init_56 : decode cX0_init 56 = .ok (.putfield 30, 3) := by decide +kernel
theorem dX0_init_59 : decode cX0_init 59 = .ok (.aload_n 0, 1) := by decide +kernel
theorem dX0_init_60 : decode cX0_init 60 = .ok (.new 18, 3) := by decide +kernel
theorem dX0_init_63 : decode cX0_init 63 = .ok (.dup, 1) := by decide +kernel
theorem dX0_init_64 : decode cX0_init 64 = .ok (.bipush 12, 2) := by decide +kernel
theorem dX0_init_66 : decode cX0_init 66 = .ok (.iconst 0, 1) := by decide +kernel
theorem dX0_init_67 : decode cX0_init 67 = .ok (.invokespecial 20, 3) := by decide +kernel
theorem dX0_init_70 : decode cX0_init 70 = .ok (.putfield 33, 3) := by decide +kernel
theorem dX0_init_73 : decode cX0_init 73 = .ok (.aload_n 0, 1) := by decide +kernel
theorem dX0_init_74 : decode cX0_init 74 = .ok (.new 18, 3) := by decide +kernel
theorem dX0_init_77 : decode cX0_init 77 = .ok (.dup, 1) := by decide +kernel
theorem dX0_init_78 : decode cX0_init 78 = .ok (.bipush 12, 2) := by decide +kernel
theorem dX0_init_80 : decode cX0_init 80 = .ok (.iconst 0, 1) := by decide +kernel
theorem dX0_init_81 : decode cX0_init 81 = .ok (.invokespecial 20, 3) := by decide +kernel
theorem dX0_init_84 : decode cX0_init 84 = .ok (.putfield 36, 3) := by decide +kernel
theorem dX0_init_87 : decode cX0_init 87 = .ok (.aload_n 0, 1) := by decide +kernel
theorem dX0_init_88 : decode cX0_init 88 = .ok (.bipush 100, 2) := by decide +kernel
theorem dX0_init_90 : decode cX0_init 90 = .ok (.putfield 39, 3) := by decide +kernel
theorem dX0_init_93 : decode cX0_init 93 = .ok (.aload_n 0, 1) := by decide +kernel
theorem dX0_init_94 : decode cX0_init 94 = .ok (.iconst 1, 1) := by decide +kernel
theorem dX0_init_95 : decode cX0_init 95 = .ok (.putfield 43, 3) := by decide +kernel
theorem dX0_init_98 : decode cX0_init 98 = .ok (.iconst 0, 1) := by decide +kernel
theorem dX0_init_99 : decode cX0_init 99 = .ok (.istore_n 1, 1) := by decide +kernel
theorem dX0_init_100 : decode cX0_init 100 = .ok (.iload_n 1, 1) := by decide +kernel
theorem dX0_init_101 : decode cX0_init 101 = .ok (.bipush 12, 2) := by decide +kernel
theorem dX0_init_103 : decode cX0_init 103 = .ok (.if_icmp .ge 21, 3) := by decide +kernel
theorem dX0_init_106 : decode cX0_init 106 = .ok (.aload_n 0, 1) := by decide +kernel
theorem dX0_init_107 : decode cX0_init 107 = .ok (.getfield 33, 3) := by decide +kernel
theorem dX0_init_110 : decode cX0_init 110 = .ok (.iload_n 1, 1) := by decide +kernel
theorem dX0_init_111 : decode cX0_init 111 = .ok (.iload_n 1, 1) := by decide +kernel
theorem dX0_init_112 : decode cX0_init 112 = .ok (.bipush 8, 2) := by decide +kernel
theorem dX0_init_114 : decode cX0_init 114 = .ok (.irem, 1) := by decide +kernel
theorem dX0_init_115 : decode cX0_init 115 = .ok (.invokevirtual 46, 3) := by decide +kernel
theorem dX0_init_118 : decode cX0_init 118 = .ok (.iinc 1 1, 3) := by decide +kernel
theorem dX0_init_121 : decode cX0_init 121 = .ok (.goto (-21), 3) := by decide +kernel
theorem dX0_init_124 : decode cX0_init 124 = .ok (.return_, 1) := by decide +kernel
theorem dX0_copyFrom_0 : decode cX0_copyFrom 0 = .ok (.aload_n 0, 1) := by decide +kernel
theorem dX0_copyFrom_1 : decode cX0_copyFrom 1 = .ok (.getfield 12, 3) := by decide +kernel
theorem dX0_copyFrom_4 : decode cX0_copyFrom 4 = .ok (.aload_n 1, 1) := by decide +kernel
theorem dX0_copyFrom_5 : decode cX0_copyFrom 5 = .ok (.getfield 12, 3) := by decide +kernel
theorem dX0_copyFrom_8 : decode cX0_copyFrom 8 = .ok (.invokevirtual 49, 3) := by decide +kernel
theorem dX0_copyFrom_11 : decode cX0_copyFrom 11 = .ok (.aload_n 0, 1) := by decide +kernel
theorem dX0_copyFrom_12 : decode cX0_copyFrom 12 = .ok (.getfield 23, 3) := by decide +kernel
theorem dX0_copyFrom_15 : decode cX0_copyFrom 15 = .ok (.aload_n 1, 1) := by decide +kernel
theorem dX0_copyFrom_16 : decode cX0_copyFrom 16 = .ok (.getfield 23, 3) := by decide +kernel
theorem dX0_copyFrom_19 : decode cX0_copyFrom 19 = .ok (.invokevirtual 53, 3) := by decide +kernel
theorem dX0_copyFrom_22 : decode cX0_copyFrom 22 = .ok (.aload_n 0, 1) := by decide +kernel
theorem dX0_copyFrom_23 : decode cX0_copyFrom 23 = .ok (.getfield 27, 3) := by decide +kernel
theorem dX0_copyFrom_26 : decode cX0_copyFrom 26 = .ok (.aload_n 1, 1) := by decide +kernel
theorem dX0_copyFrom_27 : decode cX0_copyFrom 27 = .ok (.getfield 27, 3) := by decide +kernel
theorem dX0_copyFrom_30 : decode cX0_copyFrom 30 = .ok (.invokevirtual 53, 3) := by decide +kernel
theorem dX0_copyFrom_33 : decode cX0_copyFrom 33 = .ok (.aload_n 0, 1) := by decide +kernel
theorem dX0_copyFrom_34 : decode cX0_copyFrom 34 = .ok (.getfield 30, 3) := by decide +kernel
theorem dX0_copyFrom_37 : decode cX0_copyFrom 37 = .ok (.aload_n 1, 1) := by decide +kernel
theorem dX0_copyFrom_38 : decode cX0_copyFrom 38 = .ok (.getfield 30, 3) := by decide +kernel
theorem dX0_copyFrom_41 : decode cX0_copyFrom 41 = .ok (.invokevirtual 53, 3) := by decide +kernel
theorem dX0_copyFrom_44 : decode cX0_copyFrom 44 = .ok (.aload_n 0, 1) := by decide +kernel
theorem dX0_copyFrom_45 : decode cX0_copyFrom 45 = .ok (.getfield 33, 3) := by decide +kernel
theorem dX0_copyFrom_48 : decode cX0_copyFrom 48 = .ok (.aload_n 1, 1) := by decide +kernel
theorem dX0_copyFrom_49 : decode cX0_copyFrom 49 = .ok (.getfield 33, 3) := by decide +kernel
theorem dX0_copyFrom_52 : decode cX0_copyFrom 52 = .ok (.invokevirtual 53, 3) := by decide +kernel
theorem dX0_copyFrom_55 : decode cX0_copyFrom 55 = .ok (.aload_n 0, 1) := by decide +kernel
theorem dX0_copyFrom_56 : decode cX0_copyFrom 56 = .ok (.getfield 36, 3) := by decide +kernel
theorem dX0_copyFrom_59 : decode cX0_copyFrom 59 = .ok (.aload_n 1, 1) := by decide +kernel
theorem dX0_copyFrom_60 : decode cX0_copyFrom 60 = .ok (.getfield 36, 3) := by decide +kernel
theorem dX0_copyFrom_63 : decode cX0_copyFrom 63 = .ok (.invokevirtual 53, 3) := by decide +kernel
theorem dX0_copyFrom_66 : decode cX0_copyFrom 66 = .ok (.aload_n 0, 1) := by decide +kernel
theorem dX0_copyFrom_67 : decode cX0_copyFrom 67 = .ok (.aload_n 1, 1) := by decide +kernel
theorem dX0_copyFrom_68 : decode cX0_copyFrom 68 = .ok (.getfield 56, 3) := by decide +kernel
theorem dX0_copyFrom_71 : decode cX0_copyFrom 71 = .ok (.putfield 56, 3) := by decide +kernel
theorem dX0_copyFrom_74 : decode cX0_copyFrom 74 = .ok (.aload_n 0, 1) := by decide +kernel
theorem dX0_copyFrom_75 : decode cX0_copyFrom 75 = .ok (.aload_n 1, 1) := by decide +kernel
theorem dX0_copyFrom_76 : decode cX0_copyFrom 76 = .ok (.getfield 39, 3) := by decide +kernel
theorem dX0_copyFrom_79 : decode cX0_copyFrom 79 = .ok (.putfield 39, 3) := by decide +kernel
theorem dX0_copyFrom_82 : decode cX0_copyFrom 82 = .ok (.aload_n 0, 1) := by decide +kernel
theorem dX0_copyFrom_83 : decode cX0_copyFrom 83 = .ok (.aload_n 1, 1) := by decide +kernel
theorem dX0_copyFrom_84 : decode cX0_copyFrom 84 = .ok (.getfield 59, 3) := by decide +kernel
theorem dX0_copyFrom_87 : decode cX0_copyFrom 87 = .ok (.putfield 59, 3) := by decide +kernel
theorem dX0_copyFrom_90 : decode cX0_copyFrom 90 = .ok (.aload_n 0, 1) := by decide +kernel
theorem dX0_copyFrom_91 : decode cX0_copyFrom 91 = .ok (.aload_n 1, 1) := by decide +kernel
theorem dX0_copyFrom_92 : decode cX0_copyFrom 92 = .ok (.getfield 62, 3) := by decide +kernel
theorem dX0_copyFrom_95 : decode cX0_copyFrom 95 = .ok (.putfield 62, 3) := by decide +kernel
theorem dX0_copyFrom_98 : decode cX0_copyFrom 98 = .ok (.aload_n 0, 1) := by decide +kernel
theorem dX0_copyFrom_99 : decode cX0_copyFrom 99 = .ok (.aload_n 1, 1) := by decide +kernel
theorem dX0_copyFrom_100 : decode cX0_copyFrom 100 = .ok (.getfield 65, 3) := by decide +kernel
theorem dX0_copyFrom_103 : decode cX0_copyFrom 103 = .ok (.putfield 65, 3) := by decide +kernel
theorem dX0_copyFrom_106 : decode cX0_copyFrom 106 = .ok (.aload_n 0, 1) := by decide +kernel
theorem dX0_copyFrom_107 : decode cX0_copyFrom 107 = .ok (.aload_n 1, 1) := by decide +kernel
theorem dX0_copyFrom_108 : decode cX0_copyFrom 108 = .ok (.getfield 43, 3) := by decide +kernel
theorem dX0_copyFrom_111 : decode cX0_copyFrom 111 = .ok (.putfield 43, 3) := by decide +kernel
theorem dX0_copyFrom_114 : decode cX0_copyFrom 114 = .ok (.return_, 1) := by decide +kernel
theorem dX0_spendable_0 : decode cX0_spendable 0 = .ok (.aload_n 0, 1) := by decide +kernel
theorem dX0_spendable_1 : decode cX0_spendable 1 = .ok (.getfield 39, 3) := by decide +kernel
theorem dX0_spendable_4 : decode cX0_spendable 4 = .ok (.bipush 10, 2) := by decide +kernel
theorem dX0_spendable_6 : decode cX0_spendable 6 = .ok (.aload_n 0, 1) := by decide +kernel
theorem dX0_spendable_7 : decode cX0_spendable 7 = .ok (.getfield 12, 3) := by decide +kernel
theorem dX0_spendable_10 : decode cX0_spendable 10 = .ok (.iconst 1, 1) := by decide +kernel
theorem dX0_spendable_11 : decode cX0_spendable 11 = .ok (.invokevirtual 68, 3) := by decide +kernel
theorem dX0_spendable_14 : decode cX0_spendable 14 = .ok (.imul, 1) := by decide +kernel
theorem dX0_spendable_15 : decode cX0_spendable 15 = .ok (.isub, 1) := by decide +kernel
theorem dX0_spendable_16 : decode cX0_spendable 16 = .ok (.ireturn, 1) := by decide +kernel
theorem dX0_spend_0 : decode cX0_spend 0 = .ok (.aload_n 0, 1) := by decide +kernel
theorem dX0_spend_1 : decode cX0_spend 1 = .ok (.dup, 1) := by decide +kernel
theorem dX0_spend_2 : decode cX0_spend 2 = .ok (.getfield 39, 3) := by decide +kernel
theorem dX0_spend_5 : decode cX0_spend 5 = .ok (.iload_n 1, 1) := by decide +kernel
theorem dX0_spend_6 : decode cX0_spend 6 = .ok (.isub, 1) := by decide +kernel
theorem dX0_spend_7 : decode cX0_spend 7 = .ok (.putfield 39, 3) := by decide +kernel
theorem dX0_spend_10 : decode cX0_spend 10 = .ok (.aload_n 0, 1) := by decide +kernel
theorem dX0_spend_11 : decode cX0_spend 11 = .ok (.dup, 1) := by decide +kernel
theorem dX0_spend_12 : decode cX0_spend 12 = .ok (.getfield 59, 3) := by decide +kernel
theorem dX0_spend_15 : decode cX0_spend 15 = .ok (.iload_n 1, 1) := by decide +kernel
theorem dX0_spend_16 : decode cX0_spend 16 = .ok (.iadd, 1) := by decide +kernel
theorem dX0_spend_17 : decode cX0_spend 17 = .ok (.putfield 59, 3) := by decide +kernel
theorem dX0_spend_20 : decode cX0_spend 20 = .ok (.return_, 1) := by decide +kernel
theorem dX0_freeAt_0 : decode cX0_freeAt 0 = .ok (.aload_n 0, 1) := by decide +kernel
theorem dX0_freeAt_1 : decode cX0_freeAt 1 = .ok (.getfield 23, 3) := by decide +kernel
theorem dX0_freeAt_4 : decode cX0_freeAt 4 = .ok (.iload_n 1, 1) := by decide +kernel
theorem dX0_freeAt_5 : decode cX0_freeAt 5 = .ok (.invokevirtual 72, 3) := by decide +kernel
theorem dX0_freeAt_8 : decode cX0_freeAt 8 = .ok (.aload_n 0, 1) := by decide +kernel
theorem dX0_freeAt_9 : decode cX0_freeAt 9 = .ok (.getfield 12, 3) := by decide +kernel
theorem dX0_freeAt_12 : decode cX0_freeAt 12 = .ok (.iload_n 1, 1) := by decide +kernel
theorem dX0_freeAt_13 : decode cX0_freeAt 13 = .ok (.invokevirtual 75, 3) := by decide +kernel
theorem dX0_freeAt_16 : decode cX0_freeAt 16 = .ok (.isub, 1) := by decide +kernel
theorem dX0_freeAt_17 : decode cX0_freeAt 17 = .ok (.ireturn, 1) := by decide +kernel
theorem dX0_hasOne_0 : decode cX0_hasOne 0 = .ok (.aload_n 0, 1) := by decide +kernel
theorem dX0_hasOne_1 : decode cX0_hasOne 1 = .ok (.getfield 12, 3) := by decide +kernel
theorem dX0_hasOne_4 : decode cX0_hasOne 4 = .ok (.bipush 8, 2) := by decide +kernel
theorem dX0_hasOne_6 : decode cX0_hasOne 6 = .ok (.iload_n 1, 1) := by decide +kernel
theorem dX0_hasOne_7 : decode cX0_hasOne 7 = .ok (.iadd, 1) := by decide +kernel
theorem dX0_hasOne_8 : decode cX0_hasOne 8 = .ok (.invokevirtual 75, 3) := by decide +kernel
theorem dX0_hasOne_11 : decode cX0_hasOne 11 = .ok (.ifCond .le 7, 3) := by decide +kernel
theorem dX0_hasOne_14 : decode cX0_hasOne 14 = .ok (.iconst 1, 1) := by decide +kernel
theorem dX0_hasOne_15 : decode cX0_hasOne 15 = .ok (.goto 4, 3) := by decide +kernel
theorem dX0_hasOne_18 : decode cX0_hasOne 18 = .ok (.iconst 0, 1) := by decide +kernel
theorem dX0_hasOne_19 : decode cX0_hasOne 19 = .ok (.ireturn, 1) := by decide +kernel
theorem dX0_inHand_0 : decode cX0_inHand 0 = .ok (.aload_n 0, 1) := by decide +kernel
theorem dX0_inHand_1 : decode cX0_inHand 1 = .ok (.getfield 12, 3) := by decide +kernel
theorem dX0_inHand_4 : decode cX0_inHand 4 = .ok (.bipush 8, 2) := by decide +kernel
theorem dX0_inHand_6 : decode cX0_inHand 6 = .ok (.iload_n 1, 1) := by decide +kernel
theorem dX0_inHand_7 : decode cX0_inHand 7 = .ok (.iadd, 1) := by decide +kernel
theorem dX0_inHand_8 : decode cX0_inHand 8 = .ok (.iconst 0, 1) := by decide +kernel
theorem dX0_inHand_9 : decode cX0_inHand 9 = .ok (.invokevirtual 78, 3) := by decide +kernel
theorem dX0_inHand_12 : decode cX0_inHand 12 = .ok (.ireturn, 1) := by decide +kernel
theorem dX0_buyingError_0 : decode cX0_buyingError 0 = .ok (.iload_n 1, 1) := by decide +kernel
theorem dX0_buyingError_1 : decode cX0_buyingError 1 = .ok (.iconst 0, 1) := by decide +kernel
theorem dX0_buyingError_2 : decode cX0_buyingError 2 = .ok (.bipush 7, 2) := by decide +kernel
theorem dX0_buyingError_4 : decode cX0_buyingError 4 = .ok (.invokestatic 82, 3) := by decide +kernel
theorem dX0_buyingError_7 : decode cX0_buyingError 7 = .ok (.ifCond .ne 13, 3) := by decide +kernel
theorem dX0_buyingError_10 : decode cX0_buyingError 10 = .ok (.iload_n 2, 1) := by decide +kernel
theorem dX0_buyingError_11 : decode cX0_buyingError 11 = .ok (.iconst 1, 1) := by decide +kernel
theorem dX0_buyingError_12 : decode cX0_buyingError 12 = .ok (.bipush 20, 2) := by decide +kernel
theorem dX0_buyingError_14 : decode cX0_buyingError 14 = .ok (.invokestatic 82, 3) := by decide +kernel
theorem dX0_buyingError_17 : decode cX0_buyingError 17 = .ok (.ifCond .eq 5, 3) := by decide +kernel
theorem dX0_buyingError_20 : decode cX0_buyingError 20 = .ok (.iconst (-1), 1) := by decide +kernel
theorem dX0_buyingError_21 : decode cX0_buyingError 21 = .ok (.ireturn, 1) := by decide +kernel
theorem dX0_buyingError_22 : decode cX0_buyingError 22 = .ok (.aload_n 0, 1) := by decide +kernel
theorem dX0_buyingError_23 : decode cX0_buyingError 23 = .ok (.invokevirtual 86, 3) := by decide +kernel
theorem dX0_buyingError_26 : decode cX0_buyingError 26 = .ok (.iconst 5, 1) := by decide +kernel
theorem dX0_buyingError_27 : decode cX0_buyingError 27 = .ok (.iload_n 2, 1) := by decide +kernel
theorem dX0_buyingError_28 : decode cX0_buyingError 28 = .ok (.imul, 1) := by decide +kernel
theorem dX0_buyingError_29 : decode cX0_buyingError 29 = .ok (.if_icmp .ge 6, 3) := by decide +kernel
theorem dX0_buyingError_32 : decode cX0_buyingError 32 = .ok (.bipush (-2), 2) := by decide +kernel
theorem dX0_buyingError_34 : decode cX0_buyingError 34 = .ok (.ireturn, 1) := by decide +kernel
theorem dX0_buyingError_35 : decode cX0_buyingError 35 = .ok (.iload_n 2, 1) := by decide +kernel
theorem dX0_buyingError_36 : decode cX0_buyingError 36 = .ok (.bipush 60, 2) := by decide +kernel
theorem dX0_buyingError_38 : decode cX0_buyingError 38 = .ok (.aload_n 0, 1) := by decide +kernel
theorem dX0_buyingError_39 : decode cX0_buyingError 39 = .ok (.getfield 12, 3) := by decide +kernel
theorem dX0_buyingError_42 : decode cX0_buyingError 42 = .ok (.getfield 90, 3) := by decide +kernel
theorem dX0_buyingError_45 : decode cX0_buyingError 45 = .ok (.isub, 1) := by decide +kernel
theorem dX0_buyingError_46 : decode cX0_buyingError 46 = .ok (.if_icmp .gt 16, 3) := by decide +kernel
theorem dX0_buyingError_49 : decode cX0_buyingError 49 = .ok (.iload_n 2, 1) := by decide +kernel
theorem dX0_buyingError_50 : decode cX0_buyingError 50 = .ok (.aload_n 0, 1) := by decide +kernel
theorem dX0_buyingError_51 : decode cX0_buyingError 51 = .ok (.iload_n 1, 1) := by decide +kernel
theorem dX0_buyingError_52 : decode cX0_buyingError 52 = .ok (.invokevirtual 93, 3) := by decide +kernel
theorem dX0_buyingError_55 : decode cX0_buyingError 55 = .ok (.if_icmp .gt 7, 3) := by decide +kernel
theorem dX0_buyingError_58 : decode cX0_buyingError 58 = .ok (.iconst 1, 1) := by decide +kernel
theorem dX0_buyingError_59 : decode cX0_buyingError 59 = .ok (.goto 4, 3) := by decide +kernel
theorem dX0_buyingError_62 : decode cX0_buyingError 62 = .ok (.iconst 0, 1) := by decide +kernel
theorem dX0_buyingError_63 : decode cX0_buyingError 63 = .ok (.istore_n 3, 1) := by decide +kernel
theorem dX0_buyingError_64 : decode cX0_buyingError 64 = .ok (.iload_n 3, 1) := by decide +kernel
theorem dX0_buyingError_65 : decode cX0_buyingError 65 = .ok (.ifCond .eq 7, 3) := by decide +kernel
theorem dX0_buyingError_68 : decode cX0_buyingError 68 = .ok (.iconst 0, 1) := by decide +kernel
theorem dX0_buyingError_69 : decode cX0_buyingError 69 = .ok (.goto 5, 3) := by decide +kernel
theorem dX0_buyingError_72 : decode cX0_buyingError 72 = .ok (.bipush (-3), 2) := by decide +kernel
theorem dX0_buyingError_74 : decode cX0_buyingError 74 = .ok (.ireturn, 1) := by decide +kernel
theorem dX0_purchase_0 : decode cX0_purchase 0 = .ok (.aload_n 0, 1) := by decide +kernel
theorem dX0_purchase_1 : decode cX0_purchase 1 = .ok (.getfield 12, 3) := by decide +kernel
theorem dX0_purchase_4 : decode cX0_purchase 4 = .ok (.getfield 90, 3) := by decide +kernel
theorem dX0_purchase_7 : decode cX0_purchase 7 = .ok (.istore_n 3, 1) := by decide +kernel
theorem dX0_purchase_8 : decode cX0_purchase 8 = .ok (.iconst 0, 1) := by decide +kernel
theorem dX0_purchase_9 : decode cX0_purchase 9 = .ok (.istore 4, 2) := by decide +kernel
theorem dX0_purchase_11 : decode cX0_purchase 11 = .ok (.iload 4, 2) := by decide +kernel
theorem dX0_purchase_13 : decode cX0_purchase 13 = .ok (.iload_n 2, 1) := by decide +kernel
theorem dX0_purchase_14 : decode cX0_purchase 14 = .ok (.if_icmp .ge 17, 3) := by decide +kernel
theorem dX0_purchase_17 : decode cX0_purchase 17 = .ok (.aload_n 0, 1) := by decide +kernel
theorem dX0_purchase_18 : decode cX0_purchase 18 = .ok (.getfield 12, 3) := by decide +kernel
theorem dX0_purchase_21 : decode cX0_purchase 21 = .ok (.iload_n 1, 1) := by decide +kernel
theorem dX0_purchase_22 : decode cX0_purchase 22 = .ok (.invokevirtual 96, 3) := by decide +kernel
theorem dX0_purchase_25 : decode cX0_purchase 25 = .ok (.iinc 4 1, 3) := by decide +kernel
theorem dX0_purchase_28 : decode cX0_purchase 28 = .ok (.goto (-17), 3) := by decide +kernel
theorem dX0_purchase_31 : decode cX0_purchase 31 = .ok (.aload_n 0, 1) := by decide +kernel
theorem dX0_purchase_32 : decode cX0_purchase 32 = .ok (.iconst 5, 1) := by decide +kernel
theorem dX0_purchase_33 : decode cX0_purchase 33 = .ok (.iload_n 2, 1) := by decide +kernel
theorem dX0_purchase_34 : decode cX0_purchase 34 = .ok (.imul, 1) := by decide +kernel
theorem dX0_purchase_35 : decode cX0_purchase 35 = .ok (.invokevirtual 100, 3) := by decide +kernel
theorem dX0_purchase_38 : decode cX0_purchase 38 = .ok (.iload_n 3, 1) := by decide +kernel
theorem dX0_purchase_39 : decode cX0_purchase 39 = .ok (.ireturn, 1) := by decide +kernel
theorem dX0_settingError_0 : decode cX0_settingError 0 = .ok (.iload_n 1, 1) := by decide +kernel
theorem dX0_settingError_1 : decode cX0_settingError 1 = .ok (.bipush 8, 2) := by decide +kernel
theorem dX0_settingError_3 : decode cX0_settingError 3 = .ok (.if_icmp .ne 18, 3) := by decide +kernel
theorem dX0_settingError_6 : decode cX0_settingError 6 = .ok (.iload_n 2, 1) := by decide +kernel
theorem dX0_settingError_7 : decode cX0_settingError 7 = .ok (.iconst 0, 1) := by decide +kernel
theorem dX0_settingError_8 : decode cX0_settingError 8 = .ok (.iconst 5, 1) := by decide +kernel
theorem dX0_settingError_9 : decode cX0_settingError 9 = .ok (.invokestatic 82, 3) := by decide +kernel
theorem dX0_settingError_12 : decode cX0_settingError 12 = .ok (.ifCond .eq 7, 3) := by decide +kernel
theorem dX0_settingError_15 : decode cX0_settingError 15 = .ok (.iconst (-1), 1) := by decide +kernel
theorem dX0_settingError_16 : decode cX0_settingError 16 = .ok (.goto 4, 3) := by decide +kernel
theorem dX0_settingError_19 : decode cX0_settingError 19 = .ok (.iconst 0, 1) := by decide +kernel
theorem dX0_settingError_20 : decode cX0_settingError 20 = .ok (.ireturn, 1) := by decide +kernel
theorem dX0_settingError_21 : decode cX0_settingError 21 = .ok (.iload_n 1, 1) := by decide +kernel
theorem dX0_settingError_22 : decode cX0_settingError 22 = .ok (.iconst 0, 1) := by decide +kernel
theorem dX0_settingError_23 : decode cX0_settingError 23 = .ok (.bipush 7, 2) := by decide +kernel
theorem dX0_settingError_25 : decode cX0_settingError 25 = .ok (.invokestatic 82, 3) := by decide +kernel
theorem dX0_settingError_28 : decode cX0_settingError 28 = .ok (.ifCond .ne 13, 3) := by decide +kernel
theorem dX0_settingError_31 : decode cX0_settingError 31 = .ok (.iload_n 2, 1) := by decide +kernel
theorem dX0_settingError_32 : decode cX0_settingError 32 = .ok (.iconst 1, 1) := by decide +kernel
theorem dX0_settingError_33 : decode cX0_settingError 33 = .ok (.bipush 20, 2) := by decide +kernel
theorem dX0_settingError_35 : decode cX0_settingError 35 = .ok (.invokestatic 82, 3) := by decide +kernel
theorem dX0_settingError_38 : decode cX0_settingError 38 = .ok (.ifCond .eq 5, 3) := by decide +kernel
theorem dX0_settingError_41 : decode cX0_settingError 41 = .ok (.iconst (-1), 1) := by decide +kernel
theorem dX0_settingError_42 : decode cX0_settingError 42 = .ok (.ireturn, 1) := by decide +kernel
theorem dX0_settingError_43 : decode cX0_settingError 43 = .ok (.aload_n 0, 1) := by decide +kernel
theorem dX0_settingError_44 : decode cX0_settingError 44 = .ok (.getfield 12, 3) := by decide +kernel
theorem dX0_settingError_47 : decode cX0_settingError 47 = .ok (.iload_n 1, 1) := by decide +kernel
theorem dX0_settingError_48 : decode cX0_settingError 48 = .ok (.invokevirtual 75, 3) := by decide +kernel
theorem dX0_settingError_51 : decode cX0_settingError 51 = .ok (.iload_n 2, 1) := by decide +kernel
theorem dX0_settingError_52 : decode cX0_settingError 52 = .ok (.if_icmp .le 8, 3) := by decide +kernel
theorem dX0_settingError_55 : decode cX0_settingError 55 = .ok (.bipush (-2), 2) := by decide +kernel
theorem dX0_settingError_57 : decode cX0_settingError 57 = .ok (.goto 4, 3) := by decide +kernel
theorem dX0_settingError_60 : decode cX0_settingError 60 = .ok (.iconst 0, 1) := by decide +kernel
theorem dX0_settingError_61 : decode cX0_settingError 61 = .ok (.ireturn, 1) := by decide +kernel
theorem dX0_change_0 : decode cX0_change 0 = .ok (.iload_n 1, 1) := by decide +kernel
theorem dX0_change_1 : decode cX0_change 1 = .ok (.bipush 8, 2) := by decide +kernel
theorem dX0_change_3 : decode cX0_change 3 = .ok (.if_icmp .ne 16, 3) := by decide +kernel
theorem dX0_change_6 : decode cX0_change 6 = .ok (.aload_n 0, 1) := by decide +kernel
theorem dX0_change_7 : decode cX0_change 7 = .ok (.getfield 43, 3) := by decide +kernel
theorem dX0_change_10 : decode cX0_change 10 = .ok (.istore_n 3, 1) := by decide +kernel
theorem dX0_change_11 : decode cX0_change 11 = .ok (.aload_n 0, 1) := by decide +kernel
theorem dX0_change_12 : decode cX0_change 12 = .ok (.iload_n 2, 1) := by decide +kernel
theorem dX0_change_13 : decode cX0_change 13 = .ok (.putfield 43, 3) := by decide +kernel
theorem dX0_change_16 : decode cX0_change 16 = .ok (.goto 21, 3) := by decide +kernel
theorem dX0_change_19 : decode cX0_change 19 = .ok (.aload_n 0, 1) := by decide +kernel
theorem dX0_change_20 : decode cX0_change 20 = .ok (.getfield 23, 3) := by decide +kernel
theorem dX0_change_23 : decode cX0_change 23 = .ok (.iload_n 1, 1) := by decide +kernel
theorem dX0_change_24 : decode cX0_change 24 = .ok (.invokevirtual 72, 3) := by decide +kernel
theorem dX0_change_27 : decode cX0_change 27 = .ok (.istore_n 3, 1) := by decide +kernel
theorem dX0_change_28 : decode cX0_change 28 = .ok (.aload_n 0, 1) := by decide +kernel
theorem dX0_change_29 : decode cX0_change 29 = .ok (.getfield 23, 3) := by decide +kernel
theorem dX0_change_32 : decode cX0_change 32 = .ok (.iload_n 1, 1) := by decide +kernel
theorem dX0_change_33 : decode cX0_change 33 = .ok (.iload_n 2, 1) := by decide +kernel
theorem dX0_change_34 : decode cX0_change 34 = .ok (.invokevirtual 46, 3) := by decide +kernel
theorem dX0_change_37 : decode cX0_change 37 = .ok (.iload_n 3, 1) := by decide +kernel
theorem dX0_change_38 : decode cX0_change 38 = .ok (.ireturn, 1) := by decide +kernel
theorem dX0_lendingError_0 : decode cX0_lendingError 0 = .ok (.iload_n 1, 1) := by decide +kernel
theorem dX0_lendingError_1 : decode cX0_lendingError 1 = .ok (.iconst 0, 1) := by decide +kernel
theorem dX0_lendingError_2 : decode cX0_lendingError 2 = .ok (.bipush 11, 2) := by decide +kernel
theorem dX0_lendingError_4 : decode cX0_lendingError 4 = .ok (.invokestatic 82, 3) := by decide +kernel
theorem dX0_lendingError_7 : decode cX0_lendingError 7 = .ok (.ifCond .ne 13, 3) := by decide +kernel
theorem dX0_lendingError_10 : decode cX0_lendingError 10 = .ok (.iload_n 2, 1) := by decide +kernel
theorem dX0_lendingError_11 : decode cX0_lendingError 11 = .ok (.iconst 0, 1) := by decide +kernel
theorem dX0_lendingError_12 : decode cX0_lendingError 12 = .ok (.bipush 7, 2) := by decide +kernel
theorem dX0_lendingError_14 : decode cX0_lendingError 14 = .ok (.invokestatic 82, 3) := by decide +kernel
theorem dX0_lendingError_17 : decode cX0_lendingError 17 = .ok (.ifCond .eq 5, 3) := by decide +kernel
theorem dX0_lendingError_20 : decode cX0_lendingError 20 = .ok (.iconst (-1), 1) := by decide +kernel
theorem dX0_lendingError_21 : decode cX0_lendingError 21 = .ok (.ireturn, 1) := by decide +kernel
theorem dX0_lendingError_22 : decode cX0_lendingError 22 = .ok (.aload_n 0, 1) := by decide +kernel
theorem dX0_lendingError_23 : decode cX0_lendingError 23 = .ok (.iload_n 1, 1) := by decide +kernel
theorem dX0_lendingError_24 : decode cX0_lendingError 24 = .ok (.invokevirtual 103, 3) := by decide +kernel
theorem dX0_lendingError_27 : decode cX0_lendingError 27 = .ok (.ifCond .eq 20, 3) := by decide +kernel
theorem dX0_lendingError_30 : decode cX0_lendingError 30 = .ok (.aload_n 0, 1) := by decide +kernel
theorem dX0_lendingError_31 : decode cX0_lendingError 31 = .ok (.getfield 12, 3) := by decide +kernel
theorem dX0_lendingError_34 : decode cX0_lendingError 34 = .ok (.iload_n 2, 1) := by decide +kernel
theorem dX0_lendingError_35 : decode cX0_lendingError 35 = .ok (.invokevirtual 107, 3) := by decide +kernel
theorem dX0_lendingError_38 : decode cX0_lendingError 38 = .ok (.bipush (-9), 2) := by decide +kernel
theorem dX0_lendingError_40 : decode cX0_lendingError 40 = .ok (.if_icmp .eq 7, 3) := by decide +kernel
theorem dX0_lendingError_43 : decode cX0_lendingError 43 = .ok (.iconst 1, 1) := by decide +kernel
theorem dX0_lendingError_44 : decode cX0_lendingError 44 = .ok (.goto 4, 3) := by decide +kernel
theorem dX0_lendingError_47 : decode cX0_lendingError 47 = .ok (.iconst 0, 1) := by decide +kernel
theorem dX0_lendingError_48 : decode cX0_lendingError 48 = .ok (.istore_n 3, 1) := by decide +kernel
theorem dX0_lendingError_49 : decode cX0_lendingError 49 = .ok (.iload_n 3, 1) := by decide +kernel
theorem dX0_lendingError_50 : decode cX0_lendingError 50 = .ok (.ifCond .eq 7, 3) := by decide +kernel
theorem dX0_lendingError_53 : decode cX0_lendingError 53 = .ok (.iconst 0, 1) := by decide +kernel
theorem dX0_lendingError_54 : decode cX0_lendingError 54 = .ok (.goto 5, 3) := by decide +kernel
theorem dX0_lendingError_57 : decode cX0_lendingError 57 = .ok (.bipush (-2), 2) := by decide +kernel
theorem dX0_lendingError_59 : decode cX0_lendingError 59 = .ok (.ireturn, 1) := by decide +kernel
theorem dX0_wouldBorrow_0 : decode cX0_wouldBorrow 0 = .ok (.aload_n 0, 1) := by decide +kernel
theorem dX0_wouldBorrow_1 : decode cX0_wouldBorrow 1 = .ok (.getfield 27, 3) := by decide +kernel
theorem dX0_wouldBorrow_4 : decode cX0_wouldBorrow 4 = .ok (.iload_n 1, 1) := by decide +kernel
theorem dX0_wouldBorrow_5 : decode cX0_wouldBorrow 5 = .ok (.invokevirtual 72, 3) := by decide +kernel
theorem dX0_wouldBorrow_8 : decode cX0_wouldBorrow 8 = .ok (.bipush 10, 2) := by decide +kernel
theorem dX0_wouldBorrow_10 : decode cX0_wouldBorrow 10 = .ok (.if_icmp .lt 21, 3) := by decide +kernel
theorem dX0_wouldBorrow_13 : decode cX0_wouldBorrow 13 = .ok (.aload_n 0, 1) := by decide +kernel
theorem dX0_wouldBorrow_14 : decode cX0_wouldBorrow 14 = .ok (.getfield 12, 3) := by decide +kernel
theorem dX0_wouldBorrow_17 : decode cX0_wouldBorrow 17 = .ok (.bipush 8, 2) := by decide +kernel
theorem dX0_wouldBorrow_19 : decode cX0_wouldBorrow 19 = .ok (.iload_n 1, 1) := by decide +kernel
theorem dX0_wouldBorrow_20 : decode cX0_wouldBorrow 20 = .ok (.iadd, 1) := by decide +kernel
theorem dX0_wouldBorrow_21 : decode cX0_wouldBorrow 21 = .ok (.invokevirtual 75, 3) := by decide +kernel
theorem dX0_wouldBorrow_24 : decode cX0_wouldBorrow 24 = .ok (.ifCond .ne 7, 3) := by decide +kernel
theorem dX0_wouldBorrow_27 : decode cX0_wouldBorrow 27 = .ok (.iconst 1, 1) := by decide +kernel
theorem dX0_wouldBorrow_28 : decode cX0_wouldBorrow 28 = .ok (.goto 4, 3) := by decide +kernel
theorem dX0_wouldBorrow_31 : decode cX0_wouldBorrow 31 = .ok (.iconst 0, 1) := by decide +kernel
theorem dX0_wouldBorrow_32 : decode cX0_wouldBorrow 32 = .ok (.ireturn, 1) := by decide +kernel
theorem dX0_lend_0 : decode cX0_lend 0 = .ok (.aload_n 0, 1) := by decide +kernel
theorem dX0_lend_1 : decode cX0_lend 1 = .ok (.getfield 12, 3) := by decide +kernel
theorem dX0_lend_4 : decode cX0_lend 4 = .ok (.iload_n 2, 1) := by decide +kernel
theorem dX0_lend_5 : decode cX0_lend 5 = .ok (.invokevirtual 107, 3) := by decide +kernel
theorem dX0_lend_8 : decode cX0_lend 8 = .ok (.istore_n 3, 1) := by decide +kernel
theorem dX0_lend_9 : decode cX0_lend 9 = .ok (.aload_n 0, 1) := by decide +kernel
theorem dX0_lend_10 : decode cX0_lend 10 = .ok (.iload_n 1, 1) := by decide +kernel
theorem dX0_lend_11 : decode cX0_lend 11 = .ok (.iload_n 3, 1) := by decide +kernel
theorem dX0_lend_12 : decode cX0_lend 12 = .ok (.invokevirtual 110, 3) := by decide +kernel
theorem dX0_lend_15 : decode cX0_lend 15 = .ok (.iload_n 3, 1) := by decide +kernel
theorem dX0_lend_16 : decode cX0_lend 16 = .ok (.ireturn, 1) := by decide +kernel
theorem dX0_handOut_0 : decode cX0_handOut 0 = .ok (.aload_n 0, 1) := by decide +kernel
theorem dX0_handOut_1 : decode cX0_handOut 1 = .ok (.getfield 12, 3) := by decide +kernel
theorem dX0_handOut_4 : decode cX0_handOut 4 = .ok (.iload_n 2, 1) := by decide +kernel
theorem dX0_handOut_5 : decode cX0_handOut 5 = .ok (.bipush 8, 2) := by decide +kernel
theorem dX0_handOut_7 : decode cX0_handOut 7 = .ok (.iload_n 1, 1) := by decide +kernel
theorem dX0_handOut_8 : decode cX0_handOut 8 = .ok (.iadd, 1) := by decide +kernel
theorem dX0_handOut_9 : decode cX0_handOut 9 = .ok (.invokevirtual 113, 3) := by decide +kernel
theorem dX0_handOut_12 : decode cX0_handOut 12 = .ok (.aload_n 0, 1) := by decide +kernel
theorem dX0_handOut_13 : decode cX0_handOut 13 = .ok (.getfield 12, 3) := by decide +kernel
theorem dX0_handOut_16 : decode cX0_handOut 16 = .ok (.getfield 116, 3) := by decide +kernel
theorem dX0_handOut_19 : decode cX0_handOut 19 = .ok (.iload_n 2, 1) := by decide +kernel
theorem dX0_handOut_20 : decode cX0_handOut 20 = .ok (.iconst 1, 1) := by decide +kernel
theorem dX0_handOut_21 : decode cX0_handOut 21 = .ok (.invokevirtual 119, 3) := by decide +kernel
theorem dX0_handOut_24 : decode cX0_handOut 24 = .ok (.aload_n 0, 1) := by decide +kernel
theorem dX0_handOut_25 : decode cX0_handOut 25 = .ok (.getfield 27, 3) := by decide +kernel
theorem dX0_handOut_28 : decode cX0_handOut 28 = .ok (.iload_n 1, 1) := by decide +kernel
theorem dX0_handOut_29 : decode cX0_handOut 29 = .ok (.bipush (-10), 2) := by decide +kernel
theorem dX0_handOut_31 : decode cX0_handOut 31 = .ok (.invokevirtual 119, 3) := by decide +kernel
theorem dX0_handOut_34 : decode cX0_handOut 34 = .ok (.aload_n 0, 1) := by decide +kernel
theorem dX0_handOut_35 : decode cX0_handOut 35 = .ok (.dup, 1) := by decide +kernel
theorem dX0_handOut_36 : decode cX0_handOut 36 = .ok (.getfield 39, 3) := by decide +kernel
theorem dX0_handOut_39 : decode cX0_handOut 39 = .ok (.bipush 10, 2) := by decide +kernel
theorem dX0_handOut_41 : decode cX0_handOut 41 = .ok (.iadd, 1) := by decide +kernel
theorem dX0_handOut_42 : decode cX0_handOut 42 = .ok (.putfield 39, 3) := by decide +kernel
theorem dX0_handOut_45 : decode cX0_handOut 45 = .ok (.aload_n 0, 1) := by decide +kernel
theorem dX0_handOut_46 : decode cX0_handOut 46 = .ok (.dup, 1) := by decide +kernel
theorem dX0_handOut_47 : decode cX0_handOut 47 = .ok (.getfield 62, 3) := by decide +kernel
theorem dX0_handOut_50 : decode cX0_handOut 50 = .ok (.iconst 1, 1) := by decide +kernel
theorem dX0_handOut_51 : decode cX0_handOut 51 = .ok (.iadd, 1) := by decide +kernel
theorem dX0_handOut_52 : decode cX0_handOut 52 = .ok (.putfield 62, 3) := by decide +kernel
theorem dX0_handOut_55 : decode cX0_handOut 55 = .ok (.return_, 1) := by decide +kernel
theorem dX0_returningError_0 : decode cX0_returningError 0 = .ok (.iload_n 1, 1) := by decide +kernel
theorem dX0_returningError_1 : decode cX0_returningError 1 = .ok (.iconst 0, 1) := by decide +kernel
theorem dX0_returningError_2 : decode cX0_returningError 2 = .ok (.bipush 11, 2) := by decide +kernel
theorem dX0_returningError_4 : decode cX0_returningError 4 = .ok (.invokestatic 82, 3) := by decide +kernel
theorem dX0_returningError_7 : decode cX0_returningError 7 = .ok (.ifCond .ne 13, 3) := by decide +kernel
theorem dX0_returningError_10 : decode cX0_returningError 10 = .ok (.iload_n 2, 1) := by decide +kernel
theorem dX0_returningError_11 : decode cX0_returningError 11 = .ok (.iconst 0, 1) := by decide +kernel
theorem dX0_returningError_12 : decode cX0_returningError 12 = .ok (.bipush 7, 2) := by decide +kernel
theorem dX0_returningError_14 : decode cX0_returningError 14 = .ok (.invokestatic 82, 3) := by decide +kernel
theorem dX0_returningError_17 : decode cX0_returningError 17 = .ok (.ifCond .eq 5, 3) := by decide +kernel
theorem dX0_returningError_20 : decode cX0_returningError 20 = .ok (.iconst (-1), 1) := by decide +kernel
theorem dX0_returningError_21 : decode cX0_returningError 21 = .ok (.ireturn, 1) := by decide +kernel
theorem dX0_returningError_22 : decode cX0_returningError 22 = .ok (.aload_n 0, 1) := by decide +kernel
theorem dX0_returningError_23 : decode cX0_returningError 23 = .ok (.iload_n 1, 1) := by decide +kernel
theorem dX0_returningError_24 : decode cX0_returningError 24 = .ok (.invokevirtual 122, 3) := by decide +kernel
theorem dX0_returningError_27 : decode cX0_returningError 27 = .ok (.ifCond .ne 6, 3) := by decide +kernel
theorem dX0_returningError_30 : decode cX0_returningError 30 = .ok (.bipush (-2), 2) := by decide +kernel
theorem dX0_returningError_32 : decode cX0_returningError 32 = .ok (.ireturn, 1) := by decide +kernel
theorem dX0_returningError_33 : decode cX0_returningError 33 = .ok (.aload_n 0, 1) := by decide +kernel
theorem dX0_returningError_34 : decode cX0_returningError 34 = .ok (.iload_n 2, 1) := by decide +kernel
theorem dX0_returningError_35 : decode cX0_returningError 35 = .ok (.invokevirtual 93, 3) := by decide +kernel
theorem dX0_returningError_38 : decode cX0_returningError 38 = .ok (.ifCond .gt 8, 3) := by decide +kernel
theorem dX0_returningError_41 : decode cX0_returningError 41 = .ok (.bipush (-3), 2) := by decide +kernel
theorem dX0_returningError_43 : decode cX0_returningError 43 = .ok (.goto 4, 3) := by decide +kernel
theorem dX0_returningError_46 : decode cX0_returningError 46 = .ok (.iconst 0, 1) := by decide +kernel
theorem dX0_returningError_47 : decode cX0_returningError 47 = .ok (.ireturn, 1) := by decide +kernel
theorem dX0_takeBack_0 : decode cX0_takeBack 0 = .ok (.aload_n 0, 1) := by decide +kernel
theorem dX0_takeBack_1 : decode cX0_takeBack 1 = .ok (.iload_n 1, 1) := by decide +kernel
theorem dX0_takeBack_2 : decode cX0_takeBack 2 = .ok (.iconst 0, 1) := by decide +kernel
theorem dX0_takeBack_3 : decode cX0_takeBack 3 = .ok (.iconst 0, 1) := by decide +kernel
theorem dX0_takeBack_4 : decode cX0_takeBack 4 = .ok (.invokevirtual 125, 3) := by decide +kernel
theorem dX0_takeBack_7 : decode cX0_takeBack 7 = .ok (.istore_n 3, 1) := by decide +kernel
theorem dX0_takeBack_8 : decode cX0_takeBack 8 = .ok (.aload_n 0, 1) := by decide +kernel
theorem dX0_takeBack_9 : decode cX0_takeBack 9 = .ok (.getfield 12, 3) := by decide +kernel
theorem dX0_takeBack_12 : decode cX0_takeBack 12 = .ok (.aload_n 0, 1) := by decide +kernel
theorem dX0_takeBack_13 : decode cX0_takeBack 13 = .ok (.iload_n 1, 1) := by decide +kernel
theorem dX0_takeBack_14 : decode cX0_takeBack 14 = .ok (.invokevirtual 129, 3) := by decide +kernel
theorem dX0_takeBack_17 : decode cX0_takeBack 17 = .ok (.iload_n 2, 1) := by decide +kernel
theorem dX0_takeBack_18 : decode cX0_takeBack 18 = .ok (.invokevirtual 113, 3) := by decide +kernel
theorem dX0_takeBack_21 : decode cX0_takeBack 21 = .ok (.aload_n 0, 1) := by decide +kernel
theorem dX0_takeBack_22 : decode cX0_takeBack 22 = .ok (.getfield 27, 3) := by decide +kernel
theorem dX0_takeBack_25 : decode cX0_takeBack 25 = .ok (.iload_n 1, 1) := by decide +kernel
theorem dX0_takeBack_26 : decode cX0_takeBack 26 = .ok (.bipush 10, 2) := by decide +kernel
theorem dX0_takeBack_28 : decode cX0_takeBack 28 = .ok (.iload_n 3, 1) := by decide +kernel
theorem dX0_takeBack_29 : decode cX0_takeBack 29 = .ok (.isub, 1) := by decide +kernel
theorem dX0_takeBack_30 : decode cX0_takeBack 30 = .ok (.invokevirtual 119, 3) := by decide +kernel
theorem dX0_takeBack_33 : decode cX0_takeBack 33 = .ok (.aload_n 0, 1) := by decide +kernel
theorem dX0_takeBack_34 : decode cX0_takeBack 34 = .ok (.dup, 1) := by decide +kernel
theorem dX0_takeBack_35 : decode cX0_takeBack 35 = .ok (.getfield 39, 3) := by decide +kernel
theorem dX0_takeBack_38 : decode cX0_takeBack 38 = .ok (.bipush 10, 2) := by decide +kernel
theorem dX0_takeBack_40 : decode cX0_takeBack 40 = .ok (.iload_n 3, 1) := by decide +kernel
theorem dX0_takeBack_41 : decode cX0_takeBack 41 = .ok (.isub, 1) := by decide +kernel
theorem dX0_takeBack_42 : decode cX0_takeBack 42 = .ok (.isub, 1) := by decide +kernel
theorem dX0_takeBack_43 : decode cX0_takeBack 43 = .ok (.putfield 39, 3) := by decide +kernel
theorem dX0_takeBack_46 : decode cX0_takeBack 46 = .ok (.aload_n 0, 1) := by decide +kernel
theorem dX0_takeBack_47 : decode cX0_takeBack 47 = .ok (.getfield 36, 3) := by decide +kernel
theorem dX0_takeBack_50 : decode cX0_takeBack 50 = .ok (.iload_n 1, 1) := by decide +kernel
theorem dX0_takeBack_51 : decode cX0_takeBack 51 = .ok (.iload_n 3, 1) := by decide +kernel
theorem dX0_takeBack_52 : decode cX0_takeBack 52 = .ok (.invokevirtual 119, 3) := by decide +kernel
theorem dX0_takeBack_55 : decode cX0_takeBack 55 = .ok (.aload_n 0, 1) := by decide +kernel
theorem dX0_takeBack_56 : decode cX0_takeBack 56 = .ok (.getfield 30, 3) := by decide +kernel
theorem dX0_takeBack_59 : decode cX0_takeBack 59 = .ok (.iload_n 1, 1) := by decide +kernel
theorem dX0_takeBack_60 : decode cX0_takeBack 60 = .ok (.iconst 0, 1) := by decide +kernel
theorem dX0_takeBack_61 : decode cX0_takeBack 61 = .ok (.invokevirtual 46, 3) := by decide +kernel
theorem dX0_takeBack_64 : decode cX0_takeBack 64 = .ok (.aload_n 0, 1) := by decide +kernel
theorem dX0_takeBack_65 : decode cX0_takeBack 65 = .ok (.getfield 33, 3) := by decide +kernel
theorem dX0_takeBack_68 : decode cX0_takeBack 68 = .ok (.iload_n 1, 1) := by decide +kernel
theorem dX0_takeBack_69 : decode cX0_takeBack 69 = .ok (.iload_n 2, 1) := by decide +kernel
theorem dX0_takeBack_70 : decode cX0_takeBack 70 = .ok (.invokevirtual 46, 3) := by decide +kernel
theorem dX0_takeBack_73 : decode cX0_takeBack 73 = .ok (.iload_n 3, 1) := by decide +kernel
theorem dX0_takeBack_74 : decode cX0_takeBack 74 = .ok (.ireturn, 1) := by decide +kernel
theorem dX0_feeAfter_0 : decode cX0_feeAfter 0 = .ok (.aload_n 0, 1) := by decide +kernel
theorem dX0_feeAfter_1 : decode cX0_feeAfter 1 = .ok (.getfield 12, 3) := by decide +kernel
theorem dX0_feeAfter_4 : decode cX0_feeAfter 4 = .ok (.getfield 132, 3) := by decide +kernel
theorem dX0_feeAfter_7 : decode cX0_feeAfter 7 = .ok (.aload_n 0, 1) := by decide +kernel
theorem dX0_feeAfter_8 : decode cX0_feeAfter 8 = .ok (.iload_n 1, 1) := by decide +kernel
theorem dX0_feeAfter_9 : decode cX0_feeAfter 9 = .ok (.invokevirtual 129, 3) := by decide +kernel
theorem dX0_feeAfter_12 : decode cX0_feeAfter 12 = .ok (.invokevirtual 72, 3) := by decide +kernel
theorem dX0_feeAfter_15 : decode cX0_feeAfter 15 = .ok (.istore 4, 2) := by decide +kernel
theorem dX0_feeAfter_17 : decode cX0_feeAfter 17 = .ok (.iconst 0, 1) := by decide +kernel
theorem dX0_feeAfter_18 : decode cX0_feeAfter 18 = .ok (.istore 5, 2) := by decide +kernel
theorem dX0_feeAfter_20 : decode cX0_feeAfter 20 = .ok (.iload 5, 2) := by decide +kernel
theorem dX0_feeAfter_22 : decode cX0_feeAfter 22 = .ok (.iload_n 2, 1) := by decide +kernel
theorem dX0_feeAfter_23 : decode cX0_feeAfter 23 = .ok (.if_icmp .ge 18, 3) := by decide +kernel
theorem dX0_feeAfter_26 : decode cX0_feeAfter 26 = .ok (.iload 4, 2) := by decide +kernel
theorem dX0_feeAfter_28 : decode cX0_feeAfter 28 = .ok (.iload_n 3, 1) := by decide +kernel
theorem dX0_feeAfter_29 : decode cX0_feeAfter 29 = .ok (.iconst 0, 1) := by decide +kernel
theorem dX0_feeAfter_30 : decode cX0_feeAfter 30 = .ok (.invokestatic 135, 3) := by decide +kernel
theorem dX0_feeAfter_33 : decode cX0_feeAfter 33 = .ok (.istore 4, 2) := by decide +kernel
theorem dX0_feeAfter_35 : decode cX0_feeAfter 35 = .ok (.iinc 5 1, 3) := by decide +kernel
theorem dX0_feeAfter_38 : decode cX0_feeAfter 38 = .ok (.goto (-18), 3) := by decide +kernel
theorem dX0_feeAfter_41 : decode cX0_feeAfter 41 = .ok (.aload_n 0, 1) := by decide +kernel
theorem dX0_feeAfter_42 : decode cX0_feeAfter 42 = .ok (.getfield 30, 3) := by decide +kernel
theorem dX0_feeAfter_45 : decode cX0_feeAfter 45 = .ok (.iload_n 1, 1) := by decide +kernel
theorem dX0_feeAfter_46 : decode cX0_feeAfter 46 = .ok (.invokevirtual 72, 3) := by decide +kernel
theorem dX0_feeAfter_49 : decode cX0_feeAfter 49 = .ok (.iload_n 3, 1) := by decide +kernel
theorem dX0_feeAfter_50 : decode cX0_feeAfter 50 = .ok (.iconst 2, 1) := by decide +kernel
theorem dX0_feeAfter_51 : decode cX0_feeAfter 51 = .ok (.if_icmp .lt 7, 3) := by decide +kernel
theorem dX0_feeAfter_54 : decode cX0_feeAfter 54 = .ok (.iload_n 2, 1) := by decide +kernel
theorem dX0_feeAfter_55 : decode cX0_feeAfter 55 = .ok (.goto 4, 3) := by decide +kernel
theorem dX0_feeAfter_58 : decode cX0_feeAfter 58 = .ok (.iconst 0, 1) := by decide +kernel
theorem dX0_feeAfter_59 : decode cX0_feeAfter 59 = .ok (.iadd, 1) := by decide +kernel
theorem dX0_feeAfter_60 : decode cX0_feeAfter 60 = .ok (.istore 5, 2) := by decide +kernel
theorem dX0_feeAfter_62 : decode cX0_feeAfter 62 = .ok (.aload_n 0, 1) := by decide +kernel
theorem dX0_feeAfter_63 : decode cX0_feeAfter 63 = .ok (.getfield 43, 3) := by decide +kernel
theorem dX0_feeAfter_66 : decode cX0_feeAfter 66 = .ok (.iload 5, 2) := by decide +kernel
theorem dX0_feeAfter_68 : decode cX0_feeAfter 68 = .ok (.imul, 1) := by decide +kernel
theorem dX0_feeAfter_69 : decode cX0_feeAfter 69 = .ok (.iload 4, 2) := by decide +kernel
theorem dX0_feeAfter_71 : decode cX0_feeAfter 71 = .ok (.bipush 32, 2) := by decide +kernel
theorem dX0_feeAfter_73 : decode cX0_feeAfter 73 = .ok (.if_icmp .lt 7, 3) := by decide +kernel
theorem dX0_feeAfter_76 : decode cX0_feeAfter 76 = .ok (.iconst 4, 1) := by decide +kernel
theorem dX0_feeAfter_77 : decode cX0_feeAfter 77 = .ok (.goto 4, 3) := by decide +kernel
theorem dX0_feeAfter_80 : decode cX0_feeAfter 80 = .ok (.iconst 0, 1) := by decide +kernel
theorem dX0_feeAfter_81 : decode cX0_feeAfter 81 = .ok (.iadd, 1) := by decide +kernel
theorem dX0_feeAfter_82 : decode cX0_feeAfter 82 = .ok (.istore 6, 2) := by decide +kernel
theorem dX0_feeAfter_84 : decode cX0_feeAfter 84 = .ok (.bipush 10, 2) := by decide +kernel
theorem dX0_feeAfter_86 : decode cX0_feeAfter 86 = .ok (.iload 6, 2) := by decide +kernel
theorem dX0_feeAfter_88 : decode cX0_feeAfter 88 = .ok (.invokestatic 138, 3) := by decide +kernel
theorem dX0_feeAfter_91 : decode cX0_feeAfter 91 = .ok (.ireturn, 1) := by decide +kernel
theorem dX0_hoursToBreak_0 : decode cX0_hoursToBreak 0 = .ok (.aload_n 0, 1) := by decide +kernel
theorem dX0_hoursToBreak_1 : decode cX0_hoursToBreak 1 = .ok (.getfield 12, 3) := by decide +kernel
theorem dX0_hoursToBreak_4 : decode cX0_hoursToBreak 4 = .ok (.getfield 132, 3) := by decide +kernel
theorem dX0_hoursToBreak_7 : decode cX0_hoursToBreak 7 = .ok (.aload_n 0, 1) := by decide +kernel
theorem dX0_hoursToBreak_8 : decode cX0_hoursToBreak 8 = .ok (.iload_n 1, 1) := by decide +kernel
theorem dX0_hoursToBreak_9 : decode cX0_hoursToBreak 9 = .ok (.invokevirtual 129, 3) := by decide +kernel
theorem dX0_hoursToBreak_12 : decode cX0_hoursToBreak 12 = .ok (.invokevirtual 72, 3) := by decide +kernel
theorem dX0_hoursToBreak_15 : decode cX0_hoursToBreak 15 = .ok (.istore 4, 2) := by decide +kernel
theorem dX0_hoursToBreak_17 : decode cX0_hoursToBreak 17 = .ok (.iconst 0, 1) := by decide +kernel
theorem dX0_hoursToBreak_18 : decode cX0_hoursToBreak 18 = .ok (.istore 5, 2) := by decide +kernel
theorem dX0_hoursToBreak_20 : decode cX0_hoursToBreak 20 = .ok (.iload 5, 2) := by decide +kernel
theorem dX0_hoursToBreak_22 : decode cX0_hoursToBreak 22 = .ok (.bipush 100, 2) := by decide +kernel
theorem dX0_hoursToBreak_24 : decode cX0_hoursToBreak 24 = .ok (.if_icmp .gt 28, 3) := by decide +kernel
theorem dX0_hoursToBreak_27 : decode cX0_hoursToBreak 27 = .ok (.iload 4, 2) := by decide +kernel
theorem dX0_hoursToBreak_29 : decode cX0_hoursToBreak 29 = .ok (.bipush 32, 2) := by decide +kernel
theorem dX0_hoursToBreak_31 : decode cX0_hoursToBreak 31 = .ok (.if_icmp .lt 6, 3) := by decide +kernel
theorem dX0_hoursToBreak_34 : decode cX0_hoursToBreak 34 = .ok (.iload 5, 2) := by decide +kernel
theorem dX0_hoursToBreak_36 : decode cX0_hoursToBreak 36 = .ok (.ireturn, 1) := by decide +kernel
theorem dX0_hoursToBreak_37 : decode cX0_hoursToBreak 37 = .ok (.iload 4, 2) := by decide +kernel
theorem dX0_hoursToBreak_39 : decode cX0_hoursToBreak 39 = .ok (.iload_n 2, 1) := by decide +kernel
theorem dX0_hoursToBreak_40 : decode cX0_hoursToBreak 40 = .ok (.iload_n 3, 1) := by decide +kernel
theorem dX0_hoursToBreak_41 : decode cX0_hoursToBreak 41 = .ok (.invokestatic 135, 3) := by decide +kernel
theorem dX0_hoursToBreak_44 : decode cX0_hoursToBreak 44 = .ok (.istore 4, 2) := by decide +kernel
theorem dX0_hoursToBreak_46 : decode cX0_hoursToBreak 46 = .ok (.iinc 5 1, 3) := by decide +kernel
theorem dX0_hoursToBreak_49 : decode cX0_hoursToBreak 49 = .ok (.goto (-29), 3) := by decide +kernel
theorem dX0_hoursToBreak_52 : decode cX0_hoursToBreak 52 = .ok (.bipush (-9), 2) := by decide +kernel
theorem dX0_hoursToBreak_54 : decode cX0_hoursToBreak 54 = .ok (.ireturn, 1) := by decide +kernel
theorem dX0_passingError_0 : decode cX0_passingError 0 = .ok (.iload_n 1, 1) := by decide +kernel
theorem dX0_passingError_1 : decode cX0_passingError 1 = .ok (.iconst 0, 1) := by decide +kernel
theorem dX0_passingError_2 : decode cX0_passingError 2 = .ok (.bipush 9, 2) := by decide +kernel
theorem dX0_passingError_4 : decode cX0_passingError 4 = .ok (.invokestatic 82, 3) := by decide +kernel
theorem dX0_passingError_7 : decode cX0_passingError 7 = .ok (.ifCond .ne 12, 3) := by decide +kernel
theorem dX0_passingError_10 : decode cX0_passingError 10 = .ok (.iload_n 2, 1) := by decide +kernel
theorem dX0_passingError_11 : decode cX0_passingError 11 = .ok (.iconst 0, 1) := by decide +kernel
theorem dX0_passingError_12 : decode cX0_passingError 12 = .ok (.iconst 3, 1) := by decide +kernel
theorem dX0_passingError_13 : decode cX0_passingError 13 = .ok (.invokestatic 82, 3) := by decide +kernel
theorem dX0_passingError_16 : decode cX0_passingError 16 = .ok (.ifCond .eq 5, 3) := by decide +kernel
theorem dX0_passingError_19 : decode cX0_passingError 19 = .ok (.iconst (-1), 1) := by decide +kernel
theorem dX0_passingError_20 : decode cX0_passingError 20 = .ok (.ireturn, 1) := by decide +kernel
theorem dX0_passingError_21 : decode cX0_passingError 21 = .ok (.aload_n 0, 1) := by decide +kernel
theorem dX0_passingError_22 : decode cX0_passingError 22 = .ok (.getfield 56, 3) := by decide +kernel
theorem dX0_passingError_25 : decode cX0_passingError 25 = .ok (.sipush 500, 3) := by decide +kernel
theorem dX0_passingError_28 : decode cX0_passingError 28 = .ok (.if_icmp .lt 8, 3) := by decide +kernel
theorem dX0_passingError_31 : decode cX0_passingError 31 = .ok (.bipush (-3), 2) := by decide +kernel
theorem dX0_passingError_33 : decode cX0_passingError 33 = .ok (.goto 4, 3) := by decide +kernel
theorem dX0_passingError_36 : decode cX0_passingError 36 = .ok (.iconst 0, 1) := by decide +kernel
theorem dX0_passingError_37 : decode cX0_passingError 37 = .ok (.ireturn, 1) := by decide +kernel
theorem dX0_passHour_0 : decode cX0_passHour 0 = .ok (.aload_n 0, 1) := by decide +kernel
theorem dX0_passHour_1 : decode cX0_passHour 1 = .ok (.dup, 1) := by decide +kernel
theorem dX0_passHour_2 : decode cX0_passHour 2 = .ok (.getfield 56, 3) := by decide +kernel
theorem dX0_passHour_5 : decode cX0_passHour 5 = .ok (.iconst 1, 1) := by decide +kernel
theorem dX0_passHour_6 : decode cX0_passHour 6 = .ok (.iadd, 1) := by decide +kernel
theorem dX0_passHour_7 : decode cX0_passHour 7 = .ok (.putfield 56, 3) := by decide +kernel
theorem dX0_passHour_10 : decode cX0_passHour 10 = .ok (.iload_n 1, 1) := by decide +kernel
theorem dX0_passHour_11 : decode cX0_passHour 11 = .ok (.iconst 2, 1) := by decide +kernel
theorem dX0_passHour_12 : decode cX0_passHour 12 = .ok (.if_icmp .lt 7, 3) := by decide +kernel
theorem dX0_passHour_15 : decode cX0_passHour 15 = .ok (.aload_n 0, 1) := by decide +kernel
theorem dX0_passHour_16 : decode cX0_passHour 16 = .ok (.invokevirtual 143, 3) := by decide +kernel
theorem dX0_passHour_19 : decode cX0_passHour 19 = .ok (.aload_n 0, 1) := by decide +kernel
theorem dX0_passHour_20 : decode cX0_passHour 20 = .ok (.iload_n 1, 1) := by decide +kernel
theorem dX0_passHour_21 : decode cX0_passHour 21 = .ok (.iload_n 2, 1) := by decide +kernel
theorem dX0_passHour_22 : decode cX0_passHour 22 = .ok (.invokevirtual 146, 3) := by decide +kernel
theorem dX0_passHour_25 : decode cX0_passHour 25 = .ok (.istore_n 3, 1) := by decide +kernel
theorem dX0_passHour_26 : decode cX0_passHour 26 = .ok (.iload_n 1, 1) := by decide +kernel
theorem dX0_passHour_27 : decode cX0_passHour 27 = .ok (.iconst 5, 1) := by decide +kernel
theorem dX0_passHour_28 : decode cX0_passHour 28 = .ok (.if_icmp .lt 7, 3) := by decide +kernel
theorem dX0_passHour_31 : decode cX0_passHour 31 = .ok (.aload_n 0, 1) := by decide +kernel
theorem dX0_passHour_32 : decode cX0_passHour 32 = .ok (.invokevirtual 149, 3) := by decide +kernel
theorem dX0_passHour_35 : decode cX0_passHour 35 = .ok (.iload_n 3, 1) := by decide +kernel
theorem dX0_passHour_36 : decode cX0_passHour 36 = .ok (.ireturn, 1) := by decide +kernel
theorem dX0_countShower_0 : decode cX0_countShower 0 = .ok (.iconst 0, 1) := by decide +kernel
theorem dX0_countShower_1 : decode cX0_countShower 1 = .ok (.istore_n 1, 1) := by decide +kernel
theorem dX0_countShower_2 : decode cX0_countShower 2 = .ok (.iload_n 1, 1) := by decide +kernel
theorem dX0_countShower_3 : decode cX0_countShower 3 = .ok (.bipush 12, 2) := by decide +kernel
theorem dX0_countShower_5 : decode cX0_countShower 5 = .ok (.if_icmp .ge 26, 3) := by decide +kernel
theorem dX0_countShower_8 : decode cX0_countShower 8 = .ok (.aload_n 0, 1) := by decide +kernel
theorem dX0_countShower_9 : decode cX0_countShower 9 = .ok (.iload_n 1, 1) := by decide +kernel
theorem dX0_countShower_10 : decode cX0_countShower 10 = .ok (.invokevirtual 122, 3) := by decide +kernel
theorem dX0_countShower_13 : decode cX0_countShower 13 = .ok (.ifCond .eq 12, 3) := by decide +kernel
theorem dX0_countShower_16 : decode cX0_countShower 16 = .ok (.aload_n 0, 1) := by decide +kernel
theorem dX0_countShower_17 : decode cX0_countShower 17 = .ok (.getfield 30, 3) := by decide +kernel
theorem dX0_countShower_20 : decode cX0_countShower 20 = .ok (.iload_n 1, 1) := by decide +kernel
theorem dX0_countShower_21 : decode cX0_countShower 21 = .ok (.iconst 1, 1) := by decide +kernel
theorem dX0_countShower_22 : decode cX0_countShower 22 = .ok (.invokevirtual 119, 3) := by decide +kernel
theorem dX0_countShower_25 : decode cX0_countShower 25 = .ok (.iinc 1 1, 3) := by decide +kernel
theorem dX0_countShower_28 : decode cX0_countShower 28 = .ok (.goto (-26), 3) := by decide +kernel
theorem dX0_countShower_31 : decode cX0_countShower 31 = .ok (.return_, 1) := by decide +kernel
theorem dX0_wearDown_0 : decode cX0_wearDown 0 = .ok (.iconst 0, 1) := by decide +kernel
theorem dX0_wearDown_1 : decode cX0_wearDown 1 = .ok (.istore_n 3, 1) := by decide +kernel
theorem dX0_wearDown_2 : decode cX0_wearDown 2 = .ok (.iconst 0, 1) := by decide +kernel
theorem dX0_wearDown_3 : decode cX0_wearDown 3 = .ok (.istore 4, 2) := by decide +kernel
theorem dX0_wearDown_5 : decode cX0_wearDown 5 = .ok (.iload 4, 2) := by decide +kernel
theorem dX0_wearDown_7 : decode cX0_wearDown 7 = .ok (.aload_n 0, 1) := by decide +kernel
theorem dX0_wearDown_8 : decode cX0_wearDown 8 = .ok (.getfield 12, 3) := by decide +kernel
theorem dX0_wearDown_11 : decode cX0_wearDown 11 = .ok (.getfield 90, 3) := by decide +kernel
theorem dX0_wearDown_14 : decode cX0_wearDown 14 = .ok (.if_icmp .ge 82, 3) := by decide +kernel
theorem dX0_wearDown_17 : decode cX0_wearDown 17 = .ok (.aload_n 0, 1) := by decide +kernel
theorem dX0_wearDown_18 : decode cX0_wearDown 18 = .ok (.getfield 12, 3) := by decide +kernel
theorem dX0_wearDown_21 : decode cX0_wearDown 21 = .ok (.getfield 152, 3) := by decide +kernel
theorem dX0_wearDown_24 : decode cX0_wearDown 24 = .ok (.iload 4, 2) := by decide +kernel
theorem dX0_wearDown_26 : decode cX0_wearDown 26 = .ok (.invokevirtual 72, 3) := by decide +kernel
theorem dX0_wearDown_29 : decode cX0_wearDown 29 = .ok (.invokestatic 155, 3) := by decide +kernel
theorem dX0_wearDown_32 : decode cX0_wearDown 32 = .ok (.iconst 1, 1) := by decide +kernel
theorem dX0_wearDown_33 : decode cX0_wearDown 33 = .ok (.if_icmp .ne 57, 3) := by decide +kernel
theorem dX0_wearDown_36 : decode cX0_wearDown 36 = .ok (.aload_n 0, 1) := by decide +kernel
theorem dX0_wearDown_37 : decode cX0_wearDown 37 = .ok (.getfield 12, 3) := by decide +kernel
theorem dX0_wearDown_40 : decode cX0_wearDown 40 = .ok (.getfield 132, 3) := by decide +kernel
theorem dX0_wearDown_43 : decode cX0_wearDown 43 = .ok (.iload 4, 2) := by decide +kernel
theorem dX0_wearDown_45 : decode cX0_wearDown 45 = .ok (.invokevirtual 72, 3) := by decide +kernel
theorem dX0_wearDown_48 : decode cX0_wearDown 48 = .ok (.istore 5, 2) := by decide +kernel
theorem dX0_wearDown_50 : decode cX0_wearDown 50 = .ok (.iload 5, 2) := by decide +kernel
theorem dX0_wearDown_52 : decode cX0_wearDown 52 = .ok (.iload_n 1, 1) := by decide +kernel
theorem dX0_wearDown_53 : decode cX0_wearDown 53 = .ok (.iload_n 2, 1) := by decide +kernel
theorem dX0_wearDown_54 : decode cX0_wearDown 54 = .ok (.invokestatic 135, 3) := by decide +kernel
theorem dX0_wearDown_57 : decode cX0_wearDown 57 = .ok (.istore 6, 2) := by decide +kernel
theorem dX0_wearDown_59 : decode cX0_wearDown 59 = .ok (.aload_n 0, 1) := by decide +kernel
theorem dX0_wearDown_60 : decode cX0_wearDown 60 = .ok (.getfield 12, 3) := by decide +kernel
theorem dX0_wearDown_63 : decode cX0_wearDown 63 = .ok (.getfield 132, 3) := by decide +kernel
theorem dX0_wearDown_66 : decode cX0_wearDown 66 = .ok (.iload 4, 2) := by decide +kernel
theorem dX0_wearDown_68 : decode cX0_wearDown 68 = .ok (.iload 6, 2) := by decide +kernel
theorem dX0_wearDown_70 : decode cX0_wearDown 70 = .ok (.invokevirtual 46, 3) := by decide +kernel
theorem dX0_wearDown_73 : decode cX0_wearDown 73 = .ok (.iload 5, 2) := by decide +kernel
theorem dX0_wearDown_75 : decode cX0_wearDown 75 = .ok (.bipush 32, 2) := by decide +kernel
theorem dX0_wearDown_77 : decode cX0_wearDown 77 = .ok (.if_icmp .ge 13, 3) := by decide +kernel
theorem dX0_wearDown_80 : decode cX0_wearDown 80 = .ok (.iload 6, 2) := by decide +kernel
theorem dX0_wearDown_82 : decode cX0_wearDown 82 = .ok (.bipush 32, 2) := by decide +kernel
theorem dX0_wearDown_84 : decode cX0_wearDown 84 = .ok (.if_icmp .lt 6, 3) := by decide +kernel
theorem dX0_wearDown_87 : decode cX0_wearDown 87 = .ok (.iinc 3 1, 3) := by decide +kernel
theorem dX0_wearDown_90 : decode cX0_wearDown 90 = .ok (.iinc 4 1, 3) := by decide +kernel
theorem dX0_wearDown_93 : decode cX0_wearDown 93 = .ok (.goto (-88), 3) := by decide +kernel
theorem dX0_wearDown_96 : decode cX0_wearDown 96 = .ok (.iload_n 3, 1) := by decide +kernel
theorem dX0_wearDown_97 : decode cX0_wearDown 97 = .ok (.ireturn, 1) := by decide +kernel
theorem dX0_surge_0 : decode cX0_surge 0 = .ok (.aload_n 0, 1) := by decide +kernel
theorem dX0_surge_1 : decode cX0_surge 1 = .ok (.dup, 1) := by decide +kernel
theorem dX0_surge_2 : decode cX0_surge 2 = .ok (.getfield 65, 3) := by decide +kernel
theorem dX0_surge_5 : decode cX0_surge 5 = .ok (.iconst 1, 1) := by decide +kernel
theorem dX0_surge_6 : decode cX0_surge 6 = .ok (.iadd, 1) := by decide +kernel
theorem dX0_surge_7 : decode cX0_surge 7 = .ok (.putfield 65, 3) := by decide +kernel
theorem dX0_surge_10 : decode cX0_surge 10 = .ok (.iconst 0, 1) := by decide +kernel
theorem dX0_surge_11 : decode cX0_surge 11 = .ok (.istore_n 1, 1) := by decide +kernel
theorem dX0_surge_12 : decode cX0_surge 12 = .ok (.iload_n 1, 1) := by decide +kernel
theorem dX0_surge_13 : decode cX0_surge 13 = .ok (.bipush 12, 2) := by decide +kernel
theorem dX0_surge_15 : decode cX0_surge 15 = .ok (.if_icmp .ge 45, 3) := by decide +kernel
theorem dX0_surge_18 : decode cX0_surge 18 = .ok (.aload_n 0, 1) := by decide +kernel
theorem dX0_surge_19 : decode cX0_surge 19 = .ok (.getfield 12, 3) := by decide +kernel
theorem dX0_surge_22 : decode cX0_surge 22 = .ok (.aload_n 0, 1) := by decide +kernel
theorem dX0_surge_23 : decode cX0_surge 23 = .ok (.getfield 33, 3) := by decide +kernel
theorem dX0_surge_26 : decode cX0_surge 26 = .ok (.iload_n 1, 1) := by decide +kernel
theorem dX0_surge_27 : decode cX0_surge 27 = .ok (.invokevirtual 72, 3) := by decide +kernel
theorem dX0_surge_30 : decode cX0_surge 30 = .ok (.invokevirtual 107, 3) := by decide +kernel
theorem dX0_surge_33 : decode cX0_surge 33 = .ok (.istore_n 2, 1) := by decide +kernel
theorem dX0_surge_34 : decode cX0_surge 34 = .ok (.iload_n 2, 1) := by decide +kernel
theorem dX0_surge_35 : decode cX0_surge 35 = .ok (.bipush (-9), 2) := by decide +kernel
theorem dX0_surge_37 : decode cX0_surge 37 = .ok (.if_icmp .eq 17, 3) := by decide +kernel
theorem dX0_surge_40 : decode cX0_surge 40 = .ok (.aload_n 0, 1) := by decide +kernel
theorem dX0_surge_41 : decode cX0_surge 41 = .ok (.iload_n 1, 1) := by decide +kernel
theorem dX0_surge_42 : decode cX0_surge 42 = .ok (.invokevirtual 103, 3) := by decide +kernel
theorem dX0_surge_45 : decode cX0_surge 45 = .ok (.ifCond .eq 9, 3) := by decide +kernel
theorem dX0_surge_48 : decode cX0_surge 48 = .ok (.aload_n 0, 1) := by decide +kernel
theorem dX0_surge_49 : decode cX0_surge 49 = .ok (.iload_n 1, 1) := by decide +kernel
theorem dX0_surge_50 : decode cX0_surge 50 = .ok (.iload_n 2, 1) := by decide +kernel
theorem dX0_surge_51 : decode cX0_surge 51 = .ok (.invokevirtual 110, 3) := by decide +kernel
theorem dX0_surge_54 : decode cX0_surge 54 = .ok (.iinc 1 1, 3) := by decide +kernel
theorem dX0_surge_57 : decode cX0_surge 57 = .ok (.goto (-45), 3) := by decide +kernel
theorem dX0_surge_60 : decode cX0_surge 60 = .ok (.return_, 1) := by decide +kernel
theorem dX0_lackAt_0 : decode cX0_lackAt 0 = .ok (.iconst 0, 1) := by decide +kernel
theorem dX0_lackAt_1 : decode cX0_lackAt 1 = .ok (.istore_n 2, 1) := by decide +kernel
theorem dX0_lackAt_2 : decode cX0_lackAt 2 = .ok (.iconst 0, 1) := by decide +kernel
theorem dX0_lackAt_3 : decode cX0_lackAt 3 = .ok (.istore_n 3, 1) := by decide +kernel
theorem dX0_lackAt_4 : decode cX0_lackAt 4 = .ok (.iload_n 3, 1) := by decide +kernel
theorem dX0_lackAt_5 : decode cX0_lackAt 5 = .ok (.bipush 12, 2) := by decide +kernel
theorem dX0_lackAt_7 : decode cX0_lackAt 7 = .ok (.if_icmp .ge 32, 3) := by decide +kernel
theorem dX0_lackAt_10 : decode cX0_lackAt 10 = .ok (.aload_n 0, 1) := by decide +kernel
theorem dX0_lackAt_11 : decode cX0_lackAt 11 = .ok (.getfield 33, 3) := by decide +kernel
theorem dX0_lackAt_14 : decode cX0_lackAt 14 = .ok (.iload_n 3, 1) := by decide +kernel
theorem dX0_lackAt_15 : decode cX0_lackAt 15 = .ok (.invokevirtual 72, 3) := by decide +kernel
theorem dX0_lackAt_18 : decode cX0_lackAt 18 = .ok (.iload_n 1, 1) := by decide +kernel
theorem dX0_lackAt_19 : decode cX0_lackAt 19 = .ok (.if_icmp .ne 14, 3) := by decide +kernel
theorem dX0_lackAt_22 : decode cX0_lackAt 22 = .ok (.aload_n 0, 1) := by decide +kernel
theorem dX0_lackAt_23 : decode cX0_lackAt 23 = .ok (.iload_n 3, 1) := by decide +kernel
theorem dX0_lackAt_24 : decode cX0_lackAt 24 = .ok (.invokevirtual 103, 3) := by decide +kernel
theorem dX0_lackAt_27 : decode cX0_lackAt 27 = .ok (.ifCond .eq 6, 3) := by decide +kernel
theorem dX0_lackAt_30 : decode cX0_lackAt 30 = .ok (.iinc 2 1, 3) := by decide +kernel
theorem dX0_lackAt_33 : decode cX0_lackAt 33 = .ok (.iinc 3 1, 3) := by decide +kernel
theorem dX0_lackAt_36 : decode cX0_lackAt 36 = .ok (.goto (-32), 3) := by decide +kernel
theorem dX0_lackAt_39 : decode cX0_lackAt 39 = .ok (.iload_n 2, 1) := by decide +kernel
theorem dX0_lackAt_40 : decode cX0_lackAt 40 = .ok (.aload_n 0, 1) := by decide +kernel
theorem dX0_lackAt_41 : decode cX0_lackAt 41 = .ok (.getfield 12, 3) := by decide +kernel
theorem dX0_lackAt_44 : decode cX0_lackAt 44 = .ok (.iload_n 1, 1) := by decide +kernel
theorem dX0_lackAt_45 : decode cX0_lackAt 45 = .ok (.invokevirtual 158, 3) := by decide +kernel
theorem dX0_lackAt_48 : decode cX0_lackAt 48 = .ok (.isub, 1) := by decide +kernel
theorem dX0_lackAt_49 : decode cX0_lackAt 49 = .ok (.ireturn, 1) := by decide +kernel
theorem dX0_loadingError_0 : decode cX0_loadingError 0 = .ok (.iload_n 1, 1) := by decide +kernel
theorem dX0_loadingError_1 : decode cX0_loadingError 1 = .ok (.iconst 0, 1) := by decide +kernel
theorem dX0_loadingError_2 : decode cX0_loadingError 2 = .ok (.iconst 1, 1) := by decide +kernel
theorem dX0_loadingError_3 : decode cX0_loadingError 3 = .ok (.invokestatic 82, 3) := by decide +kernel
theorem dX0_loadingError_6 : decode cX0_loadingError 6 = .ok (.ifCond .ne 23, 3) := by decide +kernel
theorem dX0_loadingError_9 : decode cX0_loadingError 9 = .ok (.iload_n 2, 1) := by decide +kernel
theorem dX0_loadingError_10 : decode cX0_loadingError 10 = .ok (.iconst 0, 1) := by decide +kernel
theorem dX0_loadingError_11 : decode cX0_loadingError 11 = .ok (.bipush 7, 2) := by decide +kernel
theorem dX0_loadingError_13 : decode cX0_loadingError 13 = .ok (.invokestatic 82, 3) := by decide +kernel
theorem dX0_loadingError_16 : decode cX0_loadingError 16 = .ok (.ifCond .ne 13, 3) := by decide +kernel
theorem dX0_loadingError_19 : decode cX0_loadingError 19 = .ok (.iload_n 3, 1) := by decide +kernel
theorem dX0_loadingError_20 : decode cX0_loadingError 20 = .ok (.iconst 1, 1) := by decide +kernel
theorem dX0_loadingError_21 : decode cX0_loadingError 21 = .ok (.bipush 10, 2) := by decide +kernel
theorem dX0_loadingError_23 : decode cX0_loadingError 23 = .ok (.invokestatic 82, 3) := by decide +kernel
theorem dX0_loadingError_26 : decode cX0_loadingError 26 = .ok (.ifCond .eq 5, 3) := by decide +kernel
theorem dX0_loadingError_29 : decode cX0_loadingError 29 = .ok (.iconst (-1), 1) := by decide +kernel
theorem dX0_loadingError_30 : decode cX0_loadingError 30 = .ok (.ireturn, 1) := by decide +kernel
theorem dX0_loadingError_31 : decode cX0_loadingError 31 = .ok (.aload_n 0, 1) := by decide +kernel
theorem dX0_loadingError_32 : decode cX0_loadingError 32 = .ok (.getfield 12, 3) := by decide +kernel
theorem dX0_loadingError_35 : decode cX0_loadingError 35 = .ok (.iload_n 2, 1) := by decide +kernel
theorem dX0_loadingError_36 : decode cX0_loadingError 36 = .ok (.invokevirtual 75, 3) := by decide +kernel
theorem dX0_loadingError_39 : decode cX0_loadingError 39 = .ok (.iload_n 3, 1) := by decide +kernel
theorem dX0_loadingError_40 : decode cX0_loadingError 40 = .ok (.if_icmp .ge 6, 3) := by decide +kernel
theorem dX0_loadingError_43 : decode cX0_loadingError 43 = .ok (.bipush (-2), 2) := by decide +kernel
theorem dX0_loadingError_45 : decode cX0_loadingError 45 = .ok (.ireturn, 1) := by decide +kernel
theorem dX0_loadingError_46 : decode cX0_loadingError 46 = .ok (.aload_n 0, 1) := by decide +kernel
theorem dX0_loadingError_47 : decode cX0_loadingError 47 = .ok (.getfield 12, 3) := by decide +kernel
theorem dX0_loadingError_50 : decode cX0_loadingError 50 = .ok (.bipush 20, 2) := by decide +kernel
theorem dX0_loadingError_52 : decode cX0_loadingError 52 = .ok (.iload_n 1, 1) := by decide +kernel
theorem dX0_loadingError_53 : decode cX0_loadingError 53 = .ok (.iadd, 1) := by decide +kernel
theorem dX0_loadingError_54 : decode cX0_loadingError 54 = .ok (.invokevirtual 75, 3) := by decide +kernel
theorem dX0_loadingError_57 : decode cX0_loadingError 57 = .ok (.iload_n 3, 1) := by decide +kernel
theorem dX0_loadingError_58 : decode cX0_loadingError 58 = .ok (.iadd, 1) := by decide +kernel
theorem dX0_loadingError_59 : decode cX0_loadingError 59 = .ok (.bipush 10, 2) := by decide +kernel
theorem dX0_loadingError_61 : decode cX0_loadingError 61 = .ok (.if_icmp .gt 7, 3) := by decide +kernel
theorem dX0_loadingError_64 : decode cX0_loadingError 64 = .ok (.iconst 1, 1) := by decide +kernel
theorem dX0_loadingError_65 : decode cX0_loadingError 65 = .ok (.goto 4, 3) := by decide +kernel
theorem dX0_loadingError_68 : decode cX0_loadingError 68 = .ok (.iconst 0, 1) := by decide +kernel
theorem dX0_loadingError_69 : decode cX0_loadingError 69 = .ok (.istore 4, 2) := by decide +kernel
theorem dX0_loadingError_71 : decode cX0_loadingError 71 = .ok (.iload 4, 2) := by decide +kernel
theorem dX0_loadingError_73 : decode cX0_loadingError 73 = .ok (.ifCond .eq 7, 3) := by decide +kernel
theorem dX0_loadingError_76 : decode cX0_loadingError 76 = .ok (.iconst 0, 1) := by decide +kernel
theorem dX0_loadingError_77 : decode cX0_loadingError 77 = .ok (.goto 5, 3) := by decide +kernel
theorem dX0_loadingError_80 : decode cX0_loadingError 80 = .ok (.bipush (-3), 2) := by decide +kernel
theorem dX0_loadingError_82 : decode cX0_loadingError 82 = .ok (.ireturn, 1) := by decide +kernel
theorem dX0_fillVan_0 : decode cX0_fillVan 0 = .ok (.iconst 0, 1) := by decide +kernel
theorem dX0_fillVan_1 : decode cX0_fillVan 1 = .ok (.istore 4, 2) := by decide +kernel
theorem dX0_fillVan_3 : decode cX0_fillVan 3 = .ok (.iconst 0, 1) := by decide +kernel
theorem dX0_fillVan_4 : decode cX0_fillVan 4 = .ok (.istore 5, 2) := by decide +kernel
theorem dX0_fillVan_6 : decode cX0_fillVan 6 = .ok (.iload 5, 2) := by decide +kernel
theorem dX0_fillVan_8 : decode cX0_fillVan 8 = .ok (.iload_n 3, 1) := by decide +kernel
theorem dX0_fillVan_9 : decode cX0_fillVan 9 = .ok (.if_icmp .ge 47, 3) := by decide +kernel
theorem dX0_fillVan_12 : decode cX0_fillVan 12 = .ok (.aload_n 0, 1) := by decide +kernel
theorem dX0_fillVan_13 : decode cX0_fillVan 13 = .ok (.getfield 12, 3) := by decide +kernel
theorem dX0_fillVan_16 : decode cX0_fillVan 16 = .ok (.iload_n 2, 1) := by decide +kernel
theorem dX0_fillVan_17 : decode cX0_fillVan 17 = .ok (.invokevirtual 161, 3) := by decide +kernel
theorem dX0_fillVan_20 : decode cX0_fillVan 20 = .ok (.istore 6, 2) := by decide +kernel
theorem dX0_fillVan_22 : decode cX0_fillVan 22 = .ok (.aload_n 0, 1) := by decide +kernel
theorem dX0_fillVan_23 : decode cX0_fillVan 23 = .ok (.getfield 12, 3) := by decide +kernel
theorem dX0_fillVan_26 : decode cX0_fillVan 26 = .ok (.iload 6, 2) := by decide +kernel
theorem dX0_fillVan_28 : decode cX0_fillVan 28 = .ok (.bipush 20, 2) := by decide +kernel
theorem dX0_fillVan_30 : decode cX0_fillVan 30 = .ok (.iload_n 1, 1) := by decide +kernel
theorem dX0_fillVan_31 : decode cX0_fillVan 31 = .ok (.iadd, 1) := by decide +kernel
theorem dX0_fillVan_32 : decode cX0_fillVan 32 = .ok (.invokevirtual 113, 3) := by decide +kernel
theorem dX0_fillVan_35 : decode cX0_fillVan 35 = .ok (.aload_n 0, 1) := by decide +kernel
theorem dX0_fillVan_36 : decode cX0_fillVan 36 = .ok (.getfield 12, 3) := by decide +kernel
theorem dX0_fillVan_39 : decode cX0_fillVan 39 = .ok (.iload 6, 2) := by decide +kernel
theorem dX0_fillVan_41 : decode cX0_fillVan 41 = .ok (.invokevirtual 164, 3) := by decide +kernel
theorem dX0_fillVan_44 : decode cX0_fillVan 44 = .ok (.ifCond .eq 6, 3) := by decide +kernel
theorem dX0_fillVan_47 : decode cX0_fillVan 47 = .ok (.iinc 4 1, 3) := by decide +kernel
theorem dX0_fillVan_50 : decode cX0_fillVan 50 = .ok (.iinc 5 1, 3) := by decide +kernel
theorem dX0_fillVan_53 : decode cX0_fillVan 53 = .ok (.goto (-47), 3) := by decide +kernel
theorem dX0_fillVan_56 : decode cX0_fillVan 56 = .ok (.iload 4, 2) := by decide +kernel
theorem dX0_fillVan_58 : decode cX0_fillVan 58 = .ok (.ireturn, 1) := by decide +kernel
theorem dX0_unloadingError_0 : decode cX0_unloadingError 0 = .ok (.iload_n 1, 1) := by decide +kernel
theorem dX0_unloadingError_1 : decode cX0_unloadingError 1 = .ok (.iconst 0, 1) := by decide +kernel
theorem dX0_unloadingError_2 : decode cX0_unloadingError 2 = .ok (.iconst 1, 1) := by decide +kernel
theorem dX0_unloadingError_3 : decode cX0_unloadingError 3 = .ok (.invokestatic 82, 3) := by decide +kernel
theorem dX0_unloadingError_6 : decode cX0_unloadingError 6 = .ok (.ifCond .ne 23, 3) := by decide +kernel
theorem dX0_unloadingError_9 : decode cX0_unloadingError 9 = .ok (.iload_n 2, 1) := by decide +kernel
theorem dX0_unloadingError_10 : decode cX0_unloadingError 10 = .ok (.iconst 0, 1) := by decide +kernel
theorem dX0_unloadingError_11 : decode cX0_unloadingError 11 = .ok (.bipush 7, 2) := by decide +kernel
theorem dX0_unloadingError_13 : decode cX0_unloadingError 13 = .ok (.invokestatic 82, 3) := by decide +kernel
theorem dX0_unloadingError_16 : decode cX0_unloadingError 16 = .ok (.ifCond .ne 13, 3) := by decide +kernel
theorem dX0_unloadingError_19 : decode cX0_unloadingError 19 = .ok (.iload_n 3, 1) := by decide +kernel
theorem dX0_unloadingError_20 : decode cX0_unloadingError 20 = .ok (.iconst 1, 1) := by decide +kernel
theorem dX0_unloadingError_21 : decode cX0_unloadingError 21 = .ok (.bipush 10, 2) := by decide +kernel
theorem dX0_unloadingError_23 : decode cX0_unloadingError 23 = .ok (.invokestatic 82, 3) := by decide +kernel
theorem dX0_unloadingError_26 : decode cX0_unloadingError 26 = .ok (.ifCond .eq 5, 3) := by decide +kernel
theorem dX0_unloadingError_29 : decode cX0_unloadingError 29 = .ok (.iconst (-1), 1) := by decide +kernel
theorem dX0_unloadingError_30 : decode cX0_unloadingError 30 = .ok (.ireturn, 1) := by decide +kernel
theorem dX0_unloadingError_31 : decode cX0_unloadingError 31 = .ok (.aload_n 0, 1) := by decide +kernel
theorem dX0_unloadingError_32 : decode cX0_unloadingError 32 = .ok (.getfield 12, 3) := by decide +kernel
theorem dX0_unloadingError_35 : decode cX0_unloadingError 35 = .ok (.bipush 20, 2) := by decide +kernel
theorem dX0_unloadingError_37 : decode cX0_unloadingError 37 = .ok (.iload_n 1, 1) := by decide +kernel
theorem dX0_unloadingError_38 : decode cX0_unloadingError 38 = .ok (.iadd, 1) := by decide +kernel
theorem dX0_unloadingError_39 : decode cX0_unloadingError 39 = .ok (.invokevirtual 158, 3) := by decide +kernel
theorem dX0_unloadingError_42 : decode cX0_unloadingError 42 = .ok (.iload_n 3, 1) := by decide +kernel
theorem dX0_unloadingError_43 : decode cX0_unloadingError 43 = .ok (.if_icmp .ge 6, 3) := by decide +kernel
theorem dX0_unloadingError_46 : decode cX0_unloadingError 46 = .ok (.bipush (-2), 2) := by decide +kernel
theorem dX0_unloadingError_48 : decode cX0_unloadingError 48 = .ok (.ireturn, 1) := by decide +kernel
theorem dX0_unloadingError_49 : decode cX0_unloadingError 49 = .ok (.aload_n 0, 1) := by decide +kernel
theorem dX0_unloadingError_50 : decode cX0_unloadingError 50 = .ok (.iload_n 2, 1) := by decide +kernel
theorem dX0_unloadingError_51 : decode cX0_unloadingError 51 = .ok (.invokevirtual 93, 3) := by decide +kernel
theorem dX0_unloadingError_54 : decode cX0_unloadingError 54 = .ok (.iload_n 3, 1) := by decide +kernel
theorem dX0_unloadingError_55 : decode cX0_unloadingError 55 = .ok (.if_icmp .ge 8, 3) := by decide +kernel
theorem dX0_unloadingError_58 : decode cX0_unloadingError 58 = .ok (.bipush (-3), 2) := by decide +kernel
theorem dX0_unloadingError_60 : decode cX0_unloadingError 60 = .ok (.goto 4, 3) := by decide +kernel
theorem dX0_unloadingError_63 : decode cX0_unloadingError 63 = .ok (.iconst 0, 1) := by decide +kernel
theorem dX0_unloadingError_64 : decode cX0_unloadingError 64 = .ok (.ireturn, 1) := by decide +kernel
theorem dX0_emptyVan_0 : decode cX0_emptyVan 0 = .ok (.iconst 0, 1) := by decide +kernel
theorem dX0_emptyVan_1 : decode cX0_emptyVan 1 = .ok (.istore 4, 2) := by decide +kernel
theorem dX0_emptyVan_3 : decode cX0_emptyVan 3 = .ok (.iconst 0, 1) := by decide +kernel
theorem dX0_emptyVan_4 : decode cX0_emptyVan 4 = .ok (.istore 5, 2) := by decide +kernel
theorem dX0_emptyVan_6 : decode cX0_emptyVan 6 = .ok (.iload 5, 2) := by decide +kernel
theorem dX0_emptyVan_8 : decode cX0_emptyVan 8 = .ok (.aload_n 0, 1) := by decide +kernel
theorem dX0_emptyVan_9 : decode cX0_emptyVan 9 = .ok (.getfield 12, 3) := by decide +kernel
theorem dX0_emptyVan_12 : decode cX0_emptyVan 12 = .ok (.getfield 90, 3) := by decide +kernel
theorem dX0_emptyVan_15 : decode cX0_emptyVan 15 = .ok (.if_icmp .ge 59, 3) := by decide +kernel
theorem dX0_emptyVan_18 : decode cX0_emptyVan 18 = .ok (.iload 4, 2) := by decide +kernel
theorem dX0_emptyVan_20 : decode cX0_emptyVan 20 = .ok (.iload_n 3, 1) := by decide +kernel
theorem dX0_emptyVan_21 : decode cX0_emptyVan 21 = .ok (.if_icmp .ge 53, 3) := by decide +kernel
theorem dX0_emptyVan_24 : decode cX0_emptyVan 24 = .ok (.aload_n 0, 1) := by decide +kernel
theorem dX0_emptyVan_25 : decode cX0_emptyVan 25 = .ok (.getfield 12, 3) := by decide +kernel
theorem dX0_emptyVan_28 : decode cX0_emptyVan 28 = .ok (.getfield 152, 3) := by decide +kernel
theorem dX0_emptyVan_31 : decode cX0_emptyVan 31 = .ok (.iload 5, 2) := by decide +kernel
theorem dX0_emptyVan_33 : decode cX0_emptyVan 33 = .ok (.invokevirtual 72, 3) := by decide +kernel
theorem dX0_emptyVan_36 : decode cX0_emptyVan 36 = .ok (.bipush 20, 2) := by decide +kernel
theorem dX0_emptyVan_38 : decode cX0_emptyVan 38 = .ok (.iload_n 1, 1) := by decide +kernel
theorem dX0_emptyVan_39 : decode cX0_emptyVan 39 = .ok (.iadd, 1) := by decide +kernel
theorem dX0_emptyVan_40 : decode cX0_emptyVan 40 = .ok (.if_icmp .ne 28, 3) := by decide +kernel
theorem dX0_emptyVan_43 : decode cX0_emptyVan 43 = .ok (.aload_n 0, 1) := by decide +kernel
theorem dX0_emptyVan_44 : decode cX0_emptyVan 44 = .ok (.getfield 12, 3) := by decide +kernel
theorem dX0_emptyVan_47 : decode cX0_emptyVan 47 = .ok (.iload 5, 2) := by decide +kernel
theorem dX0_emptyVan_49 : decode cX0_emptyVan 49 = .ok (.invokevirtual 164, 3) := by decide +kernel
theorem dX0_emptyVan_52 : decode cX0_emptyVan 52 = .ok (.ifCond .ne 16, 3) := by decide +kernel
theorem dX0_emptyVan_55 : decode cX0_emptyVan 55 = .ok (.aload_n 0, 1) := by decide +kernel
theorem dX0_emptyVan_56 : decode cX0_emptyVan 56 = .ok (.getfield 12, 3) := by decide +kernel
theorem dX0_emptyVan_59 : decode cX0_emptyVan 59 = .ok (.iload 5, 2) := by decide +kernel
theorem dX0_emptyVan_61 : decode cX0_emptyVan 61 = .ok (.iload_n 2, 1) := by decide +kernel
theorem dX0_emptyVan_62 : decode cX0_emptyVan 62 = .ok (.invokevirtual 113, 3) := by decide +kernel
theorem dX0_emptyVan_65 : decode cX0_emptyVan 65 = .ok (.iinc 4 1, 3) := by decide +kernel
theorem dX0_emptyVan_68 : decode cX0_emptyVan 68 = .ok (.iinc 5 1, 3) := by decide +kernel
theorem dX0_emptyVan_71 : decode cX0_emptyVan 71 = .ok (.goto (-65), 3) := by decide +kernel
theorem dX0_emptyVan_74 : decode cX0_emptyVan 74 = .ok (.aload_n 0, 1) := by decide +kernel
theorem dX0_emptyVan_75 : decode cX0_emptyVan 75 = .ok (.getfield 12, 3) := by decide +kernel
theorem dX0_emptyVan_78 : decode cX0_emptyVan 78 = .ok (.bipush 20, 2) := by decide +kernel
theorem dX0_emptyVan_80 : decode cX0_emptyVan 80 = .ok (.iload_n 1, 1) := by decide +kernel
theorem dX0_emptyVan_81 : decode cX0_emptyVan 81 = .ok (.iadd, 1) := by decide +kernel
theorem dX0_emptyVan_82 : decode cX0_emptyVan 82 = .ok (.invokevirtual 75, 3) := by decide +kernel
theorem dX0_emptyVan_85 : decode cX0_emptyVan 85 = .ok (.ireturn, 1) := by decide +kernel
theorem dX0_deliveringError_0 : decode cX0_deliveringError 0 = .ok (.iload_n 1, 1) := by decide +kernel
theorem dX0_deliveringError_1 : decode cX0_deliveringError 1 = .ok (.iconst 0, 1) := by decide +kernel
theorem dX0_deliveringError_2 : decode cX0_deliveringError 2 = .ok (.iconst 1, 1) := by decide +kernel
theorem dX0_deliveringError_3 : decode cX0_deliveringError 3 = .ok (.invokestatic 82, 3) := by decide +kernel
theorem dX0_deliveringError_6 : decode cX0_deliveringError 6 = .ok (.ifCond .eq 5, 3) := by decide +kernel
theorem dX0_deliveringError_9 : decode cX0_deliveringError 9 = .ok (.iconst (-1), 1) := by decide +kernel
theorem dX0_deliveringError_10 : decode cX0_deliveringError 10 = .ok (.ireturn, 1) := by decide +kernel
theorem dX0_deliveringError_11 : decode cX0_deliveringError 11 = .ok (.aload_n 0, 1) := by decide +kernel
theorem dX0_deliveringError_12 : decode cX0_deliveringError 12 = .ok (.getfield 12, 3) := by decide +kernel
theorem dX0_deliveringError_15 : decode cX0_deliveringError 15 = .ok (.bipush 20, 2) := by decide +kernel
theorem dX0_deliveringError_17 : decode cX0_deliveringError 17 = .ok (.iload_n 1, 1) := by decide +kernel
theorem dX0_deliveringError_18 : decode cX0_deliveringError 18 = .ok (.iadd, 1) := by decide +kernel
theorem dX0_deliveringError_19 : decode cX0_deliveringError 19 = .ok (.invokevirtual 167, 3) := by decide +kernel
theorem dX0_deliveringError_22 : decode cX0_deliveringError 22 = .ok (.ifCond .ne 8, 3) := by decide +kernel
theorem dX0_deliveringError_25 : decode cX0_deliveringError 25 = .ok (.bipush (-2), 2) := by decide +kernel
theorem dX0_deliveringError_27 : decode cX0_deliveringError 27 = .ok (.goto 4, 3) := by decide +kernel
theorem dX0_deliveringError_30 : decode cX0_deliveringError 30 = .ok (.iconst 0, 1) := by decide +kernel
theorem dX0_deliveringError_31 : decode cX0_deliveringError 31 = .ok (.ireturn, 1) := by decide +kernel
theorem dX0_deliver_0 : decode cX0_deliver 0 = .ok (.iconst 0, 1) := by decide +kernel
theorem dX0_deliver_1 : decode cX0_deliver 1 = .ok (.istore_n 2, 1) := by decide +kernel
theorem dX0_deliver_2 : decode cX0_deliver 2 = .ok (.iconst 0, 1) := by decide +kernel
theorem dX0_deliver_3 : decode cX0_deliver 3 = .ok (.istore_n 3, 1) := by decide +kernel
theorem dX0_deliver_4 : decode cX0_deliver 4 = .ok (.iload_n 3, 1) := by decide +kernel
theorem dX0_deliver_5 : decode cX0_deliver 5 = .ok (.aload_n 0, 1) := by decide +kernel
theorem dX0_deliver_6 : decode cX0_deliver 6 = .ok (.getfield 12, 3) := by decide +kernel
theorem dX0_deliver_9 : decode cX0_deliver 9 = .ok (.getfield 90, 3) := by decide +kernel
theorem dX0_deliver_12 : decode cX0_deliver 12 = .ok (.if_icmp .ge 51, 3) := by decide +kernel
theorem dX0_deliver_15 : decode cX0_deliver 15 = .ok (.aload_n 0, 1) := by decide +kernel
theorem dX0_deliver_16 : decode cX0_deliver 16 = .ok (.getfield 12, 3) := by decide +kernel
theorem dX0_deliver_19 : decode cX0_deliver 19 = .ok (.getfield 152, 3) := by decide +kernel
theorem dX0_deliver_22 : decode cX0_deliver 22 = .ok (.iload_n 3, 1) := by decide +kernel
theorem dX0_deliver_23 : decode cX0_deliver 23 = .ok (.invokevirtual 72, 3) := by decide +kernel
theorem dX0_deliver_26 : decode cX0_deliver 26 = .ok (.bipush 20, 2) := by decide +kernel
theorem dX0_deliver_28 : decode cX0_deliver 28 = .ok (.iload_n 1, 1) := by decide +kernel
theorem dX0_deliver_29 : decode cX0_deliver 29 = .ok (.iadd, 1) := by decide +kernel
theorem dX0_deliver_30 : decode cX0_deliver 30 = .ok (.if_icmp .ne 27, 3) := by decide +kernel
theorem dX0_deliver_33 : decode cX0_deliver 33 = .ok (.aload_n 0, 1) := by decide +kernel
theorem dX0_deliver_34 : decode cX0_deliver 34 = .ok (.getfield 12, 3) := by decide +kernel
theorem dX0_deliver_37 : decode cX0_deliver 37 = .ok (.iload_n 3, 1) := by decide +kernel
theorem dX0_deliver_38 : decode cX0_deliver 38 = .ok (.invokevirtual 164, 3) := by decide +kernel
theorem dX0_deliver_41 : decode cX0_deliver 41 = .ok (.ifCond .eq 16, 3) := by decide +kernel
theorem dX0_deliver_44 : decode cX0_deliver 44 = .ok (.aload_n 0, 1) := by decide +kernel
theorem dX0_deliver_45 : decode cX0_deliver 45 = .ok (.getfield 12, 3) := by decide +kernel
theorem dX0_deliver_48 : decode cX0_deliver 48 = .ok (.iload_n 3, 1) := by decide +kernel
theorem dX0_deliver_49 : decode cX0_deliver 49 = .ok (.bipush 22, 2) := by decide +kernel
theorem dX0_deliver_51 : decode cX0_deliver 51 = .ok (.invokevirtual 113, 3) := by decide +kernel
theorem dX0_deliver_54 : decode cX0_deliver 54 = .ok (.iinc 2 1, 3) := by decide +kernel
theorem dX0_deliver_57 : decode cX0_deliver 57 = .ok (.iinc 3 1, 3) := by decide +kernel
theorem dX0_deliver_60 : decode cX0_deliver 60 = .ok (.goto (-56), 3) := by decide +kernel
theorem dX0_deliver_63 : decode cX0_deliver 63 = .ok (.iload_n 2, 1) := by decide +kernel
theorem dX0_deliver_64 : decode cX0_deliver 64 = .ok (.ireturn, 1) := by decide +kernel
theorem dX0_mendingError_0 : decode cX0_mendingError 0 = .ok (.iload_n 1, 1) := by decide +kernel
theorem dX0_mendingError_1 : decode cX0_mendingError 1 = .ok (.iconst 0, 1) := by decide +kernel
theorem dX0_mendingError_2 : decode cX0_mendingError 2 = .ok (.bipush 7, 2) := by decide +kernel
theorem dX0_mendingError_4 : decode cX0_mendingError 4 = .ok (.invokestatic 82, 3) := by decide +kernel
theorem dX0_mendingError_7 : decode cX0_mendingError 7 = .ok (.ifCond .eq 5, 3) := by decide +kernel
theorem dX0_mendingError_10 : decode cX0_mendingError 10 = .ok (.iconst (-1), 1) := by decide +kernel
theorem dX0_mendingError_11 : decode cX0_mendingError 11 = .ok (.ireturn, 1) := by decide +kernel
theorem dX0_mendingError_12 : decode cX0_mendingError 12 = .ok (.aload_n 0, 1) := by decide +kernel
theorem dX0_mendingError_13 : decode cX0_mendingError 13 = .ok (.getfield 12, 3) := by decide +kernel
theorem dX0_mendingError_16 : decode cX0_mendingError 16 = .ok (.bipush 22, 2) := by decide +kernel
theorem dX0_mendingError_18 : decode cX0_mendingError 18 = .ok (.invokevirtual 75, 3) := by decide +kernel
theorem dX0_mendingError_21 : decode cX0_mendingError 21 = .ok (.iconst 2, 1) := by decide +kernel
theorem dX0_mendingError_22 : decode cX0_mendingError 22 = .ok (.if_icmp .lt 11, 3) := by decide +kernel
theorem dX0_mendingError_25 : decode cX0_mendingError 25 = .ok (.aload_n 0, 1) := by decide +kernel
theorem dX0_mendingError_26 : decode cX0_mendingError 26 = .ok (.invokevirtual 86, 3) := by decide +kernel
theorem dX0_mendingError_29 : decode cX0_mendingError 29 = .ok (.iconst 3, 1) := by decide +kernel
theorem dX0_mendingError_30 : decode cX0_mendingError 30 = .ok (.if_icmp .ge 6, 3) := by decide +kernel
theorem dX0_mendingError_33 : decode cX0_mendingError 33 = .ok (.bipush (-2), 2) := by decide +kernel
theorem dX0_mendingError_35 : decode cX0_mendingError 35 = .ok (.ireturn, 1) := by decide +kernel
theorem dX0_mendingError_36 : decode cX0_mendingError 36 = .ok (.aload_n 0, 1) := by decide +kernel
theorem dX0_mendingError_37 : decode cX0_mendingError 37 = .ok (.iload_n 1, 1) := by decide +kernel
theorem dX0_mendingError_38 : decode cX0_mendingError 38 = .ok (.invokevirtual 93, 3) := by decide +kernel
theorem dX0_mendingError_41 : decode cX0_mendingError 41 = .ok (.ifCond .gt 8, 3) := by decide +kernel
theorem dX0_mendingError_44 : decode cX0_mendingError 44 = .ok (.bipush (-3), 2) := by decide +kernel
theorem dX0_mendingError_46 : decode cX0_mendingError 46 = .ok (.goto 4, 3) := by decide +kernel
theorem dX0_mendingError_49 : decode cX0_mendingError 49 = .ok (.iconst 0, 1) := by decide +kernel
theorem dX0_mendingError_50 : decode cX0_mendingError 50 = .ok (.ireturn, 1) := by decide +kernel
theorem dX0_mendOne_0 : decode cX0_mendOne 0 = .ok (.aload_n 0, 1) := by decide +kernel
theorem dX0_mendOne_1 : decode cX0_mendOne 1 = .ok (.getfield 12, 3) := by decide +kernel
theorem dX0_mendOne_4 : decode cX0_mendOne 4 = .ok (.bipush 22, 2) := by decide +kernel
theorem dX0_mendOne_6 : decode cX0_mendOne 6 = .ok (.bipush 64, 2) := by decide +kernel
theorem dX0_mendOne_8 : decode cX0_mendOne 8 = .ok (.bipush (-9), 2) := by decide +kernel
theorem dX0_mendOne_10 : decode cX0_mendOne 10 = .ok (.invokevirtual 170, 3) := by decide +kernel
theorem dX0_mendOne_13 : decode cX0_mendOne 13 = .ok (.istore_n 2, 1) := by decide +kernel
theorem dX0_mendOne_14 : decode cX0_mendOne 14 = .ok (.aload_n 0, 1) := by decide +kernel
theorem dX0_mendOne_15 : decode cX0_mendOne 15 = .ok (.getfield 12, 3) := by decide +kernel
theorem dX0_mendOne_18 : decode cX0_mendOne 18 = .ok (.bipush 22, 2) := by decide +kernel
theorem dX0_mendOne_20 : decode cX0_mendOne 20 = .ok (.bipush 64, 2) := by decide +kernel
theorem dX0_mendOne_22 : decode cX0_mendOne 22 = .ok (.iload_n 2, 1) := by decide +kernel
theorem dX0_mendOne_23 : decode cX0_mendOne 23 = .ok (.invokevirtual 170, 3) := by decide +kernel
theorem dX0_mendOne_26 : decode cX0_mendOne 26 = .ok (.istore_n 3, 1) := by decide +kernel
theorem dX0_mendOne_27 : decode cX0_mendOne 27 = .ok (.iload_n 2, 1) := by decide +kernel
theorem dX0_mendOne_28 : decode cX0_mendOne 28 = .ok (.iload_n 3, 1) := by decide +kernel
theorem dX0_mendOne_29 : decode cX0_mendOne 29 = .ok (.invokestatic 138, 3) := by decide +kernel
theorem dX0_mendOne_32 : decode cX0_mendOne 32 = .ok (.istore 4, 2) := by decide +kernel
theorem dX0_mendOne_34 : decode cX0_mendOne 34 = .ok (.aload_n 0, 1) := by decide +kernel
theorem dX0_mendOne_35 : decode cX0_mendOne 35 = .ok (.getfield 12, 3) := by decide +kernel
theorem dX0_mendOne_38 : decode cX0_mendOne 38 = .ok (.getfield 132, 3) := by decide +kernel
theorem dX0_mendOne_41 : decode cX0_mendOne 41 = .ok (.iload 4, 2) := by decide +kernel
theorem dX0_mendOne_43 : decode cX0_mendOne 43 = .ok (.aload_n 0, 1) := by decide +kernel
theorem dX0_mendOne_44 : decode cX0_mendOne 44 = .ok (.getfield 12, 3) := by decide +kernel
theorem dX0_mendOne_47 : decode cX0_mendOne 47 = .ok (.getfield 132, 3) := by decide +kernel
theorem dX0_mendOne_50 : decode cX0_mendOne 50 = .ok (.iload_n 2, 1) := by decide +kernel
theorem dX0_mendOne_51 : decode cX0_mendOne 51 = .ok (.invokevirtual 72, 3) := by decide +kernel
theorem dX0_mendOne_54 : decode cX0_mendOne 54 = .ok (.iconst 4, 1) := by decide +kernel
theorem dX0_mendOne_55 : decode cX0_mendOne 55 = .ok (.idiv, 1) := by decide +kernel
theorem dX0_mendOne_56 : decode cX0_mendOne 56 = .ok (.invokevirtual 46, 3) := by decide +kernel
theorem dX0_mendOne_59 : decode cX0_mendOne 59 = .ok (.aload_n 0, 1) := by decide +kernel
theorem dX0_mendOne_60 : decode cX0_mendOne 60 = .ok (.getfield 12, 3) := by decide +kernel
theorem dX0_mendOne_63 : decode cX0_mendOne 63 = .ok (.iload 4, 2) := by decide +kernel
theorem dX0_mendOne_65 : decode cX0_mendOne 65 = .ok (.iload_n 1, 1) := by decide +kernel
theorem dX0_mendOne_66 : decode cX0_mendOne 66 = .ok (.invokevirtual 113, 3) := by decide +kernel
theorem dX0_mendOne_69 : decode cX0_mendOne 69 = .ok (.aload_n 0, 1) := by decide +kernel
theorem dX0_mendOne_70 : decode cX0_mendOne 70 = .ok (.getfield 12, 3) := by decide +kernel
theorem dX0_mendOne_73 : decode cX0_mendOne 73 = .ok (.iload_n 2, 1) := by decide +kernel
theorem dX0_mendOne_74 : decode cX0_mendOne 74 = .ok (.iload_n 3, 1) := by decide +kernel
theorem dX0_mendOne_75 : decode cX0_mendOne 75 = .ok (.invokestatic 173, 3) := by decide +kernel
theorem dX0_mendOne_78 : decode cX0_mendOne 78 = .ok (.bipush 23, 2) := by decide +kernel
theorem dX0_mendOne_80 : decode cX0_mendOne 80 = .ok (.invokevirtual 113, 3) := by decide +kernel
theorem dX0_mendOne_83 : decode cX0_mendOne 83 = .ok (.aload_n 0, 1) := by decide +kernel
theorem dX0_mendOne_84 : decode cX0_mendOne 84 = .ok (.iconst 3, 1) := by decide +kernel
theorem dX0_mendOne_85 : decode cX0_mendOne 85 = .ok (.invokevirtual 100, 3) := by decide +kernel
theorem dX0_mendOne_88 : decode cX0_mendOne 88 = .ok (.iload 4, 2) := by decide +kernel
theorem dX0_mendOne_90 : decode cX0_mendOne 90 = .ok (.ireturn, 1) := by decide +kernel
theorem dX0_evenOut_0 : decode cX0_evenOut 0 = .ok (.iconst 0, 1) := by decide +kernel
theorem dX0_evenOut_1 : decode cX0_evenOut 1 = .ok (.istore_n 1, 1) := by decide +kernel
theorem dX0_evenOut_2 : decode cX0_evenOut 2 = .ok (.iload_n 1, 1) := by decide +kernel
theorem dX0_evenOut_3 : decode cX0_evenOut 3 = .ok (.ldc 176, 2) := by decide +kernel
theorem dX0_evenOut_5 : decode cX0_evenOut 5 = .ok (.if_icmp .ge 88, 3) := by decide +kernel
theorem dX0_evenOut_8 : decode cX0_evenOut 8 = .ok (.aload_n 0, 1) := by decide +kernel
theorem dX0_evenOut_9 : decode cX0_evenOut 9 = .ok (.invokevirtual 177, 3) := by decide +kernel
theorem dX0_evenOut_12 : decode cX0_evenOut 12 = .ok (.istore_n 2, 1) := by decide +kernel
theorem dX0_evenOut_13 : decode cX0_evenOut 13 = .ok (.aload_n 0, 1) := by decide +kernel
theorem dX0_evenOut_14 : decode cX0_evenOut 14 = .ok (.invokevirtual 180, 3) := by decide +kernel
theorem dX0_evenOut_17 : decode cX0_evenOut 17 = .ok (.istore_n 3, 1) := by decide +kernel
theorem dX0_evenOut_18 : decode cX0_evenOut 18 = .ok (.aload_n 0, 1) := by decide +kernel
theorem dX0_evenOut_19 : decode cX0_evenOut 19 = .ok (.getfield 12, 3) := by decide +kernel
theorem dX0_evenOut_22 : decode cX0_evenOut 22 = .ok (.iload_n 2, 1) := by decide +kernel
theorem dX0_evenOut_23 : decode cX0_evenOut 23 = .ok (.invokevirtual 107, 3) := by decide +kernel
theorem dX0_evenOut_26 : decode cX0_evenOut 26 = .ok (.istore 4, 2) := by decide +kernel
theorem dX0_evenOut_28 : decode cX0_evenOut 28 = .ok (.iload_n 3, 1) := by decide +kernel
theorem dX0_evenOut_29 : decode cX0_evenOut 29 = .ok (.bipush (-9), 2) := by decide +kernel
theorem dX0_evenOut_31 : decode cX0_evenOut 31 = .ok (.if_icmp .eq 28, 3) := by decide +kernel
theorem dX0_evenOut_34 : decode cX0_evenOut 34 = .ok (.aload_n 0, 1) := by decide +kernel
theorem dX0_evenOut_35 : decode cX0_evenOut 35 = .ok (.getfield 12, 3) := by decide +kernel
theorem dX0_evenOut_38 : decode cX0_evenOut 38 = .ok (.iload_n 2, 1) := by decide +kernel
theorem dX0_evenOut_39 : decode cX0_evenOut 39 = .ok (.invokevirtual 75, 3) := by decide +kernel
theorem dX0_evenOut_42 : decode cX0_evenOut 42 = .ok (.aload_n 0, 1) := by decide +kernel
theorem dX0_evenOut_43 : decode cX0_evenOut 43 = .ok (.getfield 12, 3) := by decide +kernel
theorem dX0_evenOut_46 : decode cX0_evenOut 46 = .ok (.iload_n 3, 1) := by decide +kernel
theorem dX0_evenOut_47 : decode cX0_evenOut 47 = .ok (.invokevirtual 75, 3) := by decide +kernel
theorem dX0_evenOut_50 : decode cX0_evenOut 50 = .ok (.isub, 1) := by decide +kernel
theorem dX0_evenOut_51 : decode cX0_evenOut 51 = .ok (.iconst 2, 1) := by decide +kernel
theorem dX0_evenOut_52 : decode cX0_evenOut 52 = .ok (.if_icmp .lt 7, 3) := by decide +kernel
theorem dX0_evenOut_55 : decode cX0_evenOut 55 = .ok (.iconst 1, 1) := by decide +kernel
theorem dX0_evenOut_56 : decode cX0_evenOut 56 = .ok (.goto 4, 3) := by decide +kernel
theorem dX0_evenOut_59 : decode cX0_evenOut 59 = .ok (.iconst 0, 1) := by decide +kernel
theorem dX0_evenOut_60 : decode cX0_evenOut 60 = .ok (.istore 5, 2) := by decide +kernel
theorem dX0_evenOut_62 : decode cX0_evenOut 62 = .ok (.iload 5, 2) := by decide +kernel
theorem dX0_evenOut_64 : decode cX0_evenOut 64 = .ok (.ifCond .eq 29, 3) := by decide +kernel
theorem dX0_evenOut_67 : decode cX0_evenOut 67 = .ok (.iload 4, 2) := by decide +kernel
theorem dX0_evenOut_69 : decode cX0_evenOut 69 = .ok (.bipush (-9), 2) := by decide +kernel
theorem dX0_evenOut_71 : decode cX0_evenOut 71 = .ok (.if_icmp .ne 6, 3) := by decide +kernel
theorem dX0_evenOut_74 : decode cX0_evenOut 74 = .ok (.goto 19, 3) := by decide +kernel
theorem dX0_evenOut_77 : decode cX0_evenOut 77 = .ok (.aload_n 0, 1) := by decide +kernel
theorem dX0_evenOut_78 : decode cX0_evenOut 78 = .ok (.getfield 12, 3) := by decide +kernel
theorem dX0_evenOut_81 : decode cX0_evenOut 81 = .ok (.iload 4, 2) := by decide +kernel
theorem dX0_evenOut_83 : decode cX0_evenOut 83 = .ok (.iload_n 3, 1) := by decide +kernel
theorem dX0_evenOut_84 : decode cX0_evenOut 84 = .ok (.invokevirtual 113, 3) := by decide +kernel
theorem dX0_evenOut_87 : decode cX0_evenOut 87 = .ok (.iinc 1 1, 3) := by decide +kernel
theorem dX0_evenOut_90 : decode cX0_evenOut 90 = .ok (.goto (-88), 3) := by decide +kernel
theorem dX0_evenOut_93 : decode cX0_evenOut 93 = .ok (.iload_n 1, 1) := by decide +kernel
theorem dX0_evenOut_94 : decode cX0_evenOut 94 = .ok (.ireturn, 1) := by decide +kernel
theorem dX0_fullest_0 : decode cX0_fullest 0 = .ok (.iconst 0, 1) := by decide +kernel
theorem dX0_fullest_1 : decode cX0_fullest 1 = .ok (.istore_n 1, 1) := by decide +kernel
theorem dX0_fullest_2 : decode cX0_fullest 2 = .ok (.iconst 1, 1) := by decide +kernel
theorem dX0_fullest_3 : decode cX0_fullest 3 = .ok (.istore_n 2, 1) := by decide +kernel
theorem dX0_fullest_4 : decode cX0_fullest 4 = .ok (.iload_n 2, 1) := by decide +kernel
theorem dX0_fullest_5 : decode cX0_fullest 5 = .ok (.bipush 8, 2) := by decide +kernel
theorem dX0_fullest_7 : decode cX0_fullest 7 = .ok (.if_icmp .ge 30, 3) := by decide +kernel
theorem dX0_fullest_10 : decode cX0_fullest 10 = .ok (.aload_n 0, 1) := by decide +kernel
theorem dX0_fullest_11 : decode cX0_fullest 11 = .ok (.getfield 12, 3) := by decide +kernel
theorem dX0_fullest_14 : decode cX0_fullest 14 = .ok (.iload_n 2, 1) := by decide +kernel
theorem dX0_fullest_15 : decode cX0_fullest 15 = .ok (.invokevirtual 75, 3) := by decide +kernel
theorem dX0_fullest_18 : decode cX0_fullest 18 = .ok (.aload_n 0, 1) := by decide +kernel
theorem dX0_fullest_19 : decode cX0_fullest 19 = .ok (.getfield 12, 3) := by decide +kernel
theorem dX0_fullest_22 : decode cX0_fullest 22 = .ok (.iload_n 1, 1) := by decide +kernel
theorem dX0_fullest_23 : decode cX0_fullest 23 = .ok (.invokevirtual 75, 3) := by decide +kernel
theorem dX0_fullest_26 : decode cX0_fullest 26 = .ok (.if_icmp .le 5, 3) := by decide +kernel
theorem dX0_fullest_29 : decode cX0_fullest 29 = .ok (.iload_n 2, 1) := by decide +kernel
theorem dX0_fullest_30 : decode cX0_fullest 30 = .ok (.istore_n 1, 1) := by decide +kernel
theorem dX0_fullest_31 : decode cX0_fullest 31 = .ok (.iinc 2 1, 3) := by decide +kernel
theorem dX0_fullest_34 : decode cX0_fullest 34 = .ok (.goto (-30), 3) := by decide +kernel
theorem dX0_fullest_37 : decode cX0_fullest 37 = .ok (.iload_n 1, 1) := by decide +kernel
theorem dX0_fullest_38 : decode cX0_fullest 38 = .ok (.ireturn, 1) := by decide +kernel
theorem dX0_emptiestWithRoom_0 : decode cX0_emptiestWithRoom 0 = .ok (.bipush (-9), 2) := by decide +kernel
theorem dX0_emptiestWithRoom_2 : decode cX0_emptiestWithRoom 2 = .ok (.istore_n 1, 1) := by decide +kernel
theorem dX0_emptiestWithRoom_3 : decode cX0_emptiestWithRoom 3 = .ok (.iconst 0, 1) := by decide +kernel
theorem dX0_emptiestWithRoom_4 : decode cX0_emptiestWithRoom 4 = .ok (.istore_n 2, 1) := by decide +kernel
theorem dX0_emptiestWithRoom_5 : decode cX0_emptiestWithRoom 5 = .ok (.iload_n 2, 1) := by decide +kernel
theorem dX0_emptiestWithRoom_6 : decode cX0_emptiestWithRoom 6 = .ok (.bipush 8, 2) := by decide +kernel
theorem dX0_emptiestWithRoom_8 : decode cX0_emptiestWithRoom 8 = .ok (.if_icmp .ge 54, 3) := by decide +kernel
theorem dX0_emptiestWithRoom_11 : decode cX0_emptiestWithRoom 11 = .ok (.iload_n 1, 1) := by decide +kernel
theorem dX0_emptiestWithRoom_12 : decode cX0_emptiestWithRoom 12 = .ok (.bipush (-9), 2) := by decide +kernel
theorem dX0_emptiestWithRoom_14 : decode cX0_emptiestWithRoom 14 = .ok (.if_icmp .eq 22, 3) := by decide +kernel
theorem dX0_emptiestWithRoom_17 : decode cX0_emptiestWithRoom 17 = .ok (.aload_n 0, 1) := by decide +kernel
theorem dX0_emptiestWithRoom_18 : decode cX0_emptiestWithRoom 18 = .ok (.getfield 12, 3) := by decide +kernel
theorem dX0_emptiestWithRoom_21 : decode cX0_emptiestWithRoom 21 = .ok (.iload_n 2, 1) := by decide +kernel
theorem dX0_emptiestWithRoom_22 : decode cX0_emptiestWithRoom 22 = .ok (.invokevirtual 75, 3) := by decide +kernel
theorem dX0_emptiestWithRoom_25 : decode cX0_emptiestWithRoom 25 = .ok (.aload_n 0, 1) := by decide +kernel
theorem dX0_emptiestWithRoom_26 : decode cX0_emptiestWithRoom 26 = .ok (.getfield 12, 3) := by decide +kernel
theorem dX0_emptiestWithRoom_29 : decode cX0_emptiestWithRoom 29 = .ok (.iload_n 1, 1) := by decide +kernel
theorem dX0_emptiestWithRoom_30 : decode cX0_emptiestWithRoom 30 = .ok (.invokevirtual 75, 3) := by decide +kernel
theorem dX0_emptiestWithRoom_33 : decode cX0_emptiestWithRoom 33 = .ok (.if_icmp .ge 7, 3) := by decide +kernel
theorem dX0_emptiestWithRoom_36 : decode cX0_emptiestWithRoom 36 = .ok (.iconst 1, 1) := by decide +kernel
theorem dX0_emptiestWithRoom_37 : decode cX0_emptiestWithRoom 37 = .ok (.goto 4, 3) := by decide +kernel
theorem dX0_emptiestWithRoom_40 : decode cX0_emptiestWithRoom 40 = .ok (.iconst 0, 1) := by decide +kernel
theorem dX0_emptiestWithRoom_41 : decode cX0_emptiestWithRoom 41 = .ok (.istore_n 3, 1) := by decide +kernel
theorem dX0_emptiestWithRoom_42 : decode cX0_emptiestWithRoom 42 = .ok (.aload_n 0, 1) := by decide +kernel
theorem dX0_emptiestWithRoom_43 : decode cX0_emptiestWithRoom 43 = .ok (.iload_n 2, 1) := by decide +kernel
theorem dX0_emptiestWithRoom_44 : decode cX0_emptiestWithRoom 44 = .ok (.invokevirtual 93, 3) := by decide +kernel
theorem dX0_emptiestWithRoom_47 : decode cX0_emptiestWithRoom 47 = .ok (.ifCond .le 9, 3) := by decide +kernel
theorem dX0_emptiestWithRoom_50 : decode cX0_emptiestWithRoom 50 = .ok (.iload_n 3, 1) := by decide +kernel
theorem dX0_emptiestWithRoom_51 : decode cX0_emptiestWithRoom 51 = .ok (.ifCond .eq 5, 3) := by decide +kernel
theorem dX0_emptiestWithRoom_54 : decode cX0_emptiestWithRoom 54 = .ok (.iload_n 2, 1) := by decide +kernel
theorem dX0_emptiestWithRoom_55 : decode cX0_emptiestWithRoom 55 = .ok (.istore_n 1, 1) := by decide +kernel
theorem dX0_emptiestWithRoom_56 : decode cX0_emptiestWithRoom 56 = .ok (.iinc 2 1, 3) := by decide +kernel
theorem dX0_emptiestWithRoom_59 : decode cX0_emptiestWithRoom 59 = .ok (.goto (-54), 3) := by decide +kernel
theorem dX0_emptiestWithRoom_62 : decode cX0_emptiestWithRoom 62 = .ok (.iload_n 1, 1) := by decide +kernel
theorem dX0_emptiestWithRoom_63 : decode cX0_emptiestWithRoom 63 = .ok (.ireturn, 1) := by decide +kernel
end
section
theorem dX1_init_0 : decode cX1_init 0 = .ok (.aload_n 0, 1) := by decide +kernel
theorem dX1_init_1 : decode cX1_init 1 = .ok (.invokespecial 3, 3) := by decide +kernel
theorem dX1_init_4 : decode cX1_init 4 = .ok (.aload_n 0, 1) := by decide +kernel
theorem dX1_init_5 : decode cX1_init 5 = .ok (.iconst 5, 1) := by decide +kernel
theorem dX1_init_6 : decode cX1_init 6 = .ok (.anewarray 9, 3) := by decide +kernel
theorem dX1_init_9 : decode cX1_init 9 = .ok (.putfield 11, 3) := by decide +kernel
theorem dX1_init_12 : decode cX1_init 12 = .ok (.iconst 0, 1) := by decide +kernel
theorem dX1_init_13 : decode cX1_init 13 = .ok (.istore_n 1, 1) := by decide +kernel
theorem dX1_init_14 : decode cX1_init 14 = .ok (.iload_n 1, 1) := by decide +kernel
theorem dX1_init_15 : decode cX1_init 15 = .ok (.aload_n 0, 1) := by decide +kernel
theorem dX1_init_16 : decode cX1_init 16 = .ok (.getfield 11, 3) := by decide +kernel
theorem dX1_init_19 : decode cX1_init 19 = .ok (.arraylength, 1) := by decide +kernel
theorem dX1_init_20 : decode cX1_init 20 = .ok (.if_icmp .ge 22, 3) := by decide +kernel
theorem dX1_init_23 : decode cX1_init 23 = .ok (.aload_n 0, 1) := by decide +kernel
theorem dX1_init_24 : decode cX1_init 24 = .ok (.getfield 11, 3) := by decide +kernel
theorem dX1_init_27 : decode cX1_init 27 = .ok (.iload_n 1, 1) := by decide +kernel
theorem dX1_init_28 : decode cX1_init 28 = .ok (.new 9, 3) := by decide +kernel
theorem dX1_init_31 : decode cX1_init 31 = .ok (.dup, 1) := by decide +kernel
theorem dX1_init_32 : decode cX1_init 32 = .ok (.invokespecial 17, 3) := by decide +kernel
theorem dX1_init_35 : decode cX1_init 35 = .ok (.aastore, 1) := by decide +kernel
theorem dX1_init_36 : decode cX1_init 36 = .ok (.iinc 1 1, 3) := by decide +kernel
theorem dX1_init_39 : decode cX1_init 39 = .ok (.goto (-25), 3) := by decide +kernel
theorem dX1_init_42 : decode cX1_init 42 = .ok (.return_, 1) := by decide +kernel
theorem dX1_record_0 : decode cX1_record 0 = .ok (.aload_n 0, 1) := by decide +kernel
theorem dX1_record_1 : decode cX1_record 1 = .ok (.getfield 18, 3) := by decide +kernel
theorem dX1_record_4 : decode cX1_record 4 = .ok (.ifCond .lt 27, 3) := by decide +kernel
theorem dX1_record_7 : decode cX1_record 7 = .ok (.aload_n 0, 1) := by decide +kernel
theorem dX1_record_8 : decode cX1_record 8 = .ok (.getfield 18, 3) := by decide +kernel
theorem dX1_record_11 : decode cX1_record 11 = .ok (.aload_n 0, 1) := by decide +kernel
theorem dX1_record_12 : decode cX1_record 12 = .ok (.getfield 11, 3) := by decide +kernel
theorem dX1_record_15 : decode cX1_record 15 = .ok (.arraylength, 1) := by decide +kernel
theorem dX1_record_16 : decode cX1_record 16 = .ok (.if_icmp .ge 15, 3) := by decide +kernel
theorem dX1_record_19 : decode cX1_record 19 = .ok (.aload_n 0, 1) := by decide +kernel
theorem dX1_record_20 : decode cX1_record 20 = .ok (.getfield 11, 3) := by decide +kernel
theorem dX1_record_23 : decode cX1_record 23 = .ok (.aload_n 0, 1) := by decide +kernel
theorem dX1_record_24 : decode cX1_record 24 = .ok (.getfield 18, 3) := by decide +kernel
theorem dX1_record_27 : decode cX1_record 27 = .ok (.aaload, 1) := by decide +kernel
theorem dX1_record_28 : decode cX1_record 28 = .ok (.goto 4, 3) := by decide +kernel
theorem dX1_record_31 : decode cX1_record 31 = .ok (.aconst_null, 1) := by decide +kernel
theorem dX1_record_32 : decode cX1_record 32 = .ok (.astore_n 2, 1) := by decide +kernel
theorem dX1_record_33 : decode cX1_record 33 = .ok (.aload_n 2, 1) := by decide +kernel
theorem dX1_record_34 : decode cX1_record 34 = .ok (.ifnull 8, 3) := by decide +kernel
theorem dX1_record_37 : decode cX1_record 37 = .ok (.aload_n 2, 1) := by decide +kernel
theorem dX1_record_38 : decode cX1_record 38 = .ok (.aload_n 1, 1) := by decide +kernel
theorem dX1_record_39 : decode cX1_record 39 = .ok (.invokevirtual 22, 3) := by decide +kernel
theorem dX1_record_42 : decode cX1_record 42 = .ok (.aload_n 0, 1) := by decide +kernel
theorem dX1_record_43 : decode cX1_record 43 = .ok (.aload_n 0, 1) := by decide +kernel
theorem dX1_record_44 : decode cX1_record 44 = .ok (.getfield 18, 3) := by decide +kernel
theorem dX1_record_47 : decode cX1_record 47 = .ok (.iconst 1, 1) := by decide +kernel
theorem dX1_record_48 : decode cX1_record 48 = .ok (.iadd, 1) := by decide +kernel
theorem dX1_record_49 : decode cX1_record 49 = .ok (.iconst 5, 1) := by decide +kernel
theorem dX1_record_50 : decode cX1_record 50 = .ok (.irem, 1) := by decide +kernel
theorem dX1_record_51 : decode cX1_record 51 = .ok (.putfield 18, 3) := by decide +kernel
theorem dX1_record_54 : decode cX1_record 54 = .ok (.aload_n 0, 1) := by decide +kernel
theorem dX1_record_55 : decode cX1_record 55 = .ok (.iconst 5, 1) := by decide +kernel
theorem dX1_record_56 : decode cX1_record 56 = .ok (.aload_n 0, 1) := by decide +kernel
theorem dX1_record_57 : decode cX1_record 57 = .ok (.getfield 26, 3) := by decide +kernel
theorem dX1_record_60 : decode cX1_record 60 = .ok (.iconst 1, 1) := by decide +kernel
theorem dX1_record_61 : decode cX1_record 61 = .ok (.iadd, 1) := by decide +kernel
theorem dX1_record_62 : decode cX1_record 62 = .ok (.invokestatic 29, 3) := by decide +kernel
theorem dX1_record_65 : decode cX1_record 65 = .ok (.putfield 26, 3) := by decide +kernel
theorem dX1_record_68 : decode cX1_record 68 = .ok (.return_, 1) := by decide +kernel
theorem dX1_moveLatestTo_0 : decode cX1_moveLatestTo 0 = .ok (.aload_n 0, 1) := by decide +kernel
theorem dX1_moveLatestTo_1 : decode cX1_moveLatestTo 1 = .ok (.aload_n 0, 1) := by decide +kernel
theorem dX1_moveLatestTo_2 : decode cX1_moveLatestTo 2 = .ok (.getfield 18, 3) := by decide +kernel
theorem dX1_moveLatestTo_5 : decode cX1_moveLatestTo 5 = .ok (.iconst 5, 1) := by decide +kernel
theorem dX1_moveLatestTo_6 : decode cX1_moveLatestTo 6 = .ok (.iadd, 1) := by decide +kernel
theorem dX1_moveLatestTo_7 : decode cX1_moveLatestTo 7 = .ok (.iconst 1, 1) := by decide +kernel
theorem dX1_moveLatestTo_8 : decode cX1_moveLatestTo 8 = .ok (.isub, 1) := by decide +kernel
theorem dX1_moveLatestTo_9 : decode cX1_moveLatestTo 9 = .ok (.iconst 5, 1) := by decide +kernel
theorem dX1_moveLatestTo_10 : decode cX1_moveLatestTo 10 = .ok (.irem, 1) := by decide +kernel
theorem dX1_moveLatestTo_11 : decode cX1_moveLatestTo 11 = .ok (.putfield 18, 3) := by decide +kernel
theorem dX1_moveLatestTo_14 : decode cX1_moveLatestTo 14 = .ok (.aload_n 0, 1) := by decide +kernel
theorem dX1_moveLatestTo_15 : decode cX1_moveLatestTo 15 = .ok (.dup, 1) := by decide +kernel
theorem dX1_moveLatestTo_16 : decode cX1_moveLatestTo 16 = .ok (.getfield 26, 3) := by decide +kernel
theorem dX1_moveLatestTo_19 : decode cX1_moveLatestTo 19 = .ok (.iconst 1, 1) := by decide +kernel
theorem dX1_moveLatestTo_20 : decode cX1_moveLatestTo 20 = .ok (.isub, 1) := by decide +kernel
theorem dX1_moveLatestTo_21 : decode cX1_moveLatestTo 21 = .ok (.putfield 26, 3) := by decide +kernel
theorem dX1_moveLatestTo_24 : decode cX1_moveLatestTo 24 = .ok (.aload_n 0, 1) := by decide +kernel
theorem dX1_moveLatestTo_25 : decode cX1_moveLatestTo 25 = .ok (.getfield 18, 3) := by decide +kernel
theorem dX1_moveLatestTo_28 : decode cX1_moveLatestTo 28 = .ok (.ifCond .lt 27, 3) := by decide +kernel
theorem dX1_moveLatestTo_31 : decode cX1_moveLatestTo 31 = .ok (.aload_n 0, 1) := by decide +kernel
theorem dX1_moveLatestTo_32 : decode cX1_moveLatestTo 32 = .ok (.getfield 18, 3) := by decide +kernel
theorem dX1_moveLatestTo_35 : decode cX1_moveLatestTo 35 = .ok (.aload_n 0, 1) := by decide +kernel
theorem dX1_moveLatestTo_36 : decode cX1_moveLatestTo 36 = .ok (.getfield 11, 3) := by decide +kernel
theorem dX1_moveLatestTo_39 : decode cX1_moveLatestTo 39 = .ok (.arraylength, 1) := by decide +kernel
theorem dX1_moveLatestTo_40 : decode cX1_moveLatestTo 40 = .ok (.if_icmp .ge 15, 3) := by decide +kernel
theorem dX1_moveLatestTo_43 : decode cX1_moveLatestTo 43 = .ok (.aload_n 0, 1) := by decide +kernel
theorem dX1_moveLatestTo_44 : decode cX1_moveLatestTo 44 = .ok (.getfield 11, 3) := by decide +kernel
theorem dX1_moveLatestTo_47 : decode cX1_moveLatestTo 47 = .ok (.aload_n 0, 1) := by decide +kernel
theorem dX1_moveLatestTo_48 : decode cX1_moveLatestTo 48 = .ok (.getfield 18, 3) := by decide +kernel
theorem dX1_moveLatestTo_51 : decode cX1_moveLatestTo 51 = .ok (.aaload, 1) := by decide +kernel
theorem dX1_moveLatestTo_52 : decode cX1_moveLatestTo 52 = .ok (.goto 4, 3) := by decide +kernel
theorem dX1_moveLatestTo_55 : decode cX1_moveLatestTo 55 = .ok (.aconst_null, 1) := by decide +kernel
theorem dX1_moveLatestTo_56 : decode cX1_moveLatestTo 56 = .ok (.astore_n 2, 1) := by decide +kernel
theorem dX1_moveLatestTo_57 : decode cX1_moveLatestTo 57 = .ok (.aload_n 2, 1) := by decide +kernel
theorem dX1_moveLatestTo_58 : decode cX1_moveLatestTo 58 = .ok (.ifnull 8, 3) := by decide +kernel
theorem dX1_moveLatestTo_61 : decode cX1_moveLatestTo 61 = .ok (.aload_n 1, 1) := by decide +kernel
theorem dX1_moveLatestTo_62 : decode cX1_moveLatestTo 62 = .ok (.aload_n 2, 1) := by decide +kernel
theorem dX1_moveLatestTo_63 : decode cX1_moveLatestTo 63 = .ok (.invokevirtual 22, 3) := by decide +kernel
theorem dX1_moveLatestTo_66 : decode cX1_moveLatestTo 66 = .ok (.return_, 1) := by decide +kernel
theorem dX2_init_0 : decode cX2_init 0 = .ok (.aload_n 0, 1) := by decide +kernel
theorem dX2_init_1 : decode cX2_init 1 = .ok (.invokespecial 1, 3) := by decide +kernel
theorem dX2_init_4 : decode cX2_init 4 = .ok (.aload_n 0, 1) := by decide +kernel
theorem dX2_init_5 : decode cX2_init 5 = .ok (.iconst 0, 1) := by decide +kernel
theorem dX2_init_6 : decode cX2_init 6 = .ok (.iload_n 1, 1) := by decide +kernel
theorem dX2_init_7 : decode cX2_init 7 = .ok (.invokestatic 7, 3) := by decide +kernel
theorem dX2_init_10 : decode cX2_init 10 = .ok (.newarray .int, 2) := by decide +kernel
theorem dX2_init_12 : decode cX2_init 12 = .ok (.putfield 13, 3) := by decide +kernel
theorem dX2_init_15 : decode cX2_init 15 = .ok (.aload_n 0, 1) := by decide +kernel
theorem dX2_init_16 : decode cX2_init 16 = .ok (.getfield 13, 3) := by decide +kernel
theorem dX2_init_19 : decode cX2_init 19 = .ok (.iload_n 2, 1) := by decide +kernel
theorem dX2_init_20 : decode cX2_init 20 = .ok (.invokestatic 19, 3) := by decide +kernel
theorem dX2_init_23 : decode cX2_init 23 = .ok (.return_, 1) := by decide +kernel
theorem dX2_at_0 : decode cX2_at 0 = .ok (.iload_n 1, 1) := by decide +kernel
theorem dX2_at_1 : decode cX2_at 1 = .ok (.ifCond .lt 21, 3) := by decide +kernel
theorem dX2_at_4 : decode cX2_at 4 = .ok (.iload_n 1, 1) := by decide +kernel
theorem dX2_at_5 : decode cX2_at 5 = .ok (.aload_n 0, 1) := by decide +kernel
theorem dX2_at_6 : decode cX2_at 6 = .ok (.getfield 13, 3) := by decide +kernel
theorem dX2_at_9 : decode cX2_at 9 = .ok (.arraylength, 1) := by decide +kernel
theorem dX2_at_10 : decode cX2_at 10 = .ok (.if_icmp .ge 12, 3) := by decide +kernel
theorem dX2_at_13 : decode cX2_at 13 = .ok (.aload_n 0, 1) := by decide +kernel
theorem dX2_at_14 : decode cX2_at 14 = .ok (.getfield 13, 3) := by decide +kernel
theorem dX2_at_17 : decode cX2_at 17 = .ok (.iload_n 1, 1) := by decide +kernel
theorem dX2_at_18 : decode cX2_at 18 = .ok (.iaload, 1) := by decide +kernel
theorem dX2_at_19 : decode cX2_at 19 = .ok (.goto 4, 3) := by decide +kernel
theorem dX2_at_22 : decode cX2_at 22 = .ok (.iconst 0, 1) := by decide +kernel
theorem dX2_at_23 : decode cX2_at 23 = .ok (.ireturn, 1) := by decide +kernel
theorem dX2_put_0 : decode cX2_put 0 = .ok (.iload_n 1, 1) := by decide +kernel
theorem dX2_put_1 : decode cX2_put 1 = .ok (.ifCond .lt 19, 3) := by decide +kernel
theorem dX2_put_4 : decode cX2_put 4 = .ok (.iload_n 1, 1) := by decide +kernel
theorem dX2_put_5 : decode cX2_put 5 = .ok (.aload_n 0, 1) := by decide +kernel
theorem dX2_put_6 : decode cX2_put 6 = .ok (.getfield 13, 3) := by decide +kernel
theorem dX2_put_9 : decode cX2_put 9 = .ok (.arraylength, 1) := by decide +kernel
theorem dX2_put_10 : decode cX2_put 10 = .ok (.if_icmp .ge 10, 3) := by decide +kernel
theorem dX2_put_13 : decode cX2_put 13 = .ok (.aload_n 0, 1) := by decide +kernel
theorem dX2_put_14 : decode cX2_put 14 = .ok (.getfield 13, 3) := by decide +kernel
theorem dX2_put_17 : decode cX2_put 17 = .ok (.iload_n 1, 1) := by decide +kernel
theorem dX2_put_18 : decode cX2_put 18 = .ok (.iload_n 2, 1) := by decide +kernel
theorem dX2_put_19 : decode cX2_put 19 = .ok (.iastore, 1) := by decide +kernel
theorem dX2_put_20 : decode cX2_put 20 = .ok (.return_, 1) := by decide +kernel
theorem dX2_add_0 : decode cX2_add 0 = .ok (.iload_n 1, 1) := by decide +kernel
theorem dX2_add_1 : decode cX2_add 1 = .ok (.ifCond .lt 22, 3) := by decide +kernel
theorem dX2_add_4 : decode cX2_add 4 = .ok (.iload_n 1, 1) := by decide +kernel
theorem dX2_add_5 : decode cX2_add 5 = .ok (.aload_n 0, 1) := by decide +kernel
theorem dX2_add_6 : decode cX2_add 6 = .ok (.getfield 13, 3) := by decide +kernel
theorem dX2_add_9 : decode cX2_add 9 = .ok (.arraylength, 1) := by decide +kernel
theorem dX2_add_10 : decode cX2_add 10 = .ok (.if_icmp .ge 13, 3) := by decide +kernel
theorem dX2_add_13 : decode cX2_add 13 = .ok (.aload_n 0, 1) := by decide +kernel
theorem dX2_add_14 : decode cX2_add 14 = .ok (.getfield 13, 3) := by decide +kernel
theorem dX2_add_17 : decode cX2_add 17 = .ok (.iload_n 1, 1) := by decide +kernel
theorem dX2_add_18 : decode cX2_add 18 = .ok (.dup2, 1) := by decide +kernel
theorem dX2_add_19 : decode cX2_add 19 = .ok (.iaload, 1) := by decide +kernel
theorem dX2_add_20 : decode cX2_add 20 = .ok (.iload_n 2, 1) := by decide +kernel
theorem dX2_add_21 : decode cX2_add 21 = .ok (.iadd, 1) := by decide +kernel
theorem dX2_add_22 : decode cX2_add 22 = .ok (.iastore, 1) := by decide +kernel
theorem dX2_add_23 : decode cX2_add 23 = .ok (.return_, 1) := by decide +kernel
theorem dX2_sum_0 : decode cX2_sum 0 = .ok (.iconst 0, 1) := by decide +kernel
theorem dX2_sum_1 : decode cX2_sum 1 = .ok (.istore_n 1, 1) := by decide +kernel
theorem dX2_sum_2 : decode cX2_sum 2 = .ok (.aload_n 0, 1) := by decide +kernel
theorem dX2_sum_3 : decode cX2_sum 3 = .ok (.getfield 13, 3) := by decide +kernel
theorem dX2_sum_6 : decode cX2_sum 6 = .ok (.astore_n 2, 1) := by decide +kernel
theorem dX2_sum_7 : decode cX2_sum 7 = .ok (.aload_n 2, 1) := by decide +kernel
theorem dX2_sum_8 : decode cX2_sum 8 = .ok (.arraylength, 1) := by decide +kernel
theorem dX2_sum_9 : decode cX2_sum 9 = .ok (.istore_n 3, 1) := by decide +kernel
theorem dX2_sum_10 : decode cX2_sum 10 = .ok (.iconst 0, 1) := by decide +kernel
theorem dX2_sum_11 : decode cX2_sum 11 = .ok (.istore 4, 2) := by decide +kernel
theorem dX2_sum_13 : decode cX2_sum 13 = .ok (.iload 4, 2) := by decide +kernel
theorem dX2_sum_15 : decode cX2_sum 15 = .ok (.iload_n 3, 1) := by decide +kernel
theorem dX2_sum_16 : decode cX2_sum 16 = .ok (.if_icmp .ge 20, 3) := by decide +kernel
theorem dX2_sum_19 : decode cX2_sum 19 = .ok (.aload_n 2, 1) := by decide +kernel
theorem dX2_sum_20 : decode cX2_sum 20 = .ok (.iload 4, 2) := by decide +kernel
theorem dX2_sum_22 : decode cX2_sum 22 = .ok (.iaload, 1) := by decide +kernel
theorem dX2_sum_23 : decode cX2_sum 23 = .ok (.istore 5, 2) := by decide +kernel
theorem dX2_sum_25 : decode cX2_sum 25 = .ok (.iload_n 1, 1) := by decide +kernel
theorem dX2_sum_26 : decode cX2_sum 26 = .ok (.iload 5, 2) := by decide +kernel
theorem dX2_sum_28 : decode cX2_sum 28 = .ok (.iadd, 1) := by decide +kernel
theorem dX2_sum_29 : decode cX2_sum 29 = .ok (.istore_n 1, 1) := by decide +kernel
theorem dX2_sum_30 : decode cX2_sum 30 = .ok (.iinc 4 1, 3) := by decide +kernel
theorem dX2_sum_33 : decode cX2_sum 33 = .ok (.goto (-20), 3) := by decide +kernel
theorem dX2_sum_36 : decode cX2_sum 36 = .ok (.iload_n 1, 1) := by decide +kernel
theorem dX2_sum_37 : decode cX2_sum 37 = .ok (.ireturn, 1) := by decide +kernel
theorem dX2_copyFrom_0 : decode cX2_copyFrom 0 = .ok (.aload_n 1, 1) := by decide +kernel
theorem dX2_copyFrom_1 : decode cX2_copyFrom 1 = .ok (.getfield 13, 3) := by decide +kernel
theorem dX2_copyFrom_4 : decode cX2_copyFrom 4 = .ok (.iconst 0, 1) := by decide +kernel
theorem dX2_copyFrom_5 : decode cX2_copyFrom 5 = .ok (.aload_n 0, 1) := by decide +kernel
theorem dX2_copyFrom_6 : decode cX2_copyFrom 6 = .ok (.getfield 13, 3) := by decide +kernel
theorem dX2_copyFrom_9 : decode cX2_copyFrom 9 = .ok (.iconst 0, 1) := by decide +kernel
theorem dX2_copyFrom_10 : decode cX2_copyFrom 10 = .ok (.aload_n 0, 1) := by decide +kernel
theorem dX2_copyFrom_11 : decode cX2_copyFrom 11 = .ok (.getfield 13, 3) := by decide +kernel
theorem dX2_copyFrom_14 : decode cX2_copyFrom 14 = .ok (.arraylength, 1) := by decide +kernel
theorem dX2_copyFrom_15 : decode cX2_copyFrom 15 = .ok (.aload_n 1, 1) := by decide +kernel
theorem dX2_copyFrom_16 : decode cX2_copyFrom 16 = .ok (.getfield 13, 3) := by decide +kernel
theorem dX2_copyFrom_19 : decode cX2_copyFrom 19 = .ok (.arraylength, 1) := by decide +kernel
theorem dX2_copyFrom_20 : decode cX2_copyFrom 20 = .ok (.invokestatic 25, 3) := by decide +kernel
theorem dX2_copyFrom_23 : decode cX2_copyFrom 23 = .ok (.invokestatic 28, 3) := by decide +kernel
theorem dX2_copyFrom_26 : decode cX2_copyFrom 26 = .ok (.return_, 1) := by decide +kernel
theorem dX3_init_0 : decode cX3_init 0 = .ok (.aload_n 0, 1) := by decide +kernel
theorem dX3_init_1 : decode cX3_init 1 = .ok (.invokespecial 1, 3) := by decide +kernel
theorem dX3_init_4 : decode cX3_init 4 = .ok (.aload_n 0, 1) := by decide +kernel
theorem dX3_init_5 : decode cX3_init 5 = .ok (.new 7, 3) := by decide +kernel
theorem dX3_init_8 : decode cX3_init 8 = .ok (.dup, 1) := by decide +kernel
theorem dX3_init_9 : decode cX3_init 9 = .ok (.invokespecial 9, 3) := by decide +kernel
theorem dX3_init_12 : decode cX3_init 12 = .ok (.putfield 10, 3) := by decide +kernel
theorem dX3_init_15 : decode cX3_init 15 = .ok (.aload_n 0, 1) := by decide +kernel
theorem dX3_init_16 : decode cX3_init 16 = .ok (.new 7, 3) := by decide +kernel
theorem dX3_init_19 : decode cX3_init 19 = .ok (.dup, 1) := by decide +kernel
theorem dX3_init_20 : decode cX3_init 20 = .ok (.invokespecial 9, 3) := by decide +kernel
theorem dX3_init_23 : decode cX3_init 23 = .ok (.putfield 16, 3) := by decide +kernel
theorem dX3_init_26 : decode cX3_init 26 = .ok (.aload_n 0, 1) := by decide +kernel
theorem dX3_init_27 : decode cX3_init 27 = .ok (.new 7, 3) := by decide +kernel
theorem dX3_init_30 : decode cX3_init 30 = .ok (.dup, 1) := by decide +kernel
theorem dX3_init_31 : decode cX3_init 31 = .ok (.invokespecial 9, 3) := by decide +kernel
theorem dX3_init_34 : decode cX3_init 34 = .ok (.putfield 19, 3) := by decide +kernel
theorem dX3_init_37 : decode cX3_init 37 = .ok (.return_, 1) := by decide +kernel
theorem dX3_copyFrom_0 : decode cX3_copyFrom 0 = .ok (.aload_n 0, 1) := by decide +kernel
theorem dX3_copyFrom_1 : decode cX3_copyFrom 1 = .ok (.getfield 10, 3) := by decide +kernel
theorem dX3_copyFrom_4 : decode cX3_copyFrom 4 = .ok (.aload_n 1, 1) := by decide +kernel
theorem dX3_copyFrom_5 : decode cX3_copyFrom 5 = .ok (.getfield 10, 3) := by decide +kernel
theorem dX3_copyFrom_8 : decode cX3_copyFrom 8 = .ok (.invokevirtual 22, 3) := by decide +kernel
theorem dX3_copyFrom_11 : decode cX3_copyFrom 11 = .ok (.aload_n 1, 1) := by decide +kernel
theorem dX3_copyFrom_12 : decode cX3_copyFrom 12 = .ok (.getfield 26, 3) := by decide +kernel
theorem dX3_copyFrom_15 : decode cX3_copyFrom 15 = .ok (.ifCond .eq 14, 3) := by decide +kernel
theorem dX3_copyFrom_18 : decode cX3_copyFrom 18 = .ok (.aload_n 0, 1) := by decide +kernel
theorem dX3_copyFrom_19 : decode cX3_copyFrom 19 = .ok (.getfield 16, 3) := by decide +kernel
theorem dX3_copyFrom_22 : decode cX3_copyFrom 22 = .ok (.aload_n 1, 1) := by decide +kernel
theorem dX3_copyFrom_23 : decode cX3_copyFrom 23 = .ok (.getfield 16, 3) := by decide +kernel
theorem dX3_copyFrom_26 : decode cX3_copyFrom 26 = .ok (.invokevirtual 22, 3) := by decide +kernel
theorem dX3_copyFrom_29 : decode cX3_copyFrom 29 = .ok (.aload_n 1, 1) := by decide +kernel
theorem dX3_copyFrom_30 : decode cX3_copyFrom 30 = .ok (.getfield 30, 3) := by decide +kernel
theorem dX3_copyFrom_33 : decode cX3_copyFrom 33 = .ok (.ifCond .eq 14, 3) := by decide +kernel
theorem dX3_copyFrom_36 : decode cX3_copyFrom 36 = .ok (.aload_n 0, 1) := by decide +kernel
theorem dX3_copyFrom_37 : decode cX3_copyFrom 37 = .ok (.getfield 19, 3) := by decide +kernel
theorem dX3_copyFrom_40 : decode cX3_copyFrom 40 = .ok (.aload_n 1, 1) := by decide +kernel
theorem dX3_copyFrom_41 : decode cX3_copyFrom 41 = .ok (.getfield 19, 3) := by decide +kernel
theorem dX3_copyFrom_44 : decode cX3_copyFrom 44 = .ok (.invokevirtual 22, 3) := by decide +kernel
theorem dX3_copyFrom_47 : decode cX3_copyFrom 47 = .ok (.aload_n 0, 1) := by decide +kernel
theorem dX3_copyFrom_48 : decode cX3_copyFrom 48 = .ok (.aload_n 1, 1) := by decide +kernel
theorem dX3_copyFrom_49 : decode cX3_copyFrom 49 = .ok (.getfield 26, 3) := by decide +kernel
theorem dX3_copyFrom_52 : decode cX3_copyFrom 52 = .ok (.putfield 26, 3) := by decide +kernel
theorem dX3_copyFrom_55 : decode cX3_copyFrom 55 = .ok (.aload_n 0, 1) := by decide +kernel
theorem dX3_copyFrom_56 : decode cX3_copyFrom 56 = .ok (.aload_n 1, 1) := by decide +kernel
theorem dX3_copyFrom_57 : decode cX3_copyFrom 57 = .ok (.getfield 30, 3) := by decide +kernel
theorem dX3_copyFrom_60 : decode cX3_copyFrom 60 = .ok (.putfield 30, 3) := by decide +kernel
theorem dX3_copyFrom_63 : decode cX3_copyFrom 63 = .ok (.return_, 1) := by decide +kernel
theorem dX3_snapshot_0 : decode cX3_snapshot 0 = .ok (.iload_n 1, 1) := by decide +kernel
theorem dX3_snapshot_1 : decode cX3_snapshot 1 = .ok (.ifCond .ne 10, 3) := by decide +kernel
theorem dX3_snapshot_4 : decode cX3_snapshot 4 = .ok (.aload_n 0, 1) := by decide +kernel
theorem dX3_snapshot_5 : decode cX3_snapshot 5 = .ok (.getfield 16, 3) := by decide +kernel
theorem dX3_snapshot_8 : decode cX3_snapshot 8 = .ok (.goto 7, 3) := by decide +kernel
theorem dX3_snapshot_11 : decode cX3_snapshot 11 = .ok (.aload_n 0, 1) := by decide +kernel
theorem dX3_snapshot_12 : decode cX3_snapshot 12 = .ok (.getfield 19, 3) := by decide +kernel
theorem dX3_snapshot_15 : decode cX3_snapshot 15 = .ok (.areturn, 1) := by decide +kernel
theorem dX3_isKept_0 : decode cX3_isKept 0 = .ok (.iload_n 1, 1) := by decide +kernel
theorem dX3_isKept_1 : decode cX3_isKept 1 = .ok (.ifCond .ne 10, 3) := by decide +kernel
theorem dX3_isKept_4 : decode cX3_isKept 4 = .ok (.aload_n 0, 1) := by decide +kernel
theorem dX3_isKept_5 : decode cX3_isKept 5 = .ok (.getfield 26, 3) := by decide +kernel
theorem dX3_isKept_8 : decode cX3_isKept 8 = .ok (.goto 7, 3) := by decide +kernel
theorem dX3_isKept_11 : decode cX3_isKept 11 = .ok (.aload_n 0, 1) := by decide +kernel
theorem dX3_isKept_12 : decode cX3_isKept 12 = .ok (.getfield 30, 3) := by decide +kernel
theorem dX3_isKept_15 : decode cX3_isKept 15 = .ok (.ireturn, 1) := by decide +kernel
theorem dX3_numberKept_0 : decode cX3_numberKept 0 = .ok (.aload_n 0, 1) := by decide +kernel
theorem dX3_numberKept_1 : decode cX3_numberKept 1 = .ok (.getfield 26, 3) := by decide +kernel
theorem dX3_numberKept_4 : decode cX3_numberKept 4 = .ok (.ifCond .eq 7, 3) := by decide +kernel
theorem dX3_numberKept_7 : decode cX3_numberKept 7 = .ok (.iconst 1, 1) := by decide +kernel
theorem dX3_numberKept_8 : decode cX3_numberKept 8 = .ok (.goto 4, 3) := by decide +kernel
theorem dX3_numberKept_11 : decode cX3_numberKept 11 = .ok (.iconst 0, 1) := by decide +kernel
theorem dX3_numberKept_12 : decode cX3_numberKept 12 = .ok (.aload_n 0, 1) := by decide +kernel
theorem dX3_numberKept_13 : decode cX3_numberKept 13 = .ok (.getfield 30, 3) := by decide +kernel
theorem dX3_numberKept_16 : decode cX3_numberKept 16 = .ok (.ifCond .eq 7, 3) := by decide +kernel
theorem dX3_numberKept_19 : decode cX3_numberKept 19 = .ok (.iconst 1, 1) := by decide +kernel
theorem dX3_numberKept_20 : decode cX3_numberKept 20 = .ok (.goto 4, 3) := by decide +kernel
theorem dX3_numberKept_23 : decode cX3_numberKept 23 = .ok (.iconst 0, 1) := by decide +kernel
theorem dX3_numberKept_24 : decode cX3_numberKept 24 = .ok (.iadd, 1) := by decide +kernel
theorem dX3_numberKept_25 : decode cX3_numberKept 25 = .ok (.ireturn, 1) := by decide +kernel
theorem dX3_keep_0 : decode cX3_keep 0 = .ok (.aload_n 0, 1) := by decide +kernel
theorem dX3_keep_1 : decode cX3_keep 1 = .ok (.iload_n 1, 1) := by decide +kernel
theorem dX3_keep_2 : decode cX3_keep 2 = .ok (.invokevirtual 33, 3) := by decide +kernel
theorem dX3_keep_5 : decode cX3_keep 5 = .ok (.aload_n 0, 1) := by decide +kernel
theorem dX3_keep_6 : decode cX3_keep 6 = .ok (.getfield 10, 3) := by decide +kernel
theorem dX3_keep_9 : decode cX3_keep 9 = .ok (.invokevirtual 22, 3) := by decide +kernel
theorem dX3_keep_12 : decode cX3_keep 12 = .ok (.iload_n 1, 1) := by decide +kernel
theorem dX3_keep_13 : decode cX3_keep 13 = .ok (.ifCond .ne 11, 3) := by decide +kernel
theorem dX3_keep_16 : decode cX3_keep 16 = .ok (.aload_n 0, 1) := by decide +kernel
theorem dX3_keep_17 : decode cX3_keep 17 = .ok (.iconst 1, 1) := by decide +kernel
theorem dX3_keep_18 : decode cX3_keep 18 = .ok (.putfield 26, 3) := by decide +kernel
theorem dX3_keep_21 : decode cX3_keep 21 = .ok (.goto 8, 3) := by decide +kernel
theorem dX3_keep_24 : decode cX3_keep 24 = .ok (.aload_n 0, 1) := by decide +kernel
theorem dX3_keep_25 : decode cX3_keep 25 = .ok (.iconst 1, 1) := by decide +kernel
theorem dX3_keep_26 : decode cX3_keep 26 = .ok (.putfield 30, 3) := by decide +kernel
theorem dX3_keep_29 : decode cX3_keep 29 = .ok (.return_, 1) := by decide +kernel
theorem dX3_bringUp_0 : decode cX3_bringUp 0 = .ok (.aload_n 0, 1) := by decide +kernel
theorem dX3_bringUp_1 : decode cX3_bringUp 1 = .ok (.getfield 10, 3) := by decide +kernel
theorem dX3_bringUp_4 : decode cX3_bringUp 4 = .ok (.aload_n 0, 1) := by decide +kernel
theorem dX3_bringUp_5 : decode cX3_bringUp 5 = .ok (.iload_n 1, 1) := by decide +kernel
theorem dX3_bringUp_6 : decode cX3_bringUp 6 = .ok (.invokevirtual 33, 3) := by decide +kernel
theorem dX3_bringUp_9 : decode cX3_bringUp 9 = .ok (.invokevirtual 22, 3) := by decide +kernel
theorem dX3_bringUp_12 : decode cX3_bringUp 12 = .ok (.return_, 1) := by decide +kernel
theorem dX4_init_0 : decode cX4_init 0 = .ok (.aload_n 0, 1) := by decide +kernel
theorem dX4_init_1 : decode cX4_init 1 = .ok (.invokespecial 3, 3) := by decide +kernel
theorem dX4_init_4 : decode cX4_init 4 = .ok (.aload_n 0, 1) := by decide +kernel
theorem dX4_init_5 : decode cX4_init 5 = .ok (.bipush 80, 2) := by decide +kernel
theorem dX4_init_7 : decode cX4_init 7 = .ok (.newarray .char, 2) := by decide +kernel
theorem dX4_init_9 : decode cX4_init 9 = .ok (.putfield 9, 3) := by decide +kernel
theorem dX4_init_12 : decode cX4_init 12 = .ok (.return_, 1) := by decide +kernel
theorem dX4_add_0 : decode cX4_add 0 = .ok (.aload_n 0, 1) := by decide +kernel
theorem dX4_add_1 : decode cX4_add 1 = .ok (.getfield 15, 3) := by decide +kernel
theorem dX4_add_4 : decode cX4_add 4 = .ok (.ifCond .lt 36, 3) := by decide +kernel
theorem dX4_add_7 : decode cX4_add 7 = .ok (.aload_n 0, 1) := by decide +kernel
theorem dX4_add_8 : decode cX4_add 8 = .ok (.getfield 15, 3) := by decide +kernel
theorem dX4_add_11 : decode cX4_add 11 = .ok (.aload_n 0, 1) := by decide +kernel
theorem dX4_add_12 : decode cX4_add 12 = .ok (.getfield 9, 3) := by decide +kernel
theorem dX4_add_15 : decode cX4_add 15 = .ok (.arraylength, 1) := by decide +kernel
theorem dX4_add_16 : decode cX4_add 16 = .ok (.if_icmp .ge 24, 3) := by decide +kernel
theorem dX4_add_19 : decode cX4_add 19 = .ok (.aload_n 0, 1) := by decide +kernel
theorem dX4_add_20 : decode cX4_add 20 = .ok (.getfield 9, 3) := by decide +kernel
theorem dX4_add_23 : decode cX4_add 23 = .ok (.aload_n 0, 1) := by decide +kernel
theorem dX4_add_24 : decode cX4_add 24 = .ok (.getfield 15, 3) := by decide +kernel
theorem dX4_add_27 : decode cX4_add 27 = .ok (.iload_n 1, 1) := by decide +kernel
theorem dX4_add_28 : decode cX4_add 28 = .ok (.i2c, 1) := by decide +kernel
theorem dX4_add_29 : decode cX4_add 29 = .ok (.castore, 1) := by decide +kernel
theorem dX4_add_30 : decode cX4_add 30 = .ok (.aload_n 0, 1) := by decide +kernel
theorem dX4_add_31 : decode cX4_add 31 = .ok (.dup, 1) := by decide +kernel
theorem dX4_add_32 : decode cX4_add 32 = .ok (.getfield 15, 3) := by decide +kernel
theorem dX4_add_35 : decode cX4_add 35 = .ok (.iconst 1, 1) := by decide +kernel
theorem dX4_add_36 : decode cX4_add 36 = .ok (.iadd, 1) := by decide +kernel
theorem dX4_add_37 : decode cX4_add 37 = .ok (.putfield 15, 3) := by decide +kernel
theorem dX4_add_40 : decode cX4_add 40 = .ok (.return_, 1) := by decide +kernel
theorem dX4_fault_0 : decode cX4_fault 0 = .ok (.aload_n 0, 1) := by decide +kernel
theorem dX4_fault_1 : decode cX4_fault 1 = .ok (.invokevirtual 19, 3) := by decide +kernel
theorem dX4_fault_4 : decode cX4_fault 4 = .ok (.iconst 0, 1) := by decide +kernel
theorem dX4_fault_5 : decode cX4_fault 5 = .ok (.istore_n 1, 1) := by decide +kernel
theorem dX4_fault_6 : decode cX4_fault 6 = .ok (.iload_n 1, 1) := by decide +kernel
theorem dX4_fault_7 : decode cX4_fault 7 = .ok (.bipush 80, 2) := by decide +kernel
theorem dX4_fault_9 : decode cX4_fault 9 = .ok (.if_icmp .gt 49, 3) := by decide +kernel
theorem dX4_fault_12 : decode cX4_fault 12 = .ok (.aload_n 0, 1) := by decide +kernel
theorem dX4_fault_13 : decode cX4_fault 13 = .ok (.invokevirtual 22, 3) := by decide +kernel
theorem dX4_fault_16 : decode cX4_fault 16 = .ok (.ifCond .ne 8, 3) := by decide +kernel
theorem dX4_fault_19 : decode cX4_fault 19 = .ok (.aload_n 0, 1) := by decide +kernel
theorem dX4_fault_20 : decode cX4_fault 20 = .ok (.getfield 26, 3) := by decide +kernel
theorem dX4_fault_23 : decode cX4_fault 23 = .ok (.ireturn, 1) := by decide +kernel
theorem dX4_fault_24 : decode cX4_fault 24 = .ok (.aload_n 0, 1) := by decide +kernel
theorem dX4_fault_25 : decode cX4_fault 25 = .ok (.getfield 26, 3) := by decide +kernel
theorem dX4_fault_28 : decode cX4_fault 28 = .ok (.aload_n 0, 1) := by decide +kernel
theorem dX4_fault_29 : decode cX4_fault 29 = .ok (.getfield 15, 3) := by decide +kernel
theorem dX4_fault_32 : decode cX4_fault 32 = .ok (.if_icmp .lt 6, 3) := by decide +kernel
theorem dX4_fault_35 : decode cX4_fault 35 = .ok (.bipush (-9), 2) := by decide +kernel
theorem dX4_fault_37 : decode cX4_fault 37 = .ok (.ireturn, 1) := by decide +kernel
theorem dX4_fault_38 : decode cX4_fault 38 = .ok (.aload_n 0, 1) := by decide +kernel
theorem dX4_fault_39 : decode cX4_fault 39 = .ok (.bipush 59, 2) := by decide +kernel
theorem dX4_fault_41 : decode cX4_fault 41 = .ok (.invokevirtual 29, 3) := by decide +kernel
theorem dX4_fault_44 : decode cX4_fault 44 = .ok (.ifCond .ne 8, 3) := by decide +kernel
theorem dX4_fault_47 : decode cX4_fault 47 = .ok (.aload_n 0, 1) := by decide +kernel
theorem dX4_fault_48 : decode cX4_fault 48 = .ok (.getfield 26, 3) := by decide +kernel
theorem dX4_fault_51 : decode cX4_fault 51 = .ok (.ireturn, 1) := by decide +kernel
theorem dX4_fault_52 : decode cX4_fault 52 = .ok (.iinc 1 1, 3) := by decide +kernel
theorem dX4_fault_55 : decode cX4_fault 55 = .ok (.goto (-49), 3) := by decide +kernel
theorem dX4_fault_58 : decode cX4_fault 58 = .ok (.aload_n 0, 1) := by decide +kernel
theorem dX4_fault_59 : decode cX4_fault 59 = .ok (.getfield 26, 3) := by decide +kernel
theorem dX4_fault_62 : decode cX4_fault 62 = .ok (.ireturn, 1) := by decide +kernel
theorem dX4_rewind_0 : decode cX4_rewind 0 = .ok (.aload_n 0, 1) := by decide +kernel
theorem dX4_rewind_1 : decode cX4_rewind 1 = .ok (.iconst 0, 1) := by decide +kernel
theorem dX4_rewind_2 : decode cX4_rewind 2 = .ok (.putfield 26, 3) := by decide +kernel
theorem dX4_rewind_5 : decode cX4_rewind 5 = .ok (.return_, 1) := by decide +kernel
theorem dX4_readOrder_0 : decode cX4_readOrder 0 = .ok (.aload_n 0, 1) := by decide +kernel
theorem dX4_readOrder_1 : decode cX4_readOrder 1 = .ok (.aload_n 0, 1) := by decide +kernel
theorem dX4_readOrder_2 : decode cX4_readOrder 2 = .ok (.invokevirtual 33, 3) := by decide +kernel
theorem dX4_readOrder_5 : decode cX4_readOrder 5 = .ok (.putfield 37, 3) := by decide +kernel
theorem dX4_readOrder_8 : decode cX4_readOrder 8 = .ok (.aload_n 0, 1) := by decide +kernel
theorem dX4_readOrder_9 : decode cX4_readOrder 9 = .ok (.getfield 37, 3) := by decide +kernel
theorem dX4_readOrder_12 : decode cX4_readOrder 12 = .ok (.lookupswitch 90 #[(98, 44), (104, 61), (108, 78), (114, 44)], 44) := by decide +kernel
theorem dX4_readOrder_56 : decode cX4_readOrder 56 = .ok (.aload_n 0, 1) := by decide +kernel
theorem dX4_readOrder_57 : decode cX4_readOrder 57 = .ok (.dup, 1) := by decide +kernel
theorem dX4_readOrder_58 : decode cX4_readOrder 58 = .ok (.getfield 26, 3) := by decide +kernel
theorem dX4_readOrder_61 : decode cX4_readOrder 61 = .ok (.iconst 1, 1) := by decide +kernel
theorem dX4_readOrder_62 : decode cX4_readOrder 62 = .ok (.iadd, 1) := by decide +kernel
theorem dX4_readOrder_63 : decode cX4_readOrder 63 = .ok (.putfield 26, 3) := by decide +kernel
theorem dX4_readOrder_66 : decode cX4_readOrder 66 = .ok (.aload_n 0, 1) := by decide +kernel
theorem dX4_readOrder_67 : decode cX4_readOrder 67 = .ok (.bipush 64, 2) := by decide +kernel
theorem dX4_readOrder_69 : decode cX4_readOrder 69 = .ok (.invokevirtual 40, 3) := by decide +kernel
theorem dX4_readOrder_72 : decode cX4_readOrder 72 = .ok (.ireturn, 1) := by decide +kernel
theorem dX4_readOrder_73 : decode cX4_readOrder 73 = .ok (.aload_n 0, 1) := by decide +kernel
theorem dX4_readOrder_74 : decode cX4_readOrder 74 = .ok (.dup, 1) := by decide +kernel
theorem dX4_readOrder_75 : decode cX4_readOrder 75 = .ok (.getfield 26, 3) := by decide +kernel
theorem dX4_readOrder_78 : decode cX4_readOrder 78 = .ok (.iconst 1, 1) := by decide +kernel
theorem dX4_readOrder_79 : decode cX4_readOrder 79 = .ok (.iadd, 1) := by decide +kernel
theorem dX4_readOrder_80 : decode cX4_readOrder 80 = .ok (.putfield 26, 3) := by decide +kernel
theorem dX4_readOrder_83 : decode cX4_readOrder 83 = .ok (.aload_n 0, 1) := by decide +kernel
theorem dX4_readOrder_84 : decode cX4_readOrder 84 = .ok (.bipush 44, 2) := by decide +kernel
theorem dX4_readOrder_86 : decode cX4_readOrder 86 = .ok (.invokevirtual 40, 3) := by decide +kernel
theorem dX4_readOrder_89 : decode cX4_readOrder 89 = .ok (.ireturn, 1) := by decide +kernel
theorem dX4_readOrder_90 : decode cX4_readOrder 90 = .ok (.aload_n 0, 1) := by decide +kernel
theorem dX4_readOrder_91 : decode cX4_readOrder 91 = .ok (.dup, 1) := by decide +kernel
theorem dX4_readOrder_92 : decode cX4_readOrder 92 = .ok (.getfield 26, 3) := by decide +kernel
theorem dX4_readOrder_95 : decode cX4_readOrder 95 = .ok (.iconst 1, 1) := by decide +kernel
theorem dX4_readOrder_96 : decode cX4_readOrder 96 = .ok (.iadd, 1) := by decide +kernel
theorem dX4_readOrder_97 : decode cX4_readOrder 97 = .ok (.putfield 26, 3) := by decide +kernel
theorem dX4_readOrder_100 : decode cX4_readOrder 100 = .ok (.iconst 1, 1) := by decide +kernel
theorem dX4_readOrder_101 : decode cX4_readOrder 101 = .ok (.ireturn, 1) := by decide +kernel
theorem dX4_readOrder_102 : decode cX4_readOrder 102 = .ok (.iconst 0, 1) := by decide +kernel
theorem dX4_readOrder_103 : decode cX4_readOrder 103 = .ok (.ireturn, 1) := by decide +kernel
theorem dX4_readNumbers_0 : decode cX4_readNumbers 0 = .ok (.aload_n 0, 1) := by decide +kernel
theorem dX4_readNumbers_1 : decode cX4_readNumbers 1 = .ok (.aload_n 0, 1) := by decide +kernel
theorem dX4_readNumbers_2 : decode cX4_readNumbers 2 = .ok (.invokevirtual 43, 3) := by decide +kernel
theorem dX4_readNumbers_5 : decode cX4_readNumbers 5 = .ok (.putfield 46, 3) := by decide +kernel
theorem dX4_readNumbers_8 : decode cX4_readNumbers 8 = .ok (.aload_n 0, 1) := by decide +kernel
theorem dX4_readNumbers_9 : decode cX4_readNumbers 9 = .ok (.getfield 46, 3) := by decide +kernel
theorem dX4_readNumbers_12 : decode cX4_readNumbers 12 = .ok (.bipush (-9), 2) := by decide +kernel
theorem dX4_readNumbers_14 : decode cX4_readNumbers 14 = .ok (.if_icmp .eq 11, 3) := by decide +kernel
theorem dX4_readNumbers_17 : decode cX4_readNumbers 17 = .ok (.aload_n 0, 1) := by decide +kernel
theorem dX4_readNumbers_18 : decode cX4_readNumbers 18 = .ok (.iload_n 1, 1) := by decide +kernel
theorem dX4_readNumbers_19 : decode cX4_readNumbers 19 = .ok (.invokevirtual 29, 3) := by decide +kernel
theorem dX4_readNumbers_22 : decode cX4_readNumbers 22 = .ok (.ifCond .ne 5, 3) := by decide +kernel
theorem dX4_readNumbers_25 : decode cX4_readNumbers 25 = .ok (.iconst 0, 1) := by decide +kernel
theorem dX4_readNumbers_26 : decode cX4_readNumbers 26 = .ok (.ireturn, 1) := by decide +kernel
theorem dX4_readNumbers_27 : decode cX4_readNumbers 27 = .ok (.aload_n 0, 1) := by decide +kernel
theorem dX4_readNumbers_28 : decode cX4_readNumbers 28 = .ok (.aload_n 0, 1) := by decide +kernel
theorem dX4_readNumbers_29 : decode cX4_readNumbers 29 = .ok (.invokevirtual 43, 3) := by decide +kernel
theorem dX4_readNumbers_32 : decode cX4_readNumbers 32 = .ok (.putfield 49, 3) := by decide +kernel
theorem dX4_readNumbers_35 : decode cX4_readNumbers 35 = .ok (.aload_n 0, 1) := by decide +kernel
theorem dX4_readNumbers_36 : decode cX4_readNumbers 36 = .ok (.getfield 49, 3) := by decide +kernel
theorem dX4_readNumbers_39 : decode cX4_readNumbers 39 = .ok (.bipush (-9), 2) := by decide +kernel
theorem dX4_readNumbers_41 : decode cX4_readNumbers 41 = .ok (.if_icmp .eq 7, 3) := by decide +kernel
theorem dX4_readNumbers_44 : decode cX4_readNumbers 44 = .ok (.iconst 1, 1) := by decide +kernel
theorem dX4_readNumbers_45 : decode cX4_readNumbers 45 = .ok (.goto 4, 3) := by decide +kernel
theorem dX4_readNumbers_48 : decode cX4_readNumbers 48 = .ok (.iconst 0, 1) := by decide +kernel
theorem dX4_readNumbers_49 : decode cX4_readNumbers 49 = .ok (.ireturn, 1) := by decide +kernel
theorem dX4_readNumber_0 : decode cX4_readNumber 0 = .ok (.aload_n 0, 1) := by decide +kernel
theorem dX4_readNumber_1 : decode cX4_readNumber 1 = .ok (.invokevirtual 52, 3) := by decide +kernel
theorem dX4_readNumber_4 : decode cX4_readNumber 4 = .ok (.istore_n 1, 1) := by decide +kernel
theorem dX4_readNumber_5 : decode cX4_readNumber 5 = .ok (.iload_n 1, 1) := by decide +kernel
theorem dX4_readNumber_6 : decode cX4_readNumber 6 = .ok (.ifCond .gt 5, 3) := by decide +kernel
theorem dX4_readNumber_9 : decode cX4_readNumber 9 = .ok (.iload_n 1, 1) := by decide +kernel
theorem dX4_readNumber_10 : decode cX4_readNumber 10 = .ok (.ireturn, 1) := by decide +kernel
theorem dX4_readNumber_11 : decode cX4_readNumber 11 = .ok (.aload_n 0, 1) := by decide +kernel
theorem dX4_readNumber_12 : decode cX4_readNumber 12 = .ok (.invokevirtual 52, 3) := by decide +kernel
theorem dX4_readNumber_15 : decode cX4_readNumber 15 = .ok (.istore_n 2, 1) := by decide +kernel
theorem dX4_readNumber_16 : decode cX4_readNumber 16 = .ok (.iload_n 2, 1) := by decide +kernel
theorem dX4_readNumber_17 : decode cX4_readNumber 17 = .ok (.bipush (-9), 2) := by decide +kernel
theorem dX4_readNumber_19 : decode cX4_readNumber 19 = .ok (.if_icmp .ne 7, 3) := by decide +kernel
theorem dX4_readNumber_22 : decode cX4_readNumber 22 = .ok (.iload_n 1, 1) := by decide +kernel
theorem dX4_readNumber_23 : decode cX4_readNumber 23 = .ok (.goto 9, 3) := by decide +kernel
theorem dX4_readNumber_26 : decode cX4_readNumber 26 = .ok (.bipush 10, 2) := by decide +kernel
theorem dX4_readNumber_28 : decode cX4_readNumber 28 = .ok (.iload_n 1, 1) := by decide +kernel
theorem dX4_readNumber_29 : decode cX4_readNumber 29 = .ok (.imul, 1) := by decide +kernel
theorem dX4_readNumber_30 : decode cX4_readNumber 30 = .ok (.iload_n 2, 1) := by decide +kernel
theorem dX4_readNumber_31 : decode cX4_readNumber 31 = .ok (.iadd, 1) := by decide +kernel
theorem dX4_readNumber_32 : decode cX4_readNumber 32 = .ok (.ireturn, 1) := by decide +kernel
theorem dX4_readDigit_0 : decode cX4_readDigit 0 = .ok (.aload_n 0, 1) := by decide +kernel
theorem dX4_readDigit_1 : decode cX4_readDigit 1 = .ok (.invokevirtual 33, 3) := by decide +kernel
theorem dX4_readDigit_4 : decode cX4_readDigit 4 = .ok (.istore_n 1, 1) := by decide +kernel
theorem dX4_readDigit_5 : decode cX4_readDigit 5 = .ok (.iload_n 1, 1) := by decide +kernel
theorem dX4_readDigit_6 : decode cX4_readDigit 6 = .ok (.bipush 48, 2) := by decide +kernel
theorem dX4_readDigit_8 : decode cX4_readDigit 8 = .ok (.bipush 57, 2) := by decide +kernel
theorem dX4_readDigit_10 : decode cX4_readDigit 10 = .ok (.invokestatic 55, 3) := by decide +kernel
theorem dX4_readDigit_13 : decode cX4_readDigit 13 = .ok (.ifCond .eq 6, 3) := by decide +kernel
theorem dX4_readDigit_16 : decode cX4_readDigit 16 = .ok (.bipush (-9), 2) := by decide +kernel
theorem dX4_readDigit_18 : decode cX4_readDigit 18 = .ok (.ireturn, 1) := by decide +kernel
theorem dX4_readDigit_19 : decode cX4_readDigit 19 = .ok (.aload_n 0, 1) := by decide +kernel
theorem dX4_readDigit_20 : decode cX4_readDigit 20 = .ok (.dup, 1) := by decide +kernel
theorem dX4_readDigit_21 : decode cX4_readDigit 21 = .ok (.getfield 26, 3) := by decide +kernel
theorem dX4_readDigit_24 : decode cX4_readDigit 24 = .ok (.iconst 1, 1) := by decide +kernel
theorem dX4_readDigit_25 : decode cX4_readDigit 25 = .ok (.iadd, 1) := by decide +kernel
theorem dX4_readDigit_26 : decode cX4_readDigit 26 = .ok (.putfield 26, 3) := by decide +kernel
theorem dX4_readDigit_29 : decode cX4_readDigit 29 = .ok (.iload_n 1, 1) := by decide +kernel
theorem dX4_readDigit_30 : decode cX4_readDigit 30 = .ok (.bipush 48, 2) := by decide +kernel
theorem dX4_readDigit_32 : decode cX4_readDigit 32 = .ok (.isub, 1) := by decide +kernel
theorem dX4_readDigit_33 : decode cX4_readDigit 33 = .ok (.ireturn, 1) := by decide +kernel
theorem dX4_accept_0 : decode cX4_accept 0 = .ok (.aload_n 0, 1) := by decide +kernel
theorem dX4_accept_1 : decode cX4_accept 1 = .ok (.invokevirtual 33, 3) := by decide +kernel
theorem dX4_accept_4 : decode cX4_accept 4 = .ok (.iload_n 1, 1) := by decide +kernel
theorem dX4_accept_5 : decode cX4_accept 5 = .ok (.if_icmp .eq 5, 3) := by decide +kernel
theorem dX4_accept_8 : decode cX4_accept 8 = .ok (.iconst 0, 1) := by decide +kernel
theorem dX4_accept_9 : decode cX4_accept 9 = .ok (.ireturn, 1) := by decide +kernel
theorem dX4_accept_10 : decode cX4_accept 10 = .ok (.aload_n 0, 1) := by decide +kernel
theorem dX4_accept_11 : decode cX4_accept 11 = .ok (.dup, 1) := by decide +kernel
theorem dX4_accept_12 : decode cX4_accept 12 = .ok (.getfield 26, 3) := by decide +kernel
theorem dX4_accept_15 : decode cX4_accept 15 = .ok (.iconst 1, 1) := by decide +kernel
theorem dX4_accept_16 : decode cX4_accept 16 = .ok (.iadd, 1) := by decide +kernel
theorem dX4_accept_17 : decode cX4_accept 17 = .ok (.putfield 26, 3) := by decide +kernel
theorem dX4_accept_20 : decode cX4_accept 20 = .ok (.iconst 1, 1) := by decide +kernel
theorem dX4_accept_21 : decode cX4_accept 21 = .ok (.ireturn, 1) := by decide +kernel
theorem dX4_peek_0 : decode cX4_peek 0 = .ok (.aload_n 0, 1) := by decide +kernel
theorem dX4_peek_1 : decode cX4_peek 1 = .ok (.getfield 26, 3) := by decide +kernel
theorem dX4_peek_4 : decode cX4_peek 4 = .ok (.ifCond .lt 30, 3) := by decide +kernel
theorem dX4_peek_7 : decode cX4_peek 7 = .ok (.aload_n 0, 1) := by decide +kernel
theorem dX4_peek_8 : decode cX4_peek 8 = .ok (.getfield 26, 3) := by decide +kernel
theorem dX4_peek_11 : decode cX4_peek 11 = .ok (.aload_n 0, 1) := by decide +kernel
theorem dX4_peek_12 : decode cX4_peek 12 = .ok (.getfield 15, 3) := by decide +kernel
theorem dX4_peek_15 : decode cX4_peek 15 = .ok (.if_icmp .ge 19, 3) := by decide +kernel
theorem dX4_peek_18 : decode cX4_peek 18 = .ok (.aload_n 0, 1) := by decide +kernel
theorem dX4_peek_19 : decode cX4_peek 19 = .ok (.getfield 26, 3) := by decide +kernel
theorem dX4_peek_22 : decode cX4_peek 22 = .ok (.aload_n 0, 1) := by decide +kernel
theorem dX4_peek_23 : decode cX4_peek 23 = .ok (.getfield 9, 3) := by decide +kernel
theorem dX4_peek_26 : decode cX4_peek 26 = .ok (.arraylength, 1) := by decide +kernel
theorem dX4_peek_27 : decode cX4_peek 27 = .ok (.if_icmp .ge 7, 3) := by decide +kernel
theorem dX4_peek_30 : decode cX4_peek 30 = .ok (.iconst 1, 1) := by decide +kernel
theorem dX4_peek_31 : decode cX4_peek 31 = .ok (.goto 4, 3) := by decide +kernel
theorem dX4_peek_34 : decode cX4_peek 34 = .ok (.iconst 0, 1) := by decide +kernel
theorem dX4_peek_35 : decode cX4_peek 35 = .ok (.istore_n 1, 1) := by decide +kernel
theorem dX4_peek_36 : decode cX4_peek 36 = .ok (.iload_n 1, 1) := by decide +kernel
theorem dX4_peek_37 : decode cX4_peek 37 = .ok (.ifCond .eq 15, 3) := by decide +kernel
theorem dX4_peek_40 : decode cX4_peek 40 = .ok (.aload_n 0, 1) := by decide +kernel
theorem dX4_peek_41 : decode cX4_peek 41 = .ok (.getfield 9, 3) := by decide +kernel
theorem dX4_peek_44 : decode cX4_peek 44 = .ok (.aload_n 0, 1) := by decide +kernel
theorem dX4_peek_45 : decode cX4_peek 45 = .ok (.getfield 26, 3) := by decide +kernel
theorem dX4_peek_48 : decode cX4_peek 48 = .ok (.caload, 1) := by decide +kernel
theorem dX4_peek_49 : decode cX4_peek 49 = .ok (.goto 4, 3) := by decide +kernel
theorem dX4_peek_52 : decode cX4_peek 52 = .ok (.iconst 0, 1) := by decide +kernel
theorem dX4_peek_53 : decode cX4_peek 53 = .ok (.ireturn, 1) := by decide +kernel
theorem dX5_init_0 : decode cX5_init 0 = .ok (.aload_n 0, 1) := by decide +kernel
theorem dX5_init_1 : decode cX5_init 1 = .ok (.invokespecial 3, 3) := by decide +kernel
theorem dX5_init_4 : decode cX5_init 4 = .ok (.aload_n 0, 1) := by decide +kernel
theorem dX5_init_5 : decode cX5_init 5 = .ok (.new 9, 3) := by decide +kernel
theorem dX5_init_8 : decode cX5_init 8 = .ok (.dup, 1) := by decide +kernel
theorem dX5_init_9 : decode cX5_init 9 = .ok (.bipush 60, 2) := by decide +kernel
theorem dX5_init_11 : decode cX5_init 11 = .ok (.iconst 0, 1) := by decide +kernel
theorem dX5_init_12 : decode cX5_init 12 = .ok (.invokespecial 11, 3) := by decide +kernel
theorem dX5_init_15 : decode cX5_init 15 = .ok (.putfield 14, 3) := by decide +kernel
theorem dX5_init_18 : decode cX5_init 18 = .ok (.aload_n 0, 1) := by decide +kernel
theorem dX5_init_19 : decode cX5_init 19 = .ok (.new 9, 3) := by decide +kernel
theorem dX5_init_22 : decode cX5_init 22 = .ok (.dup, 1) := by decide +kernel
theorem dX5_init_23 : decode cX5_init 23 = .ok (.bipush 60, 2) := by decide +kernel
theorem dX5_init_25 : decode cX5_init 25 = .ok (.iconst 0, 1) := by decide +kernel
theorem dX5_init_26 : decode cX5_init 26 = .ok (.invokespecial 11, 3) := by decide +kernel
theorem dX5_init_29 : decode cX5_init 29 = .ok (.putfield 20, 3) := by decide +kernel
theorem dX5_init_32 : decode cX5_init 32 = .ok (.aload_n 0, 1) := by decide +kernel
theorem dX5_init_33 : decode cX5_init 33 = .ok (.new 9, 3) := by decide +kernel
theorem dX5_init_36 : decode cX5_init 36 = .ok (.dup, 1) := by decide +kernel
theorem dX5_init_37 : decode cX5_init 37 = .ok (.bipush 60, 2) := by decide +kernel
theorem dX5_init_39 : decode cX5_init 39 = .ok (.iconst 0, 1) := by decide +kernel
theorem dX5_init_40 : decode cX5_init 40 = .ok (.invokespecial 11, 3) := by decide +kernel
theorem dX5_init_43 : decode cX5_init 43 = .ok (.putfield 23, 3) := by decide +kernel
theorem dX5_init_46 : decode cX5_init 46 = .ok (.aload_n 0, 1) := by decide +kernel
theorem dX5_init_47 : decode cX5_init 47 = .ok (.new 9, 3) := by decide +kernel
theorem dX5_init_50 : decode cX5_init 50 = .ok (.dup, 1) := by decide +kernel
theorem dX5_init_51 : decode cX5_init 51 = .ok (.bipush 24, 2) := by decide +kernel
theorem dX5_init_53 : decode cX5_init 53 = .ok (.iconst 0, 1) := by decide +kernel
theorem dX5_init_54 : decode cX5_init 54 = .ok (.invokespecial 11, 3) := by decide +kernel
theorem dX5_init_57 : decode cX5_init 57 = .ok (.putfield 26, 3) := by decide +kernel
theorem dX5_init_60 : decode cX5_init 60 = .ok (.return_, 1) := by decide +kernel
theorem dX5_copyFrom_0 : decode cX5_copyFrom 0 = .ok (.aload_n 0, 1) := by decide +kernel
theorem dX5_copyFrom_1 : decode cX5_copyFrom 1 = .ok (.getfield 14, 3) := by decide +kernel
theorem dX5_copyFrom_4 : decode cX5_copyFrom 4 = .ok (.aload_n 1, 1) := by decide +kernel
theorem dX5_copyFrom_5 : decode cX5_copyFrom 5 = .ok (.getfield 14, 3) := by decide +kernel
theorem dX5_copyFrom_8 : decode cX5_copyFrom 8 = .ok (.invokevirtual 29, 3) := by decide +kernel
theorem dX5_copyFrom_11 : decode cX5_copyFrom 11 = .ok (.aload_n 0, 1) := by decide +kernel
theorem dX5_copyFrom_12 : decode cX5_copyFrom 12 = .ok (.getfield 20, 3) := by decide +kernel
theorem dX5_copyFrom_15 : decode cX5_copyFrom 15 = .ok (.aload_n 1, 1) := by decide +kernel
theorem dX5_copyFrom_16 : decode cX5_copyFrom 16 = .ok (.getfield 20, 3) := by decide +kernel
theorem dX5_copyFrom_19 : decode cX5_copyFrom 19 = .ok (.invokevirtual 29, 3) := by decide +kernel
theorem dX5_copyFrom_22 : decode cX5_copyFrom 22 = .ok (.aload_n 0, 1) := by decide +kernel
theorem dX5_copyFrom_23 : decode cX5_copyFrom 23 = .ok (.getfield 23, 3) := by decide +kernel
theorem dX5_copyFrom_26 : decode cX5_copyFrom 26 = .ok (.aload_n 1, 1) := by decide +kernel
theorem dX5_copyFrom_27 : decode cX5_copyFrom 27 = .ok (.getfield 23, 3) := by decide +kernel
theorem dX5_copyFrom_30 : decode cX5_copyFrom 30 = .ok (.invokevirtual 29, 3) := by decide +kernel
theorem dX5_copyFrom_33 : decode cX5_copyFrom 33 = .ok (.aload_n 0, 1) := by decide +kernel
theorem dX5_copyFrom_34 : decode cX5_copyFrom 34 = .ok (.getfield 26, 3) := by decide +kernel
theorem dX5_copyFrom_37 : decode cX5_copyFrom 37 = .ok (.aload_n 1, 1) := by decide +kernel
theorem dX5_copyFrom_38 : decode cX5_copyFrom 38 = .ok (.getfield 26, 3) := by decide +kernel
theorem dX5_copyFrom_41 : decode cX5_copyFrom 41 = .ok (.invokevirtual 29, 3) := by decide +kernel
theorem dX5_copyFrom_44 : decode cX5_copyFrom 44 = .ok (.aload_n 0, 1) := by decide +kernel
theorem dX5_copyFrom_45 : decode cX5_copyFrom 45 = .ok (.aload_n 1, 1) := by decide +kernel
theorem dX5_copyFrom_46 : decode cX5_copyFrom 46 = .ok (.getfield 33, 3) := by decide +kernel
theorem dX5_copyFrom_49 : decode cX5_copyFrom 49 = .ok (.putfield 33, 3) := by decide +kernel
theorem dX5_copyFrom_52 : decode cX5_copyFrom 52 = .ok (.return_, 1) := by decide +kernel
theorem dX5_addNew_0 : decode cX5_addNew 0 = .ok (.aload_n 0, 1) := by decide +kernel
theorem dX5_addNew_1 : decode cX5_addNew 1 = .ok (.getfield 14, 3) := by decide +kernel
theorem dX5_addNew_4 : decode cX5_addNew 4 = .ok (.aload_n 0, 1) := by decide +kernel
theorem dX5_addNew_5 : decode cX5_addNew 5 = .ok (.getfield 33, 3) := by decide +kernel
theorem dX5_addNew_8 : decode cX5_addNew 8 = .ok (.iload_n 1, 1) := by decide +kernel
theorem dX5_addNew_9 : decode cX5_addNew 9 = .ok (.invokevirtual 37, 3) := by decide +kernel
theorem dX5_addNew_12 : decode cX5_addNew 12 = .ok (.aload_n 0, 1) := by decide +kernel
theorem dX5_addNew_13 : decode cX5_addNew 13 = .ok (.getfield 26, 3) := by decide +kernel
theorem dX5_addNew_16 : decode cX5_addNew 16 = .ok (.iload_n 1, 1) := by decide +kernel
theorem dX5_addNew_17 : decode cX5_addNew 17 = .ok (.iconst 1, 1) := by decide +kernel
theorem dX5_addNew_18 : decode cX5_addNew 18 = .ok (.invokevirtual 40, 3) := by decide +kernel
theorem dX5_addNew_21 : decode cX5_addNew 21 = .ok (.aload_n 0, 1) := by decide +kernel
theorem dX5_addNew_22 : decode cX5_addNew 22 = .ok (.dup, 1) := by decide +kernel
theorem dX5_addNew_23 : decode cX5_addNew 23 = .ok (.getfield 33, 3) := by decide +kernel
theorem dX5_addNew_26 : decode cX5_addNew 26 = .ok (.iconst 1, 1) := by decide +kernel
theorem dX5_addNew_27 : decode cX5_addNew 27 = .ok (.iadd, 1) := by decide +kernel
theorem dX5_addNew_28 : decode cX5_addNew 28 = .ok (.putfield 33, 3) := by decide +kernel
theorem dX5_addNew_31 : decode cX5_addNew 31 = .ok (.return_, 1) := by decide +kernel
theorem dX5_move_0 : decode cX5_move 0 = .ok (.aload_n 0, 1) := by decide +kernel
theorem dX5_move_1 : decode cX5_move 1 = .ok (.getfield 26, 3) := by decide +kernel
theorem dX5_move_4 : decode cX5_move 4 = .ok (.aload_n 0, 1) := by decide +kernel
theorem dX5_move_5 : decode cX5_move 5 = .ok (.getfield 14, 3) := by decide +kernel
theorem dX5_move_8 : decode cX5_move 8 = .ok (.iload_n 1, 1) := by decide +kernel
theorem dX5_move_9 : decode cX5_move 9 = .ok (.invokevirtual 43, 3) := by decide +kernel
theorem dX5_move_12 : decode cX5_move 12 = .ok (.iconst (-1), 1) := by decide +kernel
theorem dX5_move_13 : decode cX5_move 13 = .ok (.invokevirtual 40, 3) := by decide +kernel
theorem dX5_move_16 : decode cX5_move 16 = .ok (.aload_n 0, 1) := by decide +kernel
theorem dX5_move_17 : decode cX5_move 17 = .ok (.getfield 14, 3) := by decide +kernel
theorem dX5_move_20 : decode cX5_move 20 = .ok (.iload_n 1, 1) := by decide +kernel
theorem dX5_move_21 : decode cX5_move 21 = .ok (.iload_n 2, 1) := by decide +kernel
theorem dX5_move_22 : decode cX5_move 22 = .ok (.invokevirtual 37, 3) := by decide +kernel
theorem dX5_move_25 : decode cX5_move 25 = .ok (.aload_n 0, 1) := by decide +kernel
theorem dX5_move_26 : decode cX5_move 26 = .ok (.getfield 26, 3) := by decide +kernel
theorem dX5_move_29 : decode cX5_move 29 = .ok (.iload_n 2, 1) := by decide +kernel
theorem dX5_move_30 : decode cX5_move 30 = .ok (.iconst 1, 1) := by decide +kernel
theorem dX5_move_31 : decode cX5_move 31 = .ok (.invokevirtual 40, 3) := by decide +kernel
theorem dX5_move_34 : decode cX5_move 34 = .ok (.return_, 1) := by decide +kernel
theorem dX5_isBroken_0 : decode cX5_isBroken 0 = .ok (.aload_n 0, 1) := by decide +kernel
theorem dX5_isBroken_1 : decode cX5_isBroken 1 = .ok (.getfield 20, 3) := by decide +kernel
theorem dX5_isBroken_4 : decode cX5_isBroken 4 = .ok (.iload_n 1, 1) := by decide +kernel
theorem dX5_isBroken_5 : decode cX5_isBroken 5 = .ok (.invokevirtual 43, 3) := by decide +kernel
theorem dX5_isBroken_8 : decode cX5_isBroken 8 = .ok (.bipush 32, 2) := by decide +kernel
theorem dX5_isBroken_10 : decode cX5_isBroken 10 = .ok (.if_icmp .lt 7, 3) := by decide +kernel
theorem dX5_isBroken_13 : decode cX5_isBroken 13 = .ok (.iconst 1, 1) := by decide +kernel
theorem dX5_isBroken_14 : decode cX5_isBroken 14 = .ok (.goto 4, 3) := by decide +kernel
theorem dX5_isBroken_17 : decode cX5_isBroken 17 = .ok (.iconst 0, 1) := by decide +kernel
theorem dX5_isBroken_18 : decode cX5_isBroken 18 = .ok (.ireturn, 1) := by decide +kernel
theorem dX5_numberAt_0 : decode cX5_numberAt 0 = .ok (.aload_n 0, 1) := by decide +kernel
theorem dX5_numberAt_1 : decode cX5_numberAt 1 = .ok (.getfield 26, 3) := by decide +kernel
theorem dX5_numberAt_4 : decode cX5_numberAt 4 = .ok (.iload_n 1, 1) := by decide +kernel
theorem dX5_numberAt_5 : decode cX5_numberAt 5 = .ok (.invokevirtual 43, 3) := by decide +kernel
theorem dX5_numberAt_8 : decode cX5_numberAt 8 = .ok (.ireturn, 1) := by decide +kernel
theorem dX5_numberOfKind_0 : decode cX5_numberOfKind 0 = .ok (.iconst 0, 1) := by decide +kernel
theorem dX5_numberOfKind_1 : decode cX5_numberOfKind 1 = .ok (.istore_n 2, 1) := by decide +kernel
theorem dX5_numberOfKind_2 : decode cX5_numberOfKind 2 = .ok (.iconst 0, 1) := by decide +kernel
theorem dX5_numberOfKind_3 : decode cX5_numberOfKind 3 = .ok (.istore_n 3, 1) := by decide +kernel
theorem dX5_numberOfKind_4 : decode cX5_numberOfKind 4 = .ok (.iload_n 3, 1) := by decide +kernel
theorem dX5_numberOfKind_5 : decode cX5_numberOfKind 5 = .ok (.bipush 23, 2) := by decide +kernel
theorem dX5_numberOfKind_7 : decode cX5_numberOfKind 7 = .ok (.if_icmp .gt 25, 3) := by decide +kernel
theorem dX5_numberOfKind_10 : decode cX5_numberOfKind 10 = .ok (.iload_n 3, 1) := by decide +kernel
theorem dX5_numberOfKind_11 : decode cX5_numberOfKind 11 = .ok (.invokestatic 47, 3) := by decide +kernel
theorem dX5_numberOfKind_14 : decode cX5_numberOfKind 14 = .ok (.iload_n 1, 1) := by decide +kernel
theorem dX5_numberOfKind_15 : decode cX5_numberOfKind 15 = .ok (.if_icmp .ne 11, 3) := by decide +kernel
theorem dX5_numberOfKind_18 : decode cX5_numberOfKind 18 = .ok (.iload_n 2, 1) := by decide +kernel
theorem dX5_numberOfKind_19 : decode cX5_numberOfKind 19 = .ok (.aload_n 0, 1) := by decide +kernel
theorem dX5_numberOfKind_20 : decode cX5_numberOfKind 20 = .ok (.iload_n 3, 1) := by decide +kernel
theorem dX5_numberOfKind_21 : decode cX5_numberOfKind 21 = .ok (.invokevirtual 50, 3) := by decide +kernel
theorem dX5_numberOfKind_24 : decode cX5_numberOfKind 24 = .ok (.iadd, 1) := by decide +kernel
theorem dX5_numberOfKind_25 : decode cX5_numberOfKind 25 = .ok (.istore_n 2, 1) := by decide +kernel
theorem dX5_numberOfKind_26 : decode cX5_numberOfKind 26 = .ok (.iinc 3 1, 3) := by decide +kernel
theorem dX5_numberOfKind_29 : decode cX5_numberOfKind 29 = .ok (.goto (-25), 3) := by decide +kernel
theorem dX5_numberOfKind_32 : decode cX5_numberOfKind 32 = .ok (.iload_n 2, 1) := by decide +kernel
theorem dX5_numberOfKind_33 : decode cX5_numberOfKind 33 = .ok (.ireturn, 1) := by decide +kernel
theorem dX5_numberBroken_0 : decode cX5_numberBroken 0 = .ok (.iconst 0, 1) := by decide +kernel
theorem dX5_numberBroken_1 : decode cX5_numberBroken 1 = .ok (.istore_n 1, 1) := by decide +kernel
theorem dX5_numberBroken_2 : decode cX5_numberBroken 2 = .ok (.iconst 0, 1) := by decide +kernel
theorem dX5_numberBroken_3 : decode cX5_numberBroken 3 = .ok (.istore_n 2, 1) := by decide +kernel
theorem dX5_numberBroken_4 : decode cX5_numberBroken 4 = .ok (.iload_n 2, 1) := by decide +kernel
theorem dX5_numberBroken_5 : decode cX5_numberBroken 5 = .ok (.aload_n 0, 1) := by decide +kernel
theorem dX5_numberBroken_6 : decode cX5_numberBroken 6 = .ok (.getfield 33, 3) := by decide +kernel
theorem dX5_numberBroken_9 : decode cX5_numberBroken 9 = .ok (.if_icmp .ge 33, 3) := by decide +kernel
theorem dX5_numberBroken_12 : decode cX5_numberBroken 12 = .ok (.aload_n 0, 1) := by decide +kernel
theorem dX5_numberBroken_13 : decode cX5_numberBroken 13 = .ok (.iload_n 2, 1) := by decide +kernel
theorem dX5_numberBroken_14 : decode cX5_numberBroken 14 = .ok (.invokevirtual 53, 3) := by decide +kernel
theorem dX5_numberBroken_17 : decode cX5_numberBroken 17 = .ok (.ifCond .eq 19, 3) := by decide +kernel
theorem dX5_numberBroken_20 : decode cX5_numberBroken 20 = .ok (.aload_n 0, 1) := by decide +kernel
theorem dX5_numberBroken_21 : decode cX5_numberBroken 21 = .ok (.getfield 14, 3) := by decide +kernel
theorem dX5_numberBroken_24 : decode cX5_numberBroken 24 = .ok (.iload_n 2, 1) := by decide +kernel
theorem dX5_numberBroken_25 : decode cX5_numberBroken 25 = .ok (.invokevirtual 43, 3) := by decide +kernel
theorem dX5_numberBroken_28 : decode cX5_numberBroken 28 = .ok (.bipush 23, 2) := by decide +kernel
theorem dX5_numberBroken_30 : decode cX5_numberBroken 30 = .ok (.if_icmp .eq 6, 3) := by decide +kernel
theorem dX5_numberBroken_33 : decode cX5_numberBroken 33 = .ok (.iinc 1 1, 3) := by decide +kernel
theorem dX5_numberBroken_36 : decode cX5_numberBroken 36 = .ok (.iinc 2 1, 3) := by decide +kernel
theorem dX5_numberBroken_39 : decode cX5_numberBroken 39 = .ok (.goto (-35), 3) := by decide +kernel
theorem dX5_numberBroken_42 : decode cX5_numberBroken 42 = .ok (.iload_n 1, 1) := by decide +kernel
theorem dX5_numberBroken_43 : decode cX5_numberBroken 43 = .ok (.ireturn, 1) := by decide +kernel
theorem dX5_brokenAt_0 : decode cX5_brokenAt 0 = .ok (.iconst 0, 1) := by decide +kernel
theorem dX5_brokenAt_1 : decode cX5_brokenAt 1 = .ok (.istore_n 2, 1) := by decide +kernel
theorem dX5_brokenAt_2 : decode cX5_brokenAt 2 = .ok (.iconst 0, 1) := by decide +kernel
theorem dX5_brokenAt_3 : decode cX5_brokenAt 3 = .ok (.istore_n 3, 1) := by decide +kernel
theorem dX5_brokenAt_4 : decode cX5_brokenAt 4 = .ok (.iload_n 3, 1) := by decide +kernel
theorem dX5_brokenAt_5 : decode cX5_brokenAt 5 = .ok (.aload_n 0, 1) := by decide +kernel
theorem dX5_brokenAt_6 : decode cX5_brokenAt 6 = .ok (.getfield 33, 3) := by decide +kernel
theorem dX5_brokenAt_9 : decode cX5_brokenAt 9 = .ok (.if_icmp .ge 32, 3) := by decide +kernel
theorem dX5_brokenAt_12 : decode cX5_brokenAt 12 = .ok (.aload_n 0, 1) := by decide +kernel
theorem dX5_brokenAt_13 : decode cX5_brokenAt 13 = .ok (.getfield 14, 3) := by decide +kernel
theorem dX5_brokenAt_16 : decode cX5_brokenAt 16 = .ok (.iload_n 3, 1) := by decide +kernel
theorem dX5_brokenAt_17 : decode cX5_brokenAt 17 = .ok (.invokevirtual 43, 3) := by decide +kernel
theorem dX5_brokenAt_20 : decode cX5_brokenAt 20 = .ok (.iload_n 1, 1) := by decide +kernel
theorem dX5_brokenAt_21 : decode cX5_brokenAt 21 = .ok (.if_icmp .ne 14, 3) := by decide +kernel
theorem dX5_brokenAt_24 : decode cX5_brokenAt 24 = .ok (.aload_n 0, 1) := by decide +kernel
theorem dX5_brokenAt_25 : decode cX5_brokenAt 25 = .ok (.iload_n 3, 1) := by decide +kernel
theorem dX5_brokenAt_26 : decode cX5_brokenAt 26 = .ok (.invokevirtual 53, 3) := by decide +kernel
theorem dX5_brokenAt_29 : decode cX5_brokenAt 29 = .ok (.ifCond .eq 6, 3) := by decide +kernel
theorem dX5_brokenAt_32 : decode cX5_brokenAt 32 = .ok (.iinc 2 1, 3) := by decide +kernel
theorem dX5_brokenAt_35 : decode cX5_brokenAt 35 = .ok (.iinc 3 1, 3) := by decide +kernel
theorem dX5_brokenAt_38 : decode cX5_brokenAt 38 = .ok (.goto (-34), 3) := by decide +kernel
theorem dX5_brokenAt_41 : decode cX5_brokenAt 41 = .ok (.iload_n 2, 1) := by decide +kernel
theorem dX5_brokenAt_42 : decode cX5_brokenAt 42 = .ok (.ireturn, 1) := by decide +kernel
theorem dX5_wholeAt_0 : decode cX5_wholeAt 0 = .ok (.aload_n 0, 1) := by decide +kernel
theorem dX5_wholeAt_1 : decode cX5_wholeAt 1 = .ok (.iload_n 1, 1) := by decide +kernel
theorem dX5_wholeAt_2 : decode cX5_wholeAt 2 = .ok (.invokevirtual 50, 3) := by decide +kernel
theorem dX5_wholeAt_5 : decode cX5_wholeAt 5 = .ok (.aload_n 0, 1) := by decide +kernel
theorem dX5_wholeAt_6 : decode cX5_wholeAt 6 = .ok (.iload_n 1, 1) := by decide +kernel
theorem dX5_wholeAt_7 : decode cX5_wholeAt 7 = .ok (.invokevirtual 57, 3) := by decide +kernel
theorem dX5_wholeAt_10 : decode cX5_wholeAt 10 = .ok (.isub, 1) := by decide +kernel
theorem dX5_wholeAt_11 : decode cX5_wholeAt 11 = .ok (.ireturn, 1) := by decide +kernel
theorem dX5_nthAt_0 : decode cX5_nthAt 0 = .ok (.iconst 0, 1) := by decide +kernel
theorem dX5_nthAt_1 : decode cX5_nthAt 1 = .ok (.istore_n 3, 1) := by decide +kernel
theorem dX5_nthAt_2 : decode cX5_nthAt 2 = .ok (.iconst 0, 1) := by decide +kernel
theorem dX5_nthAt_3 : decode cX5_nthAt 3 = .ok (.istore 4, 2) := by decide +kernel
theorem dX5_nthAt_5 : decode cX5_nthAt 5 = .ok (.iload 4, 2) := by decide +kernel
theorem dX5_nthAt_7 : decode cX5_nthAt 7 = .ok (.aload_n 0, 1) := by decide +kernel
theorem dX5_nthAt_8 : decode cX5_nthAt 8 = .ok (.getfield 33, 3) := by decide +kernel
theorem dX5_nthAt_11 : decode cX5_nthAt 11 = .ok (.if_icmp .ge 33, 3) := by decide +kernel
theorem dX5_nthAt_14 : decode cX5_nthAt 14 = .ok (.aload_n 0, 1) := by decide +kernel
theorem dX5_nthAt_15 : decode cX5_nthAt 15 = .ok (.getfield 14, 3) := by decide +kernel
theorem dX5_nthAt_18 : decode cX5_nthAt 18 = .ok (.iload 4, 2) := by decide +kernel
theorem dX5_nthAt_20 : decode cX5_nthAt 20 = .ok (.invokevirtual 43, 3) := by decide +kernel
theorem dX5_nthAt_23 : decode cX5_nthAt 23 = .ok (.iload_n 1, 1) := by decide +kernel
theorem dX5_nthAt_24 : decode cX5_nthAt 24 = .ok (.if_icmp .ne 14, 3) := by decide +kernel
theorem dX5_nthAt_27 : decode cX5_nthAt 27 = .ok (.iload_n 3, 1) := by decide +kernel
theorem dX5_nthAt_28 : decode cX5_nthAt 28 = .ok (.iload_n 2, 1) := by decide +kernel
theorem dX5_nthAt_29 : decode cX5_nthAt 29 = .ok (.if_icmp .ne 6, 3) := by decide +kernel
theorem dX5_nthAt_32 : decode cX5_nthAt 32 = .ok (.iload 4, 2) := by decide +kernel
theorem dX5_nthAt_34 : decode cX5_nthAt 34 = .ok (.ireturn, 1) := by decide +kernel
theorem dX5_nthAt_35 : decode cX5_nthAt 35 = .ok (.iinc 3 1, 3) := by decide +kernel
theorem dX5_nthAt_38 : decode cX5_nthAt 38 = .ok (.iinc 4 1, 3) := by decide +kernel
theorem dX5_nthAt_41 : decode cX5_nthAt 41 = .ok (.goto (-36), 3) := by decide +kernel
theorem dX5_nthAt_44 : decode cX5_nthAt 44 = .ok (.bipush (-9), 2) := by decide +kernel
theorem dX5_nthAt_46 : decode cX5_nthAt 46 = .ok (.ireturn, 1) := by decide +kernel
theorem dX5_leastWornAt_0 : decode cX5_leastWornAt 0 = .ok (.bipush (-9), 2) := by decide +kernel
theorem dX5_leastWornAt_2 : decode cX5_leastWornAt 2 = .ok (.istore 4, 2) := by decide +kernel
theorem dX5_leastWornAt_4 : decode cX5_leastWornAt 4 = .ok (.iconst 0, 1) := by decide +kernel
theorem dX5_leastWornAt_5 : decode cX5_leastWornAt 5 = .ok (.istore 5, 2) := by decide +kernel
theorem dX5_leastWornAt_7 : decode cX5_leastWornAt 7 = .ok (.iload 5, 2) := by decide +kernel
theorem dX5_leastWornAt_9 : decode cX5_leastWornAt 9 = .ok (.aload_n 0, 1) := by decide +kernel
theorem dX5_leastWornAt_10 : decode cX5_leastWornAt 10 = .ok (.getfield 33, 3) := by decide +kernel
theorem dX5_leastWornAt_13 : decode cX5_leastWornAt 13 = .ok (.if_icmp .ge 85, 3) := by decide +kernel
theorem dX5_leastWornAt_16 : decode cX5_leastWornAt 16 = .ok (.aload_n 0, 1) := by decide +kernel
theorem dX5_leastWornAt_17 : decode cX5_leastWornAt 17 = .ok (.getfield 14, 3) := by decide +kernel
theorem dX5_leastWornAt_20 : decode cX5_leastWornAt 20 = .ok (.iload 5, 2) := by decide +kernel
theorem dX5_leastWornAt_22 : decode cX5_leastWornAt 22 = .ok (.invokevirtual 43, 3) := by decide +kernel
theorem dX5_leastWornAt_25 : decode cX5_leastWornAt 25 = .ok (.iload_n 1, 1) := by decide +kernel
theorem dX5_leastWornAt_26 : decode cX5_leastWornAt 26 = .ok (.if_icmp .ne 26, 3) := by decide +kernel
theorem dX5_leastWornAt_29 : decode cX5_leastWornAt 29 = .ok (.aload_n 0, 1) := by decide +kernel
theorem dX5_leastWornAt_30 : decode cX5_leastWornAt 30 = .ok (.getfield 20, 3) := by decide +kernel
theorem dX5_leastWornAt_33 : decode cX5_leastWornAt 33 = .ok (.iload 5, 2) := by decide +kernel
theorem dX5_leastWornAt_35 : decode cX5_leastWornAt 35 = .ok (.invokevirtual 43, 3) := by decide +kernel
theorem dX5_leastWornAt_38 : decode cX5_leastWornAt 38 = .ok (.iload_n 2, 1) := by decide +kernel
theorem dX5_leastWornAt_39 : decode cX5_leastWornAt 39 = .ok (.if_icmp .gt 13, 3) := by decide +kernel
theorem dX5_leastWornAt_42 : decode cX5_leastWornAt 42 = .ok (.iload 5, 2) := by decide +kernel
theorem dX5_leastWornAt_44 : decode cX5_leastWornAt 44 = .ok (.iload_n 3, 1) := by decide +kernel
theorem dX5_leastWornAt_45 : decode cX5_leastWornAt 45 = .ok (.if_icmp .eq 7, 3) := by decide +kernel
theorem dX5_leastWornAt_48 : decode cX5_leastWornAt 48 = .ok (.iconst 1, 1) := by decide +kernel
theorem dX5_leastWornAt_49 : decode cX5_leastWornAt 49 = .ok (.goto 4, 3) := by decide +kernel
theorem dX5_leastWornAt_52 : decode cX5_leastWornAt 52 = .ok (.iconst 0, 1) := by decide +kernel
theorem dX5_leastWornAt_53 : decode cX5_leastWornAt 53 = .ok (.istore 6, 2) := by decide +kernel
theorem dX5_leastWornAt_55 : decode cX5_leastWornAt 55 = .ok (.iload 6, 2) := by decide +kernel
theorem dX5_leastWornAt_57 : decode cX5_leastWornAt 57 = .ok (.ifCond .eq 35, 3) := by decide +kernel
theorem dX5_leastWornAt_60 : decode cX5_leastWornAt 60 = .ok (.iload 4, 2) := by decide +kernel
theorem dX5_leastWornAt_62 : decode cX5_leastWornAt 62 = .ok (.bipush (-9), 2) := by decide +kernel
theorem dX5_leastWornAt_64 : decode cX5_leastWornAt 64 = .ok (.if_icmp .eq 24, 3) := by decide +kernel
theorem dX5_leastWornAt_67 : decode cX5_leastWornAt 67 = .ok (.aload_n 0, 1) := by decide +kernel
theorem dX5_leastWornAt_68 : decode cX5_leastWornAt 68 = .ok (.getfield 20, 3) := by decide +kernel
theorem dX5_leastWornAt_71 : decode cX5_leastWornAt 71 = .ok (.iload 5, 2) := by decide +kernel
theorem dX5_leastWornAt_73 : decode cX5_leastWornAt 73 = .ok (.invokevirtual 43, 3) := by decide +kernel
theorem dX5_leastWornAt_76 : decode cX5_leastWornAt 76 = .ok (.aload_n 0, 1) := by decide +kernel
theorem dX5_leastWornAt_77 : decode cX5_leastWornAt 77 = .ok (.getfield 20, 3) := by decide +kernel
theorem dX5_leastWornAt_80 : decode cX5_leastWornAt 80 = .ok (.iload 4, 2) := by decide +kernel
theorem dX5_leastWornAt_82 : decode cX5_leastWornAt 82 = .ok (.invokevirtual 43, 3) := by decide +kernel
theorem dX5_leastWornAt_85 : decode cX5_leastWornAt 85 = .ok (.if_icmp .ge 7, 3) := by decide +kernel
theorem dX5_leastWornAt_88 : decode cX5_leastWornAt 88 = .ok (.iload 5, 2) := by decide +kernel
theorem dX5_leastWornAt_90 : decode cX5_leastWornAt 90 = .ok (.istore 4, 2) := by decide +kernel
theorem dX5_leastWornAt_92 : decode cX5_leastWornAt 92 = .ok (.iinc 5 1, 3) := by decide +kernel
theorem dX5_leastWornAt_95 : decode cX5_leastWornAt 95 = .ok (.goto (-88), 3) := by decide +kernel
theorem dX5_leastWornAt_98 : decode cX5_leastWornAt 98 = .ok (.iload 4, 2) := by decide +kernel
theorem dX5_leastWornAt_100 : decode cX5_leastWornAt 100 = .ok (.ireturn, 1) := by decide +kernel
theorem dX5_bestAt_0 : decode cX5_bestAt 0 = .ok (.aload_n 0, 1) := by decide +kernel
theorem dX5_bestAt_1 : decode cX5_bestAt 1 = .ok (.iload_n 1, 1) := by decide +kernel
theorem dX5_bestAt_2 : decode cX5_bestAt 2 = .ok (.bipush 31, 2) := by decide +kernel
theorem dX5_bestAt_4 : decode cX5_bestAt 4 = .ok (.bipush (-9), 2) := by decide +kernel
theorem dX5_bestAt_6 : decode cX5_bestAt 6 = .ok (.invokevirtual 60, 3) := by decide +kernel
theorem dX5_bestAt_9 : decode cX5_bestAt 9 = .ok (.ireturn, 1) := by decide +kernel
theorem dX5_worstAt_0 : decode cX5_worstAt 0 = .ok (.bipush (-9), 2) := by decide +kernel
theorem dX5_worstAt_2 : decode cX5_worstAt 2 = .ok (.istore_n 2, 1) := by decide +kernel
theorem dX5_worstAt_3 : decode cX5_worstAt 3 = .ok (.iconst 0, 1) := by decide +kernel
theorem dX5_worstAt_4 : decode cX5_worstAt 4 = .ok (.istore_n 3, 1) := by decide +kernel
theorem dX5_worstAt_5 : decode cX5_worstAt 5 = .ok (.iload_n 3, 1) := by decide +kernel
theorem dX5_worstAt_6 : decode cX5_worstAt 6 = .ok (.aload_n 0, 1) := by decide +kernel
theorem dX5_worstAt_7 : decode cX5_worstAt 7 = .ok (.getfield 33, 3) := by decide +kernel
theorem dX5_worstAt_10 : decode cX5_worstAt 10 = .ok (.if_icmp .ge 48, 3) := by decide +kernel
theorem dX5_worstAt_13 : decode cX5_worstAt 13 = .ok (.aload_n 0, 1) := by decide +kernel
theorem dX5_worstAt_14 : decode cX5_worstAt 14 = .ok (.getfield 14, 3) := by decide +kernel
theorem dX5_worstAt_17 : decode cX5_worstAt 17 = .ok (.iload_n 3, 1) := by decide +kernel
theorem dX5_worstAt_18 : decode cX5_worstAt 18 = .ok (.invokevirtual 43, 3) := by decide +kernel
theorem dX5_worstAt_21 : decode cX5_worstAt 21 = .ok (.iload_n 1, 1) := by decide +kernel
theorem dX5_worstAt_22 : decode cX5_worstAt 22 = .ok (.if_icmp .ne 30, 3) := by decide +kernel
theorem dX5_worstAt_25 : decode cX5_worstAt 25 = .ok (.iload_n 2, 1) := by decide +kernel
theorem dX5_worstAt_26 : decode cX5_worstAt 26 = .ok (.bipush (-9), 2) := by decide +kernel
theorem dX5_worstAt_28 : decode cX5_worstAt 28 = .ok (.if_icmp .eq 22, 3) := by decide +kernel
theorem dX5_worstAt_31 : decode cX5_worstAt 31 = .ok (.aload_n 0, 1) := by decide +kernel
theorem dX5_worstAt_32 : decode cX5_worstAt 32 = .ok (.getfield 20, 3) := by decide +kernel
theorem dX5_worstAt_35 : decode cX5_worstAt 35 = .ok (.iload_n 3, 1) := by decide +kernel
theorem dX5_worstAt_36 : decode cX5_worstAt 36 = .ok (.invokevirtual 43, 3) := by decide +kernel
theorem dX5_worstAt_39 : decode cX5_worstAt 39 = .ok (.aload_n 0, 1) := by decide +kernel
theorem dX5_worstAt_40 : decode cX5_worstAt 40 = .ok (.getfield 20, 3) := by decide +kernel
theorem dX5_worstAt_43 : decode cX5_worstAt 43 = .ok (.iload_n 2, 1) := by decide +kernel
theorem dX5_worstAt_44 : decode cX5_worstAt 44 = .ok (.invokevirtual 43, 3) := by decide +kernel
theorem dX5_worstAt_47 : decode cX5_worstAt 47 = .ok (.if_icmp .le 5, 3) := by decide +kernel
theorem dX5_worstAt_50 : decode cX5_worstAt 50 = .ok (.iload_n 3, 1) := by decide +kernel
theorem dX5_worstAt_51 : decode cX5_worstAt 51 = .ok (.istore_n 2, 1) := by decide +kernel
theorem dX5_worstAt_52 : decode cX5_worstAt 52 = .ok (.iinc 3 1, 3) := by decide +kernel
theorem dX5_worstAt_55 : decode cX5_worstAt 55 = .ok (.goto (-50), 3) := by decide +kernel
theorem dX5_worstAt_58 : decode cX5_worstAt 58 = .ok (.iload_n 2, 1) := by decide +kernel
theorem dX5_worstAt_59 : decode cX5_worstAt 59 = .ok (.ireturn, 1) := by decide +kernel
theorem dX5_meanWearAt_0 : decode cX5_meanWearAt 0 = .ok (.aload_n 0, 1) := by decide +kernel
theorem dX5_meanWearAt_1 : decode cX5_meanWearAt 1 = .ok (.iload_n 1, 1) := by decide +kernel
theorem dX5_meanWearAt_2 : decode cX5_meanWearAt 2 = .ok (.invokevirtual 50, 3) := by decide +kernel
theorem dX5_meanWearAt_5 : decode cX5_meanWearAt 5 = .ok (.istore_n 2, 1) := by decide +kernel
theorem dX5_meanWearAt_6 : decode cX5_meanWearAt 6 = .ok (.iload_n 2, 1) := by decide +kernel
theorem dX5_meanWearAt_7 : decode cX5_meanWearAt 7 = .ok (.ifCond .gt 5, 3) := by decide +kernel
theorem dX5_meanWearAt_10 : decode cX5_meanWearAt 10 = .ok (.iconst 0, 1) := by decide +kernel
theorem dX5_meanWearAt_11 : decode cX5_meanWearAt 11 = .ok (.ireturn, 1) := by decide +kernel
theorem dX5_meanWearAt_12 : decode cX5_meanWearAt 12 = .ok (.iconst 0, 1) := by decide +kernel
theorem dX5_meanWearAt_13 : decode cX5_meanWearAt 13 = .ok (.istore_n 3, 1) := by decide +kernel
theorem dX5_meanWearAt_14 : decode cX5_meanWearAt 14 = .ok (.iconst 0, 1) := by decide +kernel
theorem dX5_meanWearAt_15 : decode cX5_meanWearAt 15 = .ok (.istore 4, 2) := by decide +kernel
theorem dX5_meanWearAt_17 : decode cX5_meanWearAt 17 = .ok (.iload 4, 2) := by decide +kernel
theorem dX5_meanWearAt_19 : decode cX5_meanWearAt 19 = .ok (.aload_n 0, 1) := by decide +kernel
theorem dX5_meanWearAt_20 : decode cX5_meanWearAt 20 = .ok (.getfield 33, 3) := by decide +kernel
theorem dX5_meanWearAt_23 : decode cX5_meanWearAt 23 = .ok (.if_icmp .ge 34, 3) := by decide +kernel
theorem dX5_meanWearAt_26 : decode cX5_meanWearAt 26 = .ok (.aload_n 0, 1) := by decide +kernel
theorem dX5_meanWearAt_27 : decode cX5_meanWearAt 27 = .ok (.getfield 14, 3) := by decide +kernel
theorem dX5_meanWearAt_30 : decode cX5_meanWearAt 30 = .ok (.iload 4, 2) := by decide +kernel
theorem dX5_meanWearAt_32 : decode cX5_meanWearAt 32 = .ok (.invokevirtual 43, 3) := by decide +kernel
theorem dX5_meanWearAt_35 : decode cX5_meanWearAt 35 = .ok (.iload_n 1, 1) := by decide +kernel
theorem dX5_meanWearAt_36 : decode cX5_meanWearAt 36 = .ok (.if_icmp .ne 15, 3) := by decide +kernel
theorem dX5_meanWearAt_39 : decode cX5_meanWearAt 39 = .ok (.iload_n 3, 1) := by decide +kernel
theorem dX5_meanWearAt_40 : decode cX5_meanWearAt 40 = .ok (.aload_n 0, 1) := by decide +kernel
theorem dX5_meanWearAt_41 : decode cX5_meanWearAt 41 = .ok (.getfield 20, 3) := by decide +kernel
theorem dX5_meanWearAt_44 : decode cX5_meanWearAt 44 = .ok (.iload 4, 2) := by decide +kernel
theorem dX5_meanWearAt_46 : decode cX5_meanWearAt 46 = .ok (.invokevirtual 43, 3) := by decide +kernel
theorem dX5_meanWearAt_49 : decode cX5_meanWearAt 49 = .ok (.iadd, 1) := by decide +kernel
theorem dX5_meanWearAt_50 : decode cX5_meanWearAt 50 = .ok (.istore_n 3, 1) := by decide +kernel
theorem dX5_meanWearAt_51 : decode cX5_meanWearAt 51 = .ok (.iinc 4 1, 3) := by decide +kernel
theorem dX5_meanWearAt_54 : decode cX5_meanWearAt 54 = .ok (.goto (-37), 3) := by decide +kernel
theorem dX5_meanWearAt_57 : decode cX5_meanWearAt 57 = .ok (.bipush 100, 2) := by decide +kernel
theorem dX5_meanWearAt_59 : decode cX5_meanWearAt 59 = .ok (.iload_n 3, 1) := by decide +kernel
theorem dX5_meanWearAt_60 : decode cX5_meanWearAt 60 = .ok (.imul, 1) := by decide +kernel
theorem dX5_meanWearAt_61 : decode cX5_meanWearAt 61 = .ok (.bipush 8, 2) := by decide +kernel
theorem dX5_meanWearAt_63 : decode cX5_meanWearAt 63 = .ok (.iload_n 2, 1) := by decide +kernel
theorem dX5_meanWearAt_64 : decode cX5_meanWearAt 64 = .ok (.imul, 1) := by decide +kernel
theorem dX5_meanWearAt_65 : decode cX5_meanWearAt 65 = .ok (.idiv, 1) := by decide +kernel
theorem dX5_meanWearAt_66 : decode cX5_meanWearAt 66 = .ok (.ireturn, 1) := by decide +kernel
theorem dX6_init_0 : decode cX6_init 0 = .ok (.aload_n 0, 1) := by decide +kernel
theorem dX6_init_1 : decode cX6_init 1 = .ok (.invokespecial 3, 3) := by decide +kernel
theorem dX6_init_4 : decode cX6_init 4 = .ok (.aload_n 0, 1) := by decide +kernel
theorem dX6_init_5 : decode cX6_init 5 = .ok (.new 9, 3) := by decide +kernel
theorem dX6_init_8 : decode cX6_init 8 = .ok (.dup, 1) := by decide +kernel
theorem dX6_init_9 : decode cX6_init 9 = .ok (.invokespecial 11, 3) := by decide +kernel
theorem dX6_init_12 : decode cX6_init 12 = .ok (.putfield 12, 3) := by decide +kernel
theorem dX6_init_15 : decode cX6_init 15 = .ok (.aload_n 0, 1) := by decide +kernel
theorem dX6_init_16 : decode cX6_init 16 = .ok (.new 16, 3) := by decide +kernel
theorem dX6_init_19 : decode cX6_init 19 = .ok (.dup, 1) := by decide +kernel
theorem dX6_init_20 : decode cX6_init 20 = .ok (.invokespecial 18, 3) := by decide +kernel
theorem dX6_init_23 : decode cX6_init 23 = .ok (.putfield 19, 3) := by decide +kernel
theorem dX6_init_26 : decode cX6_init 26 = .ok (.aload_n 0, 1) := by decide +kernel
theorem dX6_init_27 : decode cX6_init 27 = .ok (.new 23, 3) := by decide +kernel
theorem dX6_init_30 : decode cX6_init 30 = .ok (.dup, 1) := by decide +kernel
theorem dX6_init_31 : decode cX6_init 31 = .ok (.invokespecial 25, 3) := by decide +kernel
theorem dX6_init_34 : decode cX6_init 34 = .ok (.putfield 26, 3) := by decide +kernel
theorem dX6_init_37 : decode cX6_init 37 = .ok (.return_, 1) := by decide +kernel
theorem dX6_buy_0 : decode cX6_buy 0 = .ok (.aload_n 0, 1) := by decide +kernel
theorem dX6_buy_1 : decode cX6_buy 1 = .ok (.getfield 12, 3) := by decide +kernel
theorem dX6_buy_4 : decode cX6_buy 4 = .ok (.getfield 30, 3) := by decide +kernel
theorem dX6_buy_7 : decode cX6_buy 7 = .ok (.iload_n 1, 1) := by decide +kernel
theorem dX6_buy_8 : decode cX6_buy 8 = .ok (.iload_n 2, 1) := by decide +kernel
theorem dX6_buy_9 : decode cX6_buy 9 = .ok (.invokevirtual 34, 3) := by decide +kernel
theorem dX6_buy_12 : decode cX6_buy 12 = .ok (.istore_n 3, 1) := by decide +kernel
theorem dX6_buy_13 : decode cX6_buy 13 = .ok (.iload_n 3, 1) := by decide +kernel
theorem dX6_buy_14 : decode cX6_buy 14 = .ok (.ifCond .eq 5, 3) := by decide +kernel
theorem dX6_buy_17 : decode cX6_buy 17 = .ok (.iload_n 3, 1) := by decide +kernel
theorem dX6_buy_18 : decode cX6_buy 18 = .ok (.ireturn, 1) := by decide +kernel
theorem dX6_buy_19 : decode cX6_buy 19 = .ok (.aload_n 0, 1) := by decide +kernel
theorem dX6_buy_20 : decode cX6_buy 20 = .ok (.getfield 19, 3) := by decide +kernel
theorem dX6_buy_23 : decode cX6_buy 23 = .ok (.aload_n 0, 1) := by decide +kernel
theorem dX6_buy_24 : decode cX6_buy 24 = .ok (.getfield 12, 3) := by decide +kernel
theorem dX6_buy_27 : decode cX6_buy 27 = .ok (.invokevirtual 40, 3) := by decide +kernel
theorem dX6_buy_30 : decode cX6_buy 30 = .ok (.aload_n 0, 1) := by decide +kernel
theorem dX6_buy_31 : decode cX6_buy 31 = .ok (.getfield 12, 3) := by decide +kernel
theorem dX6_buy_34 : decode cX6_buy 34 = .ok (.getfield 30, 3) := by decide +kernel
theorem dX6_buy_37 : decode cX6_buy 37 = .ok (.iload_n 1, 1) := by decide +kernel
theorem dX6_buy_38 : decode cX6_buy 38 = .ok (.iload_n 2, 1) := by decide +kernel
theorem dX6_buy_39 : decode cX6_buy 39 = .ok (.invokevirtual 44, 3) := by decide +kernel
theorem dX6_buy_42 : decode cX6_buy 42 = .ok (.ireturn, 1) := by decide +kernel
theorem dX6_set_0 : decode cX6_set 0 = .ok (.aload_n 0, 1) := by decide +kernel
theorem dX6_set_1 : decode cX6_set 1 = .ok (.getfield 12, 3) := by decide +kernel
theorem dX6_set_4 : decode cX6_set 4 = .ok (.getfield 30, 3) := by decide +kernel
theorem dX6_set_7 : decode cX6_set 7 = .ok (.iload_n 1, 1) := by decide +kernel
theorem dX6_set_8 : decode cX6_set 8 = .ok (.iload_n 2, 1) := by decide +kernel
theorem dX6_set_9 : decode cX6_set 9 = .ok (.invokevirtual 47, 3) := by decide +kernel
theorem dX6_set_12 : decode cX6_set 12 = .ok (.istore_n 3, 1) := by decide +kernel
theorem dX6_set_13 : decode cX6_set 13 = .ok (.iload_n 3, 1) := by decide +kernel
theorem dX6_set_14 : decode cX6_set 14 = .ok (.ifCond .eq 5, 3) := by decide +kernel
theorem dX6_set_17 : decode cX6_set 17 = .ok (.iload_n 3, 1) := by decide +kernel
theorem dX6_set_18 : decode cX6_set 18 = .ok (.ireturn, 1) := by decide +kernel
theorem dX6_set_19 : decode cX6_set 19 = .ok (.aload_n 0, 1) := by decide +kernel
theorem dX6_set_20 : decode cX6_set 20 = .ok (.getfield 19, 3) := by decide +kernel
theorem dX6_set_23 : decode cX6_set 23 = .ok (.aload_n 0, 1) := by decide +kernel
theorem dX6_set_24 : decode cX6_set 24 = .ok (.getfield 12, 3) := by decide +kernel
theorem dX6_set_27 : decode cX6_set 27 = .ok (.invokevirtual 40, 3) := by decide +kernel
theorem dX6_set_30 : decode cX6_set 30 = .ok (.aload_n 0, 1) := by decide +kernel
theorem dX6_set_31 : decode cX6_set 31 = .ok (.getfield 12, 3) := by decide +kernel
theorem dX6_set_34 : decode cX6_set 34 = .ok (.getfield 30, 3) := by decide +kernel
theorem dX6_set_37 : decode cX6_set 37 = .ok (.iload_n 1, 1) := by decide +kernel
theorem dX6_set_38 : decode cX6_set 38 = .ok (.iload_n 2, 1) := by decide +kernel
theorem dX6_set_39 : decode cX6_set 39 = .ok (.invokevirtual 50, 3) := by decide +kernel
theorem dX6_set_42 : decode cX6_set 42 = .ok (.ireturn, 1) := by decide +kernel
theorem dX6_borrow_0 : decode cX6_borrow 0 = .ok (.aload_n 0, 1) := by decide +kernel
theorem dX6_borrow_1 : decode cX6_borrow 1 = .ok (.getfield 12, 3) := by decide +kernel
theorem dX6_borrow_4 : decode cX6_borrow 4 = .ok (.getfield 30, 3) := by decide +kernel
theorem dX6_borrow_7 : decode cX6_borrow 7 = .ok (.iload_n 1, 1) := by decide +kernel
theorem dX6_borrow_8 : decode cX6_borrow 8 = .ok (.iload_n 2, 1) := by decide +kernel
theorem dX6_borrow_9 : decode cX6_borrow 9 = .ok (.invokevirtual 53, 3) := by decide +kernel
theorem dX6_borrow_12 : decode cX6_borrow 12 = .ok (.istore_n 3, 1) := by decide +kernel
theorem dX6_borrow_13 : decode cX6_borrow 13 = .ok (.iload_n 3, 1) := by decide +kernel
theorem dX6_borrow_14 : decode cX6_borrow 14 = .ok (.ifCond .eq 5, 3) := by decide +kernel
theorem dX6_borrow_17 : decode cX6_borrow 17 = .ok (.iload_n 3, 1) := by decide +kernel
theorem dX6_borrow_18 : decode cX6_borrow 18 = .ok (.ireturn, 1) := by decide +kernel
theorem dX6_borrow_19 : decode cX6_borrow 19 = .ok (.aload_n 0, 1) := by decide +kernel
theorem dX6_borrow_20 : decode cX6_borrow 20 = .ok (.getfield 19, 3) := by decide +kernel
theorem dX6_borrow_23 : decode cX6_borrow 23 = .ok (.aload_n 0, 1) := by decide +kernel
theorem dX6_borrow_24 : decode cX6_borrow 24 = .ok (.getfield 12, 3) := by decide +kernel
theorem dX6_borrow_27 : decode cX6_borrow 27 = .ok (.invokevirtual 40, 3) := by decide +kernel
theorem dX6_borrow_30 : decode cX6_borrow 30 = .ok (.aload_n 0, 1) := by decide +kernel
theorem dX6_borrow_31 : decode cX6_borrow 31 = .ok (.getfield 12, 3) := by decide +kernel
theorem dX6_borrow_34 : decode cX6_borrow 34 = .ok (.getfield 30, 3) := by decide +kernel
theorem dX6_borrow_37 : decode cX6_borrow 37 = .ok (.iload_n 1, 1) := by decide +kernel
theorem dX6_borrow_38 : decode cX6_borrow 38 = .ok (.iload_n 2, 1) := by decide +kernel
theorem dX6_borrow_39 : decode cX6_borrow 39 = .ok (.invokevirtual 56, 3) := by decide +kernel
theorem dX6_borrow_42 : decode cX6_borrow 42 = .ok (.ireturn, 1) := by decide +kernel
theorem dX6_bringBack_0 : decode cX6_bringBack 0 = .ok (.aload_n 0, 1) := by decide +kernel
theorem dX6_bringBack_1 : decode cX6_bringBack 1 = .ok (.getfield 12, 3) := by decide +kernel
theorem dX6_bringBack_4 : decode cX6_bringBack 4 = .ok (.getfield 30, 3) := by decide +kernel
theorem dX6_bringBack_7 : decode cX6_bringBack 7 = .ok (.iload_n 1, 1) := by decide +kernel
theorem dX6_bringBack_8 : decode cX6_bringBack 8 = .ok (.iload_n 2, 1) := by decide +kernel
theorem dX6_bringBack_9 : decode cX6_bringBack 9 = .ok (.invokevirtual 59, 3) := by decide +kernel
theorem dX6_bringBack_12 : decode cX6_bringBack 12 = .ok (.istore_n 3, 1) := by decide +kernel
theorem dX6_bringBack_13 : decode cX6_bringBack 13 = .ok (.iload_n 3, 1) := by decide +kernel
theorem dX6_bringBack_14 : decode cX6_bringBack 14 = .ok (.ifCond .eq 5, 3) := by decide +kernel
theorem dX6_bringBack_17 : decode cX6_bringBack 17 = .ok (.iload_n 3, 1) := by decide +kernel
theorem dX6_bringBack_18 : decode cX6_bringBack 18 = .ok (.ireturn, 1) := by decide +kernel
theorem dX6_bringBack_19 : decode cX6_bringBack 19 = .ok (.aload_n 0, 1) := by decide +kernel
theorem dX6_bringBack_20 : decode cX6_bringBack 20 = .ok (.getfield 19, 3) := by decide +kernel
theorem dX6_bringBack_23 : decode cX6_bringBack 23 = .ok (.aload_n 0, 1) := by decide +kernel
theorem dX6_bringBack_24 : decode cX6_bringBack 24 = .ok (.getfield 12, 3) := by decide +kernel
theorem dX6_bringBack_27 : decode cX6_bringBack 27 = .ok (.invokevirtual 40, 3) := by decide +kernel
theorem dX6_bringBack_30 : decode cX6_bringBack 30 = .ok (.aload_n 0, 1) := by decide +kernel
theorem dX6_bringBack_31 : decode cX6_bringBack 31 = .ok (.getfield 12, 3) := by decide +kernel
theorem dX6_bringBack_34 : decode cX6_bringBack 34 = .ok (.getfield 30, 3) := by decide +kernel
theorem dX6_bringBack_37 : decode cX6_bringBack 37 = .ok (.iload_n 1, 1) := by decide +kernel
theorem dX6_bringBack_38 : decode cX6_bringBack 38 = .ok (.iload_n 2, 1) := by decide +kernel
theorem dX6_bringBack_39 : decode cX6_bringBack 39 = .ok (.invokevirtual 62, 3) := by decide +kernel
theorem dX6_bringBack_42 : decode cX6_bringBack 42 = .ok (.ireturn, 1) := by decide +kernel
theorem dX6_hour_0 : decode cX6_hour 0 = .ok (.aload_n 0, 1) := by decide +kernel
theorem dX6_hour_1 : decode cX6_hour 1 = .ok (.getfield 12, 3) := by decide +kernel
theorem dX6_hour_4 : decode cX6_hour 4 = .ok (.getfield 30, 3) := by decide +kernel
theorem dX6_hour_7 : decode cX6_hour 7 = .ok (.iload_n 1, 1) := by decide +kernel
theorem dX6_hour_8 : decode cX6_hour 8 = .ok (.iload_n 2, 1) := by decide +kernel
theorem dX6_hour_9 : decode cX6_hour 9 = .ok (.invokevirtual 65, 3) := by decide +kernel
theorem dX6_hour_12 : decode cX6_hour 12 = .ok (.istore_n 3, 1) := by decide +kernel
theorem dX6_hour_13 : decode cX6_hour 13 = .ok (.iload_n 3, 1) := by decide +kernel
theorem dX6_hour_14 : decode cX6_hour 14 = .ok (.ifCond .eq 5, 3) := by decide +kernel
theorem dX6_hour_17 : decode cX6_hour 17 = .ok (.iload_n 3, 1) := by decide +kernel
theorem dX6_hour_18 : decode cX6_hour 18 = .ok (.ireturn, 1) := by decide +kernel
theorem dX6_hour_19 : decode cX6_hour 19 = .ok (.aload_n 0, 1) := by decide +kernel
theorem dX6_hour_20 : decode cX6_hour 20 = .ok (.getfield 19, 3) := by decide +kernel
theorem dX6_hour_23 : decode cX6_hour 23 = .ok (.aload_n 0, 1) := by decide +kernel
theorem dX6_hour_24 : decode cX6_hour 24 = .ok (.getfield 12, 3) := by decide +kernel
theorem dX6_hour_27 : decode cX6_hour 27 = .ok (.invokevirtual 40, 3) := by decide +kernel
theorem dX6_hour_30 : decode cX6_hour 30 = .ok (.aload_n 0, 1) := by decide +kernel
theorem dX6_hour_31 : decode cX6_hour 31 = .ok (.getfield 12, 3) := by decide +kernel
theorem dX6_hour_34 : decode cX6_hour 34 = .ok (.getfield 30, 3) := by decide +kernel
theorem dX6_hour_37 : decode cX6_hour 37 = .ok (.iload_n 1, 1) := by decide +kernel
theorem dX6_hour_38 : decode cX6_hour 38 = .ok (.iload_n 2, 1) := by decide +kernel
theorem dX6_hour_39 : decode cX6_hour 39 = .ok (.invokevirtual 68, 3) := by decide +kernel
theorem dX6_hour_42 : decode cX6_hour 42 = .ok (.ireturn, 1) := by decide +kernel
theorem dX6_load_0 : decode cX6_load 0 = .ok (.aload_n 0, 1) := by decide +kernel
theorem dX6_load_1 : decode cX6_load 1 = .ok (.getfield 12, 3) := by decide +kernel
theorem dX6_load_4 : decode cX6_load 4 = .ok (.getfield 30, 3) := by decide +kernel
theorem dX6_load_7 : decode cX6_load 7 = .ok (.iload_n 1, 1) := by decide +kernel
theorem dX6_load_8 : decode cX6_load 8 = .ok (.iload_n 2, 1) := by decide +kernel
theorem dX6_load_9 : decode cX6_load 9 = .ok (.iload_n 3, 1) := by decide +kernel
theorem dX6_load_10 : decode cX6_load 10 = .ok (.invokevirtual 71, 3) := by decide +kernel
theorem dX6_load_13 : decode cX6_load 13 = .ok (.istore 4, 2) := by decide +kernel
theorem dX6_load_15 : decode cX6_load 15 = .ok (.iload 4, 2) := by decide +kernel
theorem dX6_load_17 : decode cX6_load 17 = .ok (.ifCond .eq 6, 3) := by decide +kernel
theorem dX6_load_20 : decode cX6_load 20 = .ok (.iload 4, 2) := by decide +kernel
theorem dX6_load_22 : decode cX6_load 22 = .ok (.ireturn, 1) := by decide +kernel
theorem dX6_load_23 : decode cX6_load 23 = .ok (.aload_n 0, 1) := by decide +kernel
theorem dX6_load_24 : decode cX6_load 24 = .ok (.getfield 19, 3) := by decide +kernel
theorem dX6_load_27 : decode cX6_load 27 = .ok (.aload_n 0, 1) := by decide +kernel
theorem dX6_load_28 : decode cX6_load 28 = .ok (.getfield 12, 3) := by decide +kernel
theorem dX6_load_31 : decode cX6_load 31 = .ok (.invokevirtual 40, 3) := by decide +kernel
theorem dX6_load_34 : decode cX6_load 34 = .ok (.aload_n 0, 1) := by decide +kernel
theorem dX6_load_35 : decode cX6_load 35 = .ok (.getfield 12, 3) := by decide +kernel
theorem dX6_load_38 : decode cX6_load 38 = .ok (.getfield 30, 3) := by decide +kernel
theorem dX6_load_41 : decode cX6_load 41 = .ok (.iload_n 1, 1) := by decide +kernel
theorem dX6_load_42 : decode cX6_load 42 = .ok (.iload_n 2, 1) := by decide +kernel
theorem dX6_load_43 : decode cX6_load 43 = .ok (.iload_n 3, 1) := by decide +kernel
theorem dX6_load_44 : decode cX6_load 44 = .ok (.invokevirtual 75, 3) := by decide +kernel
theorem dX6_load_47 : decode cX6_load 47 = .ok (.ireturn, 1) := by decide +kernel
theorem dX6_unload_0 : decode cX6_unload 0 = .ok (.aload_n 0, 1) := by decide +kernel
theorem dX6_unload_1 : decode cX6_unload 1 = .ok (.getfield 12, 3) := by decide +kernel
theorem dX6_unload_4 : decode cX6_unload 4 = .ok (.getfield 30, 3) := by decide +kernel
theorem dX6_unload_7 : decode cX6_unload 7 = .ok (.iload_n 1, 1) := by decide +kernel
theorem dX6_unload_8 : decode cX6_unload 8 = .ok (.iload_n 2, 1) := by decide +kernel
theorem dX6_unload_9 : decode cX6_unload 9 = .ok (.iload_n 3, 1) := by decide +kernel
theorem dX6_unload_10 : decode cX6_unload 10 = .ok (.invokevirtual 78, 3) := by decide +kernel
theorem dX6_unload_13 : decode cX6_unload 13 = .ok (.istore 4, 2) := by decide +kernel
theorem dX6_unload_15 : decode cX6_unload 15 = .ok (.iload 4, 2) := by decide +kernel
theorem dX6_unload_17 : decode cX6_unload 17 = .ok (.ifCond .eq 6, 3) := by decide +kernel
theorem dX6_unload_20 : decode cX6_unload 20 = .ok (.iload 4, 2) := by decide +kernel
theorem dX6_unload_22 : decode cX6_unload 22 = .ok (.ireturn, 1) := by decide +kernel
theorem dX6_unload_23 : decode cX6_unload 23 = .ok (.aload_n 0, 1) := by decide +kernel
theorem dX6_unload_24 : decode cX6_unload 24 = .ok (.getfield 19, 3) := by decide +kernel
theorem dX6_unload_27 : decode cX6_unload 27 = .ok (.aload_n 0, 1) := by decide +kernel
theorem dX6_unload_28 : decode cX6_unload 28 = .ok (.getfield 12, 3) := by decide +kernel
theorem dX6_unload_31 : decode cX6_unload 31 = .ok (.invokevirtual 40, 3) := by decide +kernel
theorem dX6_unload_34 : decode cX6_unload 34 = .ok (.aload_n 0, 1) := by decide +kernel
theorem dX6_unload_35 : decode cX6_unload 35 = .ok (.getfield 12, 3) := by decide +kernel
theorem dX6_unload_38 : decode cX6_unload 38 = .ok (.getfield 30, 3) := by decide +kernel
theorem dX6_unload_41 : decode cX6_unload 41 = .ok (.iload_n 1, 1) := by decide +kernel
theorem dX6_unload_42 : decode cX6_unload 42 = .ok (.iload_n 2, 1) := by decide +kernel
theorem dX6_unload_43 : decode cX6_unload 43 = .ok (.iload_n 3, 1) := by decide +kernel
theorem dX6_unload_44 : decode cX6_unload 44 = .ok (.invokevirtual 81, 3) := by decide +kernel
theorem dX6_unload_47 : decode cX6_unload 47 = .ok (.ireturn, 1) := by decide +kernel
theorem dX6_toWorkshop_0 : decode cX6_toWorkshop 0 = .ok (.aload_n 0, 1) := by decide +kernel
theorem dX6_toWorkshop_1 : decode cX6_toWorkshop 1 = .ok (.getfield 12, 3) := by decide +kernel
theorem dX6_toWorkshop_4 : decode cX6_toWorkshop 4 = .ok (.getfield 30, 3) := by decide +kernel
theorem dX6_toWorkshop_7 : decode cX6_toWorkshop 7 = .ok (.iload_n 1, 1) := by decide +kernel
theorem dX6_toWorkshop_8 : decode cX6_toWorkshop 8 = .ok (.invokevirtual 84, 3) := by decide +kernel
theorem dX6_toWorkshop_11 : decode cX6_toWorkshop 11 = .ok (.istore_n 2, 1) := by decide +kernel
theorem dX6_toWorkshop_12 : decode cX6_toWorkshop 12 = .ok (.iload_n 2, 1) := by decide +kernel
theorem dX6_toWorkshop_13 : decode cX6_toWorkshop 13 = .ok (.ifCond .eq 5, 3) := by decide +kernel
theorem dX6_toWorkshop_16 : decode cX6_toWorkshop 16 = .ok (.iload_n 2, 1) := by decide +kernel
theorem dX6_toWorkshop_17 : decode cX6_toWorkshop 17 = .ok (.ireturn, 1) := by decide +kernel
theorem dX6_toWorkshop_18 : decode cX6_toWorkshop 18 = .ok (.aload_n 0, 1) := by decide +kernel
theorem dX6_toWorkshop_19 : decode cX6_toWorkshop 19 = .ok (.getfield 19, 3) := by decide +kernel
theorem dX6_toWorkshop_22 : decode cX6_toWorkshop 22 = .ok (.aload_n 0, 1) := by decide +kernel
theorem dX6_toWorkshop_23 : decode cX6_toWorkshop 23 = .ok (.getfield 12, 3) := by decide +kernel
theorem dX6_toWorkshop_26 : decode cX6_toWorkshop 26 = .ok (.invokevirtual 40, 3) := by decide +kernel
theorem dX6_toWorkshop_29 : decode cX6_toWorkshop 29 = .ok (.aload_n 0, 1) := by decide +kernel
theorem dX6_toWorkshop_30 : decode cX6_toWorkshop 30 = .ok (.getfield 12, 3) := by decide +kernel
theorem dX6_toWorkshop_33 : decode cX6_toWorkshop 33 = .ok (.getfield 30, 3) := by decide +kernel
theorem dX6_toWorkshop_36 : decode cX6_toWorkshop 36 = .ok (.iload_n 1, 1) := by decide +kernel
theorem dX6_toWorkshop_37 : decode cX6_toWorkshop 37 = .ok (.invokevirtual 88, 3) := by decide +kernel
theorem dX6_toWorkshop_40 : decode cX6_toWorkshop 40 = .ok (.ireturn, 1) := by decide +kernel
theorem dX6_mend_0 : decode cX6_mend 0 = .ok (.aload_n 0, 1) := by decide +kernel
theorem dX6_mend_1 : decode cX6_mend 1 = .ok (.getfield 12, 3) := by decide +kernel
theorem dX6_mend_4 : decode cX6_mend 4 = .ok (.getfield 30, 3) := by decide +kernel
theorem dX6_mend_7 : decode cX6_mend 7 = .ok (.iload_n 1, 1) := by decide +kernel
theorem dX6_mend_8 : decode cX6_mend 8 = .ok (.invokevirtual 91, 3) := by decide +kernel
theorem dX6_mend_11 : decode cX6_mend 11 = .ok (.istore_n 2, 1) := by decide +kernel
theorem dX6_mend_12 : decode cX6_mend 12 = .ok (.iload_n 2, 1) := by decide +kernel
theorem dX6_mend_13 : decode cX6_mend 13 = .ok (.ifCond .eq 5, 3) := by decide +kernel
theorem dX6_mend_16 : decode cX6_mend 16 = .ok (.iload_n 2, 1) := by decide +kernel
theorem dX6_mend_17 : decode cX6_mend 17 = .ok (.ireturn, 1) := by decide +kernel
theorem dX6_mend_18 : decode cX6_mend 18 = .ok (.aload_n 0, 1) := by decide +kernel
theorem dX6_mend_19 : decode cX6_mend 19 = .ok (.getfield 19, 3) := by decide +kernel
theorem dX6_mend_22 : decode cX6_mend 22 = .ok (.aload_n 0, 1) := by decide +kernel
theorem dX6_mend_23 : decode cX6_mend 23 = .ok (.getfield 12, 3) := by decide +kernel
theorem dX6_mend_26 : decode cX6_mend 26 = .ok (.invokevirtual 40, 3) := by decide +kernel
theorem dX6_mend_29 : decode cX6_mend 29 = .ok (.aload_n 0, 1) := by decide +kernel
theorem dX6_mend_30 : decode cX6_mend 30 = .ok (.getfield 12, 3) := by decide +kernel
theorem dX6_mend_33 : decode cX6_mend 33 = .ok (.getfield 30, 3) := by decide +kernel
theorem dX6_mend_36 : decode cX6_mend 36 = .ok (.iload_n 1, 1) := by decide +kernel
theorem dX6_mend_37 : decode cX6_mend 37 = .ok (.invokevirtual 94, 3) := by decide +kernel
theorem dX6_mend_40 : decode cX6_mend 40 = .ok (.ireturn, 1) := by decide +kernel
theorem dX6_level_0 : decode cX6_level 0 = .ok (.aload_n 0, 1) := by decide +kernel
theorem dX6_level_1 : decode cX6_level 1 = .ok (.getfield 19, 3) := by decide +kernel
theorem dX6_level_4 : decode cX6_level 4 = .ok (.aload_n 0, 1) := by decide +kernel
theorem dX6_level_5 : decode cX6_level 5 = .ok (.getfield 12, 3) := by decide +kernel
theorem dX6_level_8 : decode cX6_level 8 = .ok (.invokevirtual 40, 3) := by decide +kernel
theorem dX6_level_11 : decode cX6_level 11 = .ok (.aload_n 0, 1) := by decide +kernel
theorem dX6_level_12 : decode cX6_level 12 = .ok (.getfield 12, 3) := by decide +kernel
theorem dX6_level_15 : decode cX6_level 15 = .ok (.getfield 30, 3) := by decide +kernel
theorem dX6_level_18 : decode cX6_level 18 = .ok (.invokevirtual 97, 3) := by decide +kernel
theorem dX6_level_21 : decode cX6_level 21 = .ok (.ireturn, 1) := by decide +kernel
theorem dX6_take_0 : decode cX6_take 0 = .ok (.iload_n 1, 1) := by decide +kernel
theorem dX6_take_1 : decode cX6_take 1 = .ok (.iconst 0, 1) := by decide +kernel
theorem dX6_take_2 : decode cX6_take 2 = .ok (.iconst 1, 1) := by decide +kernel
theorem dX6_take_3 : decode cX6_take 3 = .ok (.invokestatic 101, 3) := by decide +kernel
theorem dX6_take_6 : decode cX6_take 6 = .ok (.ifCond .eq 5, 3) := by decide +kernel
theorem dX6_take_9 : decode cX6_take 9 = .ok (.iconst (-1), 1) := by decide +kernel
theorem dX6_take_10 : decode cX6_take 10 = .ok (.ireturn, 1) := by decide +kernel
theorem dX6_take_11 : decode cX6_take 11 = .ok (.aload_n 0, 1) := by decide +kernel
theorem dX6_take_12 : decode cX6_take 12 = .ok (.getfield 19, 3) := by decide +kernel
theorem dX6_take_15 : decode cX6_take 15 = .ok (.aload_n 0, 1) := by decide +kernel
theorem dX6_take_16 : decode cX6_take 16 = .ok (.getfield 12, 3) := by decide +kernel
theorem dX6_take_19 : decode cX6_take 19 = .ok (.invokevirtual 40, 3) := by decide +kernel
theorem dX6_take_22 : decode cX6_take 22 = .ok (.aload_n 0, 1) := by decide +kernel
theorem dX6_take_23 : decode cX6_take 23 = .ok (.getfield 12, 3) := by decide +kernel
theorem dX6_take_26 : decode cX6_take 26 = .ok (.iload_n 1, 1) := by decide +kernel
theorem dX6_take_27 : decode cX6_take 27 = .ok (.invokevirtual 105, 3) := by decide +kernel
theorem dX6_take_30 : decode cX6_take 30 = .ok (.aload_n 0, 1) := by decide +kernel
theorem dX6_take_31 : decode cX6_take 31 = .ok (.getfield 12, 3) := by decide +kernel
theorem dX6_take_34 : decode cX6_take 34 = .ok (.getfield 30, 3) := by decide +kernel
theorem dX6_take_37 : decode cX6_take 37 = .ok (.getfield 109, 3) := by decide +kernel
theorem dX6_take_40 : decode cX6_take 40 = .ok (.ireturn, 1) := by decide +kernel
theorem dX6_restore_0 : decode cX6_restore 0 = .ok (.iload_n 1, 1) := by decide +kernel
theorem dX6_restore_1 : decode cX6_restore 1 = .ok (.iconst 0, 1) := by decide +kernel
theorem dX6_restore_2 : decode cX6_restore 2 = .ok (.iconst 1, 1) := by decide +kernel
theorem dX6_restore_3 : decode cX6_restore 3 = .ok (.invokestatic 101, 3) := by decide +kernel
theorem dX6_restore_6 : decode cX6_restore 6 = .ok (.ifCond .eq 5, 3) := by decide +kernel
theorem dX6_restore_9 : decode cX6_restore 9 = .ok (.iconst (-1), 1) := by decide +kernel
theorem dX6_restore_10 : decode cX6_restore 10 = .ok (.ireturn, 1) := by decide +kernel
theorem dX6_restore_11 : decode cX6_restore 11 = .ok (.aload_n 0, 1) := by decide +kernel
theorem dX6_restore_12 : decode cX6_restore 12 = .ok (.getfield 12, 3) := by decide +kernel
theorem dX6_restore_15 : decode cX6_restore 15 = .ok (.iload_n 1, 1) := by decide +kernel
theorem dX6_restore_16 : decode cX6_restore 16 = .ok (.invokevirtual 113, 3) := by decide +kernel
theorem dX6_restore_19 : decode cX6_restore 19 = .ok (.ifCond .ne 6, 3) := by decide +kernel
theorem dX6_restore_22 : decode cX6_restore 22 = .ok (.bipush (-2), 2) := by decide +kernel
theorem dX6_restore_24 : decode cX6_restore 24 = .ok (.ireturn, 1) := by decide +kernel
theorem dX6_restore_25 : decode cX6_restore 25 = .ok (.aload_n 0, 1) := by decide +kernel
theorem dX6_restore_26 : decode cX6_restore 26 = .ok (.getfield 19, 3) := by decide +kernel
theorem dX6_restore_29 : decode cX6_restore 29 = .ok (.aload_n 0, 1) := by decide +kernel
theorem dX6_restore_30 : decode cX6_restore 30 = .ok (.getfield 12, 3) := by decide +kernel
theorem dX6_restore_33 : decode cX6_restore 33 = .ok (.invokevirtual 40, 3) := by decide +kernel
theorem dX6_restore_36 : decode cX6_restore 36 = .ok (.aload_n 0, 1) := by decide +kernel
theorem dX6_restore_37 : decode cX6_restore 37 = .ok (.getfield 12, 3) := by decide +kernel
theorem dX6_restore_40 : decode cX6_restore 40 = .ok (.iload_n 1, 1) := by decide +kernel
theorem dX6_restore_41 : decode cX6_restore 41 = .ok (.invokevirtual 117, 3) := by decide +kernel
theorem dX6_restore_44 : decode cX6_restore 44 = .ok (.aload_n 0, 1) := by decide +kernel
theorem dX6_restore_45 : decode cX6_restore 45 = .ok (.getfield 12, 3) := by decide +kernel
theorem dX6_restore_48 : decode cX6_restore 48 = .ok (.getfield 30, 3) := by decide +kernel
theorem dX6_restore_51 : decode cX6_restore 51 = .ok (.getfield 109, 3) := by decide +kernel
theorem dX6_restore_54 : decode cX6_restore 54 = .ok (.ireturn, 1) := by decide +kernel
theorem dX6_undo_0 : decode cX6_undo 0 = .ok (.aload_n 0, 1) := by decide +kernel
theorem dX6_undo_1 : decode cX6_undo 1 = .ok (.getfield 19, 3) := by decide +kernel
theorem dX6_undo_4 : decode cX6_undo 4 = .ok (.getfield 120, 3) := by decide +kernel
theorem dX6_undo_7 : decode cX6_undo 7 = .ok (.ifCond .ne 6, 3) := by decide +kernel
theorem dX6_undo_10 : decode cX6_undo 10 = .ok (.bipush (-2), 2) := by decide +kernel
theorem dX6_undo_12 : decode cX6_undo 12 = .ok (.ireturn, 1) := by decide +kernel
theorem dX6_undo_13 : decode cX6_undo 13 = .ok (.aload_n 0, 1) := by decide +kernel
theorem dX6_undo_14 : decode cX6_undo 14 = .ok (.getfield 19, 3) := by decide +kernel
theorem dX6_undo_17 : decode cX6_undo 17 = .ok (.aload_n 0, 1) := by decide +kernel
theorem dX6_undo_18 : decode cX6_undo 18 = .ok (.getfield 12, 3) := by decide +kernel
theorem dX6_undo_21 : decode cX6_undo 21 = .ok (.invokevirtual 123, 3) := by decide +kernel
theorem dX6_undo_24 : decode cX6_undo 24 = .ok (.aload_n 0, 1) := by decide +kernel
theorem dX6_undo_25 : decode cX6_undo 25 = .ok (.getfield 19, 3) := by decide +kernel
theorem dX6_undo_28 : decode cX6_undo 28 = .ok (.getfield 120, 3) := by decide +kernel
theorem dX6_undo_31 : decode cX6_undo 31 = .ok (.ireturn, 1) := by decide +kernel
theorem dX6_append_0 : decode cX6_append 0 = .ok (.iload_n 1, 1) := by decide +kernel
theorem dX6_append_1 : decode cX6_append 1 = .ok (.iconst 1, 1) := by decide +kernel
theorem dX6_append_2 : decode cX6_append 2 = .ok (.sipush 255, 3) := by decide +kernel
theorem dX6_append_5 : decode cX6_append 5 = .ok (.invokestatic 101, 3) := by decide +kernel
theorem dX6_append_8 : decode cX6_append 8 = .ok (.ifCond .eq 5, 3) := by decide +kernel
theorem dX6_append_11 : decode cX6_append 11 = .ok (.iconst (-1), 1) := by decide +kernel
theorem dX6_append_12 : decode cX6_append 12 = .ok (.ireturn, 1) := by decide +kernel
theorem dX6_append_13 : decode cX6_append 13 = .ok (.aload_n 0, 1) := by decide +kernel
theorem dX6_append_14 : decode cX6_append 14 = .ok (.getfield 26, 3) := by decide +kernel
theorem dX6_append_17 : decode cX6_append 17 = .ok (.getfield 126, 3) := by decide +kernel
theorem dX6_append_20 : decode cX6_append 20 = .ok (.bipush 80, 2) := by decide +kernel
theorem dX6_append_22 : decode cX6_append 22 = .ok (.if_icmp .lt 6, 3) := by decide +kernel
theorem dX6_append_25 : decode cX6_append 25 = .ok (.bipush (-3), 2) := by decide +kernel
theorem dX6_append_27 : decode cX6_append 27 = .ok (.ireturn, 1) := by decide +kernel
theorem dX6_append_28 : decode cX6_append 28 = .ok (.aload_n 0, 1) := by decide +kernel
theorem dX6_append_29 : decode cX6_append 29 = .ok (.getfield 26, 3) := by decide +kernel
theorem dX6_append_32 : decode cX6_append 32 = .ok (.iload_n 1, 1) := by decide +kernel
theorem dX6_append_33 : decode cX6_append 33 = .ok (.invokevirtual 129, 3) := by decide +kernel
theorem dX6_append_36 : decode cX6_append 36 = .ok (.aload_n 0, 1) := by decide +kernel
theorem dX6_append_37 : decode cX6_append 37 = .ok (.getfield 26, 3) := by decide +kernel
theorem dX6_append_40 : decode cX6_append 40 = .ok (.getfield 126, 3) := by decide +kernel
theorem dX6_append_43 : decode cX6_append 43 = .ok (.ireturn, 1) := by decide +kernel
theorem dX6_clearText_0 : decode cX6_clearText 0 = .ok (.aload_n 0, 1) := by decide +kernel
theorem dX6_clearText_1 : decode cX6_clearText 1 = .ok (.getfield 26, 3) := by decide +kernel
theorem dX6_clearText_4 : decode cX6_clearText 4 = .ok (.getfield 126, 3) := by decide +kernel
theorem dX6_clearText_7 : decode cX6_clearText 7 = .ok (.istore_n 1, 1) := by decide +kernel
theorem dX6_clearText_8 : decode cX6_clearText 8 = .ok (.aload_n 0, 1) := by decide +kernel
theorem dX6_clearText_9 : decode cX6_clearText 9 = .ok (.getfield 26, 3) := by decide +kernel
theorem dX6_clearText_12 : decode cX6_clearText 12 = .ok (.iconst 0, 1) := by decide +kernel
theorem dX6_clearText_13 : decode cX6_clearText 13 = .ok (.putfield 126, 3) := by decide +kernel
theorem dX6_clearText_16 : decode cX6_clearText 16 = .ok (.iload_n 1, 1) := by decide +kernel
theorem dX6_clearText_17 : decode cX6_clearText 17 = .ok (.ireturn, 1) := by decide +kernel
theorem dX6_carryOut_0 : decode cX6_carryOut 0 = .ok (.aload_n 0, 1) := by decide +kernel
theorem dX6_carryOut_1 : decode cX6_carryOut 1 = .ok (.getfield 26, 3) := by decide +kernel
theorem dX6_carryOut_4 : decode cX6_carryOut 4 = .ok (.invokevirtual 132, 3) := by decide +kernel
theorem dX6_carryOut_7 : decode cX6_carryOut 7 = .ok (.istore_n 1, 1) := by decide +kernel
theorem dX6_carryOut_8 : decode cX6_carryOut 8 = .ok (.iload_n 1, 1) := by decide +kernel
theorem dX6_carryOut_9 : decode cX6_carryOut 9 = .ok (.bipush (-9), 2) := by decide +kernel
theorem dX6_carryOut_11 : decode cX6_carryOut 11 = .ok (.if_icmp .eq 9, 3) := by decide +kernel
theorem dX6_carryOut_14 : decode cX6_carryOut 14 = .ok (.sipush (-1000), 3) := by decide +kernel
theorem dX6_carryOut_17 : decode cX6_carryOut 17 = .ok (.iload_n 1, 1) := by decide +kernel
theorem dX6_carryOut_18 : decode cX6_carryOut 18 = .ok (.isub, 1) := by decide +kernel
theorem dX6_carryOut_19 : decode cX6_carryOut 19 = .ok (.ireturn, 1) := by decide +kernel
theorem dX6_carryOut_20 : decode cX6_carryOut 20 = .ok (.aload_n 0, 1) := by decide +kernel
theorem dX6_carryOut_21 : decode cX6_carryOut 21 = .ok (.getfield 19, 3) := by decide +kernel
theorem dX6_carryOut_24 : decode cX6_carryOut 24 = .ok (.aload_n 0, 1) := by decide +kernel
theorem dX6_carryOut_25 : decode cX6_carryOut 25 = .ok (.getfield 12, 3) := by decide +kernel
theorem dX6_carryOut_28 : decode cX6_carryOut 28 = .ok (.invokevirtual 40, 3) := by decide +kernel
theorem dX6_carryOut_31 : decode cX6_carryOut 31 = .ok (.iconst 0, 1) := by decide +kernel
theorem dX6_carryOut_32 : decode cX6_carryOut 32 = .ok (.istore_n 2, 1) := by decide +kernel
theorem dX6_carryOut_33 : decode cX6_carryOut 33 = .ok (.aload_n 0, 1) := by decide +kernel
theorem dX6_carryOut_34 : decode cX6_carryOut 34 = .ok (.getfield 26, 3) := by decide +kernel
theorem dX6_carryOut_37 : decode cX6_carryOut 37 = .ok (.invokevirtual 135, 3) := by decide +kernel
theorem dX6_carryOut_40 : decode cX6_carryOut 40 = .ok (.iload_n 2, 1) := by decide +kernel
theorem dX6_carryOut_41 : decode cX6_carryOut 41 = .ok (.bipush 80, 2) := by decide +kernel
theorem dX6_carryOut_43 : decode cX6_carryOut 43 = .ok (.if_icmp .gt 38, 3) := by decide +kernel
theorem dX6_carryOut_46 : decode cX6_carryOut 46 = .ok (.aload_n 0, 1) := by decide +kernel
theorem dX6_carryOut_47 : decode cX6_carryOut 47 = .ok (.getfield 26, 3) := by decide +kernel
theorem dX6_carryOut_50 : decode cX6_carryOut 50 = .ok (.invokevirtual 138, 3) := by decide +kernel
theorem dX6_carryOut_53 : decode cX6_carryOut 53 = .ok (.ifCond .eq 28, 3) := by decide +kernel
theorem dX6_carryOut_56 : decode cX6_carryOut 56 = .ok (.aload_n 0, 1) := by decide +kernel
theorem dX6_carryOut_57 : decode cX6_carryOut 57 = .ok (.invokevirtual 142, 3) := by decide +kernel
theorem dX6_carryOut_60 : decode cX6_carryOut 60 = .ok (.ifCond .lt 21, 3) := by decide +kernel
theorem dX6_carryOut_63 : decode cX6_carryOut 63 = .ok (.iinc 2 1, 3) := by decide +kernel
theorem dX6_carryOut_66 : decode cX6_carryOut 66 = .ok (.aload_n 0, 1) := by decide +kernel
theorem dX6_carryOut_67 : decode cX6_carryOut 67 = .ok (.getfield 26, 3) := by decide +kernel
theorem dX6_carryOut_70 : decode cX6_carryOut 70 = .ok (.bipush 59, 2) := by decide +kernel
theorem dX6_carryOut_72 : decode cX6_carryOut 72 = .ok (.invokevirtual 145, 3) := by decide +kernel
theorem dX6_carryOut_75 : decode cX6_carryOut 75 = .ok (.ifCond .ne (-35), 3) := by decide +kernel
theorem dX6_carryOut_78 : decode cX6_carryOut 78 = .ok (.goto 3, 3) := by decide +kernel
theorem dX6_carryOut_81 : decode cX6_carryOut 81 = .ok (.aload_n 0, 1) := by decide +kernel
theorem dX6_carryOut_82 : decode cX6_carryOut 82 = .ok (.getfield 26, 3) := by decide +kernel
theorem dX6_carryOut_85 : decode cX6_carryOut 85 = .ok (.iconst 0, 1) := by decide +kernel
theorem dX6_carryOut_86 : decode cX6_carryOut 86 = .ok (.putfield 126, 3) := by decide +kernel
theorem dX6_carryOut_89 : decode cX6_carryOut 89 = .ok (.iload_n 2, 1) := by decide +kernel
theorem dX6_carryOut_90 : decode cX6_carryOut 90 = .ok (.ireturn, 1) := by decide +kernel
theorem dX6_obey_0 : decode cX6_obey 0 = .ok (.aload_n 0, 1) := by decide +kernel
theorem dX6_obey_1 : decode cX6_obey 1 = .ok (.getfield 12, 3) := by decide +kernel
theorem dX6_obey_4 : decode cX6_obey 4 = .ok (.getfield 30, 3) := by decide +kernel
theorem dX6_obey_7 : decode cX6_obey 7 = .ok (.astore_n 1, 1) := by decide +kernel
theorem dX6_obey_8 : decode cX6_obey 8 = .ok (.aload_n 0, 1) := by decide +kernel
theorem dX6_obey_9 : decode cX6_obey 9 = .ok (.getfield 26, 3) := by decide +kernel
theorem dX6_obey_12 : decode cX6_obey 12 = .ok (.getfield 149, 3) := by decide +kernel
theorem dX6_obey_15 : decode cX6_obey 15 = .ok (.istore_n 2, 1) := by decide +kernel
theorem dX6_obey_16 : decode cX6_obey 16 = .ok (.aload_n 0, 1) := by decide +kernel
theorem dX6_obey_17 : decode cX6_obey 17 = .ok (.getfield 26, 3) := by decide +kernel
theorem dX6_obey_20 : decode cX6_obey 20 = .ok (.getfield 152, 3) := by decide +kernel
theorem dX6_obey_23 : decode cX6_obey 23 = .ok (.istore_n 3, 1) := by decide +kernel
theorem dX6_obey_24 : decode cX6_obey 24 = .ok (.aload_n 0, 1) := by decide +kernel
theorem dX6_obey_25 : decode cX6_obey 25 = .ok (.getfield 26, 3) := by decide +kernel
theorem dX6_obey_28 : decode cX6_obey 28 = .ok (.getfield 155, 3) := by decide +kernel
theorem dX6_obey_31 : decode cX6_obey 31 = .ok (.lookupswitch 121 #[(98, 41), (104, 91), (108, 116), (114, 66)], 41) := by decide +kernel
theorem dX6_obey_72 : decode cX6_obey 72 = .ok (.aload_n 1, 1) := by decide +kernel
theorem dX6_obey_73 : decode cX6_obey 73 = .ok (.iload_n 2, 1) := by decide +kernel
theorem dX6_obey_74 : decode cX6_obey 74 = .ok (.iload_n 3, 1) := by decide +kernel
theorem dX6_obey_75 : decode cX6_obey 75 = .ok (.invokevirtual 53, 3) := by decide +kernel
theorem dX6_obey_78 : decode cX6_obey 78 = .ok (.istore 4, 2) := by decide +kernel
theorem dX6_obey_80 : decode cX6_obey 80 = .ok (.iload 4, 2) := by decide +kernel
theorem dX6_obey_82 : decode cX6_obey 82 = .ok (.ifCond .eq 8, 3) := by decide +kernel
theorem dX6_obey_85 : decode cX6_obey 85 = .ok (.iload 4, 2) := by decide +kernel
theorem dX6_obey_87 : decode cX6_obey 87 = .ok (.goto 9, 3) := by decide +kernel
theorem dX6_obey_90 : decode cX6_obey 90 = .ok (.aload_n 1, 1) := by decide +kernel
theorem dX6_obey_91 : decode cX6_obey 91 = .ok (.iload_n 2, 1) := by decide +kernel
theorem dX6_obey_92 : decode cX6_obey 92 = .ok (.iload_n 3, 1) := by decide +kernel
theorem dX6_obey_93 : decode cX6_obey 93 = .ok (.invokevirtual 56, 3) := by decide +kernel
theorem dX6_obey_96 : decode cX6_obey 96 = .ok (.ireturn, 1) := by decide +kernel
theorem dX6_obey_97 : decode cX6_obey 97 = .ok (.aload_n 1, 1) := by decide +kernel
theorem dX6_obey_98 : decode cX6_obey 98 = .ok (.iload_n 2, 1) := by decide +kernel
theorem dX6_obey_99 : decode cX6_obey 99 = .ok (.iload_n 3, 1) := by decide +kernel
theorem dX6_obey_100 : decode cX6_obey 100 = .ok (.invokevirtual 59, 3) := by decide +kernel
theorem dX6_obey_103 : decode cX6_obey 103 = .ok (.istore 4, 2) := by decide +kernel
theorem dX6_obey_105 : decode cX6_obey 105 = .ok (.iload 4, 2) := by decide +kernel
theorem dX6_obey_107 : decode cX6_obey 107 = .ok (.ifCond .eq 8, 3) := by decide +kernel
theorem dX6_obey_110 : decode cX6_obey 110 = .ok (.iload 4, 2) := by decide +kernel
theorem dX6_obey_112 : decode cX6_obey 112 = .ok (.goto 9, 3) := by decide +kernel
theorem dX6_obey_115 : decode cX6_obey 115 = .ok (.aload_n 1, 1) := by decide +kernel
theorem dX6_obey_116 : decode cX6_obey 116 = .ok (.iload_n 2, 1) := by decide +kernel
theorem dX6_obey_117 : decode cX6_obey 117 = .ok (.iload_n 3, 1) := by decide +kernel
theorem dX6_obey_118 : decode cX6_obey 118 = .ok (.invokevirtual 62, 3) := by decide +kernel
theorem dX6_obey_121 : decode cX6_obey 121 = .ok (.ireturn, 1) := by decide +kernel
theorem dX6_obey_122 : decode cX6_obey 122 = .ok (.aload_n 1, 1) := by decide +kernel
theorem dX6_obey_123 : decode cX6_obey 123 = .ok (.iload_n 2, 1) := by decide +kernel
theorem dX6_obey_124 : decode cX6_obey 124 = .ok (.iload_n 3, 1) := by decide +kernel
theorem dX6_obey_125 : decode cX6_obey 125 = .ok (.invokevirtual 65, 3) := by decide +kernel
theorem dX6_obey_128 : decode cX6_obey 128 = .ok (.istore 4, 2) := by decide +kernel
theorem dX6_obey_130 : decode cX6_obey 130 = .ok (.iload 4, 2) := by decide +kernel
theorem dX6_obey_132 : decode cX6_obey 132 = .ok (.ifCond .eq 8, 3) := by decide +kernel
theorem dX6_obey_135 : decode cX6_obey 135 = .ok (.iload 4, 2) := by decide +kernel
theorem dX6_obey_137 : decode cX6_obey 137 = .ok (.goto 9, 3) := by decide +kernel
theorem dX6_obey_140 : decode cX6_obey 140 = .ok (.aload_n 1, 1) := by decide +kernel
theorem dX6_obey_141 : decode cX6_obey 141 = .ok (.iload_n 2, 1) := by decide +kernel
theorem dX6_obey_142 : decode cX6_obey 142 = .ok (.iload_n 3, 1) := by decide +kernel
theorem dX6_obey_143 : decode cX6_obey 143 = .ok (.invokevirtual 68, 3) := by decide +kernel
theorem dX6_obey_146 : decode cX6_obey 146 = .ok (.ireturn, 1) := by decide +kernel
theorem dX6_obey_147 : decode cX6_obey 147 = .ok (.aload_n 1, 1) := by decide +kernel
theorem dX6_obey_148 : decode cX6_obey 148 = .ok (.invokevirtual 97, 3) := by decide +kernel
theorem dX6_obey_151 : decode cX6_obey 151 = .ok (.ireturn, 1) := by decide +kernel
theorem dX6_obey_152 : decode cX6_obey 152 = .ok (.iconst (-1), 1) := by decide +kernel
theorem dX6_obey_153 : decode cX6_obey 153 = .ok (.ireturn, 1) := by decide +kernel
theorem dX6_count_0 : decode cX6_count 0 = .ok (.aload_n 0, 1) := by decide +kernel
theorem dX6_count_1 : decode cX6_count 1 = .ok (.getfield 12, 3) := by decide +kernel
theorem dX6_count_4 : decode cX6_count 4 = .ok (.getfield 30, 3) := by decide +kernel
theorem dX6_count_7 : decode cX6_count 7 = .ok (.astore_n 2, 1) := by decide +kernel
theorem dX6_count_8 : decode cX6_count 8 = .ok (.aload_n 2, 1) := by decide +kernel
theorem dX6_count_9 : decode cX6_count 9 = .ok (.getfield 158, 3) := by decide +kernel
theorem dX6_count_12 : decode cX6_count 12 = .ok (.astore_n 3, 1) := by decide +kernel
theorem dX6_count_13 : decode cX6_count 13 = .ok (.iload_n 1, 1) := by decide +kernel
theorem dX6_count_14 : decode cX6_count 14 = .ok (.tableswitch 196 0 17 #[86, 91, 96, 102, 108, 114, 120, 126, 131, 136, 144, 149, 157, 162, 167, 172, 180, 188], 86) := by decide +kernel
theorem dX6_count_100 : decode cX6_count 100 = .ok (.aload_n 2, 1) := by decide +kernel
theorem dX6_count_101 : decode cX6_count 101 = .ok (.getfield 109, 3) := by decide +kernel
theorem dX6_count_104 : decode cX6_count 104 = .ok (.ireturn, 1) := by decide +kernel
theorem dX6_count_105 : decode cX6_count 105 = .ok (.aload_n 3, 1) := by decide +kernel
theorem dX6_count_106 : decode cX6_count 106 = .ok (.getfield 162, 3) := by decide +kernel
theorem dX6_count_109 : decode cX6_count 109 = .ok (.ireturn, 1) := by decide +kernel
theorem dX6_count_110 : decode cX6_count 110 = .ok (.aload_n 3, 1) := by decide +kernel
theorem dX6_count_111 : decode cX6_count 111 = .ok (.iconst 0, 1) := by decide +kernel
theorem dX6_count_112 : decode cX6_count 112 = .ok (.invokevirtual 167, 3) := by decide +kernel
theorem dX6_count_115 : decode cX6_count 115 = .ok (.ireturn, 1) := by decide +kernel
theorem dX6_count_116 : decode cX6_count 116 = .ok (.aload_n 3, 1) := by decide +kernel
theorem dX6_count_117 : decode cX6_count 117 = .ok (.iconst 1, 1) := by decide +kernel
theorem dX6_count_118 : decode cX6_count 118 = .ok (.invokevirtual 167, 3) := by decide +kernel
theorem dX6_count_121 : decode cX6_count 121 = .ok (.ireturn, 1) := by decide +kernel
theorem dX6_count_122 : decode cX6_count 122 = .ok (.aload_n 3, 1) := by decide +kernel
theorem dX6_count_123 : decode cX6_count 123 = .ok (.iconst 2, 1) := by decide +kernel
theorem dX6_count_124 : decode cX6_count 124 = .ok (.invokevirtual 167, 3) := by decide +kernel
theorem dX6_count_127 : decode cX6_count 127 = .ok (.ireturn, 1) := by decide +kernel
theorem dX6_count_128 : decode cX6_count 128 = .ok (.aload_n 3, 1) := by decide +kernel
theorem dX6_count_129 : decode cX6_count 129 = .ok (.iconst 3, 1) := by decide +kernel
theorem dX6_count_130 : decode cX6_count 130 = .ok (.invokevirtual 167, 3) := by decide +kernel
theorem dX6_count_133 : decode cX6_count 133 = .ok (.ireturn, 1) := by decide +kernel
theorem dX6_count_134 : decode cX6_count 134 = .ok (.aload_n 3, 1) := by decide +kernel
theorem dX6_count_135 : decode cX6_count 135 = .ok (.iconst 4, 1) := by decide +kernel
theorem dX6_count_136 : decode cX6_count 136 = .ok (.invokevirtual 167, 3) := by decide +kernel
theorem dX6_count_139 : decode cX6_count 139 = .ok (.ireturn, 1) := by decide +kernel
theorem dX6_count_140 : decode cX6_count 140 = .ok (.aload_n 3, 1) := by decide +kernel
theorem dX6_count_141 : decode cX6_count 141 = .ok (.invokevirtual 170, 3) := by decide +kernel
theorem dX6_count_144 : decode cX6_count 144 = .ok (.ireturn, 1) := by decide +kernel
theorem dX6_count_145 : decode cX6_count 145 = .ok (.aload_n 2, 1) := by decide +kernel
theorem dX6_count_146 : decode cX6_count 146 = .ok (.getfield 173, 3) := by decide +kernel
theorem dX6_count_149 : decode cX6_count 149 = .ok (.ireturn, 1) := by decide +kernel
theorem dX6_count_150 : decode cX6_count 150 = .ok (.aload_n 2, 1) := by decide +kernel
theorem dX6_count_151 : decode cX6_count 151 = .ok (.getfield 176, 3) := by decide +kernel
theorem dX6_count_154 : decode cX6_count 154 = .ok (.invokevirtual 180, 3) := by decide +kernel
theorem dX6_count_157 : decode cX6_count 157 = .ok (.ireturn, 1) := by decide +kernel
theorem dX6_count_158 : decode cX6_count 158 = .ok (.aload_n 2, 1) := by decide +kernel
theorem dX6_count_159 : decode cX6_count 159 = .ok (.getfield 185, 3) := by decide +kernel
theorem dX6_count_162 : decode cX6_count 162 = .ok (.ireturn, 1) := by decide +kernel
theorem dX6_count_163 : decode cX6_count 163 = .ok (.aload_n 2, 1) := by decide +kernel
theorem dX6_count_164 : decode cX6_count 164 = .ok (.getfield 188, 3) := by decide +kernel
theorem dX6_count_167 : decode cX6_count 167 = .ok (.invokevirtual 180, 3) := by decide +kernel
theorem dX6_count_170 : decode cX6_count 170 = .ok (.ireturn, 1) := by decide +kernel
theorem dX6_count_171 : decode cX6_count 171 = .ok (.aload_n 2, 1) := by decide +kernel
theorem dX6_count_172 : decode cX6_count 172 = .ok (.getfield 191, 3) := by decide +kernel
theorem dX6_count_175 : decode cX6_count 175 = .ok (.ireturn, 1) := by decide +kernel
theorem dX6_count_176 : decode cX6_count 176 = .ok (.aload_n 2, 1) := by decide +kernel
theorem dX6_count_177 : decode cX6_count 177 = .ok (.getfield 194, 3) := by decide +kernel
theorem dX6_count_180 : decode cX6_count 180 = .ok (.ireturn, 1) := by decide +kernel
theorem dX6_count_181 : decode cX6_count 181 = .ok (.aload_n 2, 1) := by decide +kernel
theorem dX6_count_182 : decode cX6_count 182 = .ok (.getfield 197, 3) := by decide +kernel
theorem dX6_count_185 : decode cX6_count 185 = .ok (.ireturn, 1) := by decide +kernel
theorem dX6_count_186 : decode cX6_count 186 = .ok (.aload_n 0, 1) := by decide +kernel
theorem dX6_count_187 : decode cX6_count 187 = .ok (.getfield 12, 3) := by decide +kernel
theorem dX6_count_190 : decode cX6_count 190 = .ok (.invokevirtual 200, 3) := by decide +kernel
theorem dX6_count_193 : decode cX6_count 193 = .ok (.ireturn, 1) := by decide +kernel
theorem dX6_count_194 : decode cX6_count 194 = .ok (.aload_n 0, 1) := by decide +kernel
theorem dX6_count_195 : decode cX6_count 195 = .ok (.getfield 19, 3) := by decide +kernel
theorem dX6_count_198 : decode cX6_count 198 = .ok (.getfield 120, 3) := by decide +kernel
theorem dX6_count_201 : decode cX6_count 201 = .ok (.ireturn, 1) := by decide +kernel
theorem dX6_count_202 : decode cX6_count 202 = .ok (.aload_n 0, 1) := by decide +kernel
theorem dX6_count_203 : decode cX6_count 203 = .ok (.getfield 26, 3) := by decide +kernel
theorem dX6_count_206 : decode cX6_count 206 = .ok (.getfield 126, 3) := by decide +kernel
theorem dX6_count_209 : decode cX6_count 209 = .ok (.ireturn, 1) := by decide +kernel
theorem dX6_count_210 : decode cX6_count 210 = .ok (.iconst (-1), 1) := by decide +kernel
theorem dX6_count_211 : decode cX6_count 211 = .ok (.ireturn, 1) := by decide +kernel
theorem dX6_umbrella_0 : decode cX6_umbrella 0 = .ok (.aload_n 0, 1) := by decide +kernel
theorem dX6_umbrella_1 : decode cX6_umbrella 1 = .ok (.getfield 12, 3) := by decide +kernel
theorem dX6_umbrella_4 : decode cX6_umbrella 4 = .ok (.getfield 30, 3) := by decide +kernel
theorem dX6_umbrella_7 : decode cX6_umbrella 7 = .ok (.getfield 158, 3) := by decide +kernel
theorem dX6_umbrella_10 : decode cX6_umbrella 10 = .ok (.astore_n 3, 1) := by decide +kernel
theorem dX6_umbrella_11 : decode cX6_umbrella 11 = .ok (.iload_n 1, 1) := by decide +kernel
theorem dX6_umbrella_12 : decode cX6_umbrella 12 = .ok (.iconst 0, 1) := by decide +kernel
theorem dX6_umbrella_13 : decode cX6_umbrella 13 = .ok (.aload_n 3, 1) := by decide +kernel
theorem dX6_umbrella_14 : decode cX6_umbrella 14 = .ok (.getfield 162, 3) := by decide +kernel
theorem dX6_umbrella_17 : decode cX6_umbrella 17 = .ok (.iconst 1, 1) := by decide +kernel
theorem dX6_umbrella_18 : decode cX6_umbrella 18 = .ok (.isub, 1) := by decide +kernel
theorem dX6_umbrella_19 : decode cX6_umbrella 19 = .ok (.invokestatic 101, 3) := by decide +kernel
theorem dX6_umbrella_22 : decode cX6_umbrella 22 = .ok (.ifCond .eq 5, 3) := by decide +kernel
theorem dX6_umbrella_25 : decode cX6_umbrella 25 = .ok (.iconst (-1), 1) := by decide +kernel
theorem dX6_umbrella_26 : decode cX6_umbrella 26 = .ok (.ireturn, 1) := by decide +kernel
theorem dX6_umbrella_27 : decode cX6_umbrella 27 = .ok (.aload_n 3, 1) := by decide +kernel
theorem dX6_umbrella_28 : decode cX6_umbrella 28 = .ok (.getfield 203, 3) := by decide +kernel
theorem dX6_umbrella_31 : decode cX6_umbrella 31 = .ok (.iload_n 1, 1) := by decide +kernel
theorem dX6_umbrella_32 : decode cX6_umbrella 32 = .ok (.invokevirtual 206, 3) := by decide +kernel
theorem dX6_umbrella_35 : decode cX6_umbrella 35 = .ok (.istore 4, 2) := by decide +kernel
theorem dX6_umbrella_37 : decode cX6_umbrella 37 = .ok (.iload_n 2, 1) := by decide +kernel
theorem dX6_umbrella_38 : decode cX6_umbrella 38 = .ok (.tableswitch 78 0 4 #[34, 40, 46, 55, 69], 34) := by decide +kernel
theorem dX6_umbrella_72 : decode cX6_umbrella 72 = .ok (.iload 4, 2) := by decide +kernel
theorem dX6_umbrella_74 : decode cX6_umbrella 74 = .ok (.invokestatic 209, 3) := by decide +kernel
theorem dX6_umbrella_77 : decode cX6_umbrella 77 = .ok (.ireturn, 1) := by decide +kernel
theorem dX6_umbrella_78 : decode cX6_umbrella 78 = .ok (.iload 4, 2) := by decide +kernel
theorem dX6_umbrella_80 : decode cX6_umbrella 80 = .ok (.invokestatic 212, 3) := by decide +kernel
theorem dX6_umbrella_83 : decode cX6_umbrella 83 = .ok (.ireturn, 1) := by decide +kernel
theorem dX6_umbrella_84 : decode cX6_umbrella 84 = .ok (.aload_n 3, 1) := by decide +kernel
theorem dX6_umbrella_85 : decode cX6_umbrella 85 = .ok (.getfield 215, 3) := by decide +kernel
theorem dX6_umbrella_88 : decode cX6_umbrella 88 = .ok (.iload_n 1, 1) := by decide +kernel
theorem dX6_umbrella_89 : decode cX6_umbrella 89 = .ok (.invokevirtual 206, 3) := by decide +kernel
theorem dX6_umbrella_92 : decode cX6_umbrella 92 = .ok (.ireturn, 1) := by decide +kernel
theorem dX6_umbrella_93 : decode cX6_umbrella 93 = .ok (.aload_n 3, 1) := by decide +kernel
theorem dX6_umbrella_94 : decode cX6_umbrella 94 = .ok (.iload_n 1, 1) := by decide +kernel
theorem dX6_umbrella_95 : decode cX6_umbrella 95 = .ok (.invokevirtual 218, 3) := by decide +kernel
theorem dX6_umbrella_98 : decode cX6_umbrella 98 = .ok (.ifCond .eq 7, 3) := by decide +kernel
theorem dX6_umbrella_101 : decode cX6_umbrella 101 = .ok (.iconst 1, 1) := by decide +kernel
theorem dX6_umbrella_102 : decode cX6_umbrella 102 = .ok (.goto 4, 3) := by decide +kernel
theorem dX6_umbrella_105 : decode cX6_umbrella 105 = .ok (.iconst 0, 1) := by decide +kernel
theorem dX6_umbrella_106 : decode cX6_umbrella 106 = .ok (.ireturn, 1) := by decide +kernel
theorem dX6_umbrella_107 : decode cX6_umbrella 107 = .ok (.aload_n 3, 1) := by decide +kernel
theorem dX6_umbrella_108 : decode cX6_umbrella 108 = .ok (.getfield 221, 3) := by decide +kernel
theorem dX6_umbrella_111 : decode cX6_umbrella 111 = .ok (.iload_n 1, 1) := by decide +kernel
theorem dX6_umbrella_112 : decode cX6_umbrella 112 = .ok (.invokevirtual 206, 3) := by decide +kernel
theorem dX6_umbrella_115 : decode cX6_umbrella 115 = .ok (.ireturn, 1) := by decide +kernel
theorem dX6_umbrella_116 : decode cX6_umbrella 116 = .ok (.iconst (-1), 1) := by decide +kernel
theorem dX6_umbrella_117 : decode cX6_umbrella 117 = .ok (.ireturn, 1) := by decide +kernel
theorem dX6_stand_0 : decode cX6_stand 0 = .ok (.iload_n 1, 1) := by decide +kernel
theorem dX6_stand_1 : decode cX6_stand 1 = .ok (.iconst 0, 1) := by decide +kernel
theorem dX6_stand_2 : decode cX6_stand 2 = .ok (.bipush 7, 2) := by decide +kernel
theorem dX6_stand_4 : decode cX6_stand 4 = .ok (.invokestatic 101, 3) := by decide +kernel
theorem dX6_stand_7 : decode cX6_stand 7 = .ok (.ifCond .eq 5, 3) := by decide +kernel
theorem dX6_stand_10 : decode cX6_stand 10 = .ok (.iconst (-1), 1) := by decide +kernel
theorem dX6_stand_11 : decode cX6_stand 11 = .ok (.ireturn, 1) := by decide +kernel
theorem dX6_stand_12 : decode cX6_stand 12 = .ok (.aload_n 0, 1) := by decide +kernel
theorem dX6_stand_13 : decode cX6_stand 13 = .ok (.getfield 12, 3) := by decide +kernel
theorem dX6_stand_16 : decode cX6_stand 16 = .ok (.getfield 30, 3) := by decide +kernel
theorem dX6_stand_19 : decode cX6_stand 19 = .ok (.getfield 158, 3) := by decide +kernel
theorem dX6_stand_22 : decode cX6_stand 22 = .ok (.astore_n 3, 1) := by decide +kernel
theorem dX6_stand_23 : decode cX6_stand 23 = .ok (.iload_n 2, 1) := by decide +kernel
theorem dX6_stand_24 : decode cX6_stand 24 = .ok (.tableswitch 85 0 5 #[40, 55, 61, 67, 73, 79], 40) := by decide +kernel
theorem dX6_stand_64 : decode cX6_stand 64 = .ok (.aload_n 0, 1) := by decide +kernel
theorem dX6_stand_65 : decode cX6_stand 65 = .ok (.getfield 12, 3) := by decide +kernel
theorem dX6_stand_68 : decode cX6_stand 68 = .ok (.getfield 30, 3) := by decide +kernel
theorem dX6_stand_71 : decode cX6_stand 71 = .ok (.getfield 224, 3) := by decide +kernel
theorem dX6_stand_74 : decode cX6_stand 74 = .ok (.iload_n 1, 1) := by decide +kernel
theorem dX6_stand_75 : decode cX6_stand 75 = .ok (.invokevirtual 206, 3) := by decide +kernel
theorem dX6_stand_78 : decode cX6_stand 78 = .ok (.ireturn, 1) := by decide +kernel
theorem dX6_stand_79 : decode cX6_stand 79 = .ok (.aload_n 3, 1) := by decide +kernel
theorem dX6_stand_80 : decode cX6_stand 80 = .ok (.iload_n 1, 1) := by decide +kernel
theorem dX6_stand_81 : decode cX6_stand 81 = .ok (.invokevirtual 227, 3) := by decide +kernel
theorem dX6_stand_84 : decode cX6_stand 84 = .ok (.ireturn, 1) := by decide +kernel
theorem dX6_stand_85 : decode cX6_stand 85 = .ok (.aload_n 3, 1) := by decide +kernel
theorem dX6_stand_86 : decode cX6_stand 86 = .ok (.iload_n 1, 1) := by decide +kernel
theorem dX6_stand_87 : decode cX6_stand 87 = .ok (.invokevirtual 230, 3) := by decide +kernel
theorem dX6_stand_90 : decode cX6_stand 90 = .ok (.ireturn, 1) := by decide +kernel
theorem dX6_stand_91 : decode cX6_stand 91 = .ok (.aload_n 3, 1) := by decide +kernel
theorem dX6_stand_92 : decode cX6_stand 92 = .ok (.iload_n 1, 1) := by decide +kernel
theorem dX6_stand_93 : decode cX6_stand 93 = .ok (.invokevirtual 233, 3) := by decide +kernel
theorem dX6_stand_96 : decode cX6_stand 96 = .ok (.ireturn, 1) := by decide +kernel
theorem dX6_stand_97 : decode cX6_stand 97 = .ok (.aload_n 3, 1) := by decide +kernel
theorem dX6_stand_98 : decode cX6_stand 98 = .ok (.iload_n 1, 1) := by decide +kernel
theorem dX6_stand_99 : decode cX6_stand 99 = .ok (.invokevirtual 236, 3) := by decide +kernel
theorem dX6_stand_102 : decode cX6_stand 102 = .ok (.ireturn, 1) := by decide +kernel
theorem dX6_stand_103 : decode cX6_stand 103 = .ok (.aload_n 3, 1) := by decide +kernel
theorem dX6_stand_104 : decode cX6_stand 104 = .ok (.iload_n 1, 1) := by decide +kernel
theorem dX6_stand_105 : decode cX6_stand 105 = .ok (.invokevirtual 239, 3) := by decide +kernel
theorem dX6_stand_108 : decode cX6_stand 108 = .ok (.ireturn, 1) := by decide +kernel
theorem dX6_stand_109 : decode cX6_stand 109 = .ok (.iconst (-1), 1) := by decide +kernel
theorem dX6_stand_110 : decode cX6_stand 110 = .ok (.ireturn, 1) := by decide +kernel
theorem dX6_person_0 : decode cX6_person 0 = .ok (.iload_n 1, 1) := by decide +kernel
theorem dX6_person_1 : decode cX6_person 1 = .ok (.iconst 0, 1) := by decide +kernel
theorem dX6_person_2 : decode cX6_person 2 = .ok (.bipush 11, 2) := by decide +kernel
theorem dX6_person_4 : decode cX6_person 4 = .ok (.invokestatic 101, 3) := by decide +kernel
theorem dX6_person_7 : decode cX6_person 7 = .ok (.ifCond .eq 5, 3) := by decide +kernel
theorem dX6_person_10 : decode cX6_person 10 = .ok (.iconst (-1), 1) := by decide +kernel
theorem dX6_person_11 : decode cX6_person 11 = .ok (.ireturn, 1) := by decide +kernel
theorem dX6_person_12 : decode cX6_person 12 = .ok (.aload_n 0, 1) := by decide +kernel
theorem dX6_person_13 : decode cX6_person 13 = .ok (.getfield 12, 3) := by decide +kernel
theorem dX6_person_16 : decode cX6_person 16 = .ok (.getfield 30, 3) := by decide +kernel
theorem dX6_person_19 : decode cX6_person 19 = .ok (.astore_n 3, 1) := by decide +kernel
theorem dX6_person_20 : decode cX6_person 20 = .ok (.aload_n 3, 1) := by decide +kernel
theorem dX6_person_21 : decode cX6_person 21 = .ok (.iload_n 1, 1) := by decide +kernel
theorem dX6_person_22 : decode cX6_person 22 = .ok (.invokevirtual 242, 3) := by decide +kernel
theorem dX6_person_25 : decode cX6_person 25 = .ok (.istore 4, 2) := by decide +kernel
theorem dX6_person_27 : decode cX6_person 27 = .ok (.iload_n 2, 1) := by decide +kernel
theorem dX6_person_28 : decode cX6_person 28 = .ok (.tableswitch 104 0 5 #[40, 49, 52, 61, 86, 95], 40) := by decide +kernel
theorem dX6_person_68 : decode cX6_person 68 = .ok (.aload_n 3, 1) := by decide +kernel
theorem dX6_person_69 : decode cX6_person 69 = .ok (.getfield 176, 3) := by decide +kernel
theorem dX6_person_72 : decode cX6_person 72 = .ok (.iload_n 1, 1) := by decide +kernel
theorem dX6_person_73 : decode cX6_person 73 = .ok (.invokevirtual 206, 3) := by decide +kernel
theorem dX6_person_76 : decode cX6_person 76 = .ok (.ireturn, 1) := by decide +kernel
theorem dX6_person_77 : decode cX6_person 77 = .ok (.iload 4, 2) := by decide +kernel
theorem dX6_person_79 : decode cX6_person 79 = .ok (.ireturn, 1) := by decide +kernel
theorem dX6_person_80 : decode cX6_person 80 = .ok (.aload_n 3, 1) := by decide +kernel
theorem dX6_person_81 : decode cX6_person 81 = .ok (.getfield 245, 3) := by decide +kernel
theorem dX6_person_84 : decode cX6_person 84 = .ok (.iload_n 1, 1) := by decide +kernel
theorem dX6_person_85 : decode cX6_person 85 = .ok (.invokevirtual 206, 3) := by decide +kernel
theorem dX6_person_88 : decode cX6_person 88 = .ok (.ireturn, 1) := by decide +kernel
theorem dX6_person_89 : decode cX6_person 89 = .ok (.iload 4, 2) := by decide +kernel
theorem dX6_person_91 : decode cX6_person 91 = .ok (.bipush (-9), 2) := by decide +kernel
theorem dX6_person_93 : decode cX6_person 93 = .ok (.if_icmp .eq 19, 3) := by decide +kernel
theorem dX6_person_96 : decode cX6_person 96 = .ok (.aload_n 3, 1) := by decide +kernel
theorem dX6_person_97 : decode cX6_person 97 = .ok (.getfield 158, 3) := by decide +kernel
theorem dX6_person_100 : decode cX6_person 100 = .ok (.iload 4, 2) := by decide +kernel
theorem dX6_person_102 : decode cX6_person 102 = .ok (.invokevirtual 218, 3) := by decide +kernel
theorem dX6_person_105 : decode cX6_person 105 = .ok (.ifCond .eq 7, 3) := by decide +kernel
theorem dX6_person_108 : decode cX6_person 108 = .ok (.iconst 1, 1) := by decide +kernel
theorem dX6_person_109 : decode cX6_person 109 = .ok (.goto 4, 3) := by decide +kernel
theorem dX6_person_112 : decode cX6_person 112 = .ok (.iconst 0, 1) := by decide +kernel
theorem dX6_person_113 : decode cX6_person 113 = .ok (.ireturn, 1) := by decide +kernel
theorem dX6_person_114 : decode cX6_person 114 = .ok (.aload_n 3, 1) := by decide +kernel
theorem dX6_person_115 : decode cX6_person 115 = .ok (.getfield 248, 3) := by decide +kernel
theorem dX6_person_118 : decode cX6_person 118 = .ok (.iload_n 1, 1) := by decide +kernel
theorem dX6_person_119 : decode cX6_person 119 = .ok (.invokevirtual 206, 3) := by decide +kernel
theorem dX6_person_122 : decode cX6_person 122 = .ok (.ireturn, 1) := by decide +kernel
theorem dX6_person_123 : decode cX6_person 123 = .ok (.aload_n 3, 1) := by decide +kernel
theorem dX6_person_124 : decode cX6_person 124 = .ok (.getfield 188, 3) := by decide +kernel
theorem dX6_person_127 : decode cX6_person 127 = .ok (.iload_n 1, 1) := by decide +kernel
theorem dX6_person_128 : decode cX6_person 128 = .ok (.invokevirtual 206, 3) := by decide +kernel
theorem dX6_person_131 : decode cX6_person 131 = .ok (.ireturn, 1) := by decide +kernel
theorem dX6_person_132 : decode cX6_person 132 = .ok (.iconst (-1), 1) := by decide +kernel
theorem dX6_person_133 : decode cX6_person 133 = .ok (.ireturn, 1) := by decide +kernel
theorem dX6_inVan_0 : decode cX6_inVan 0 = .ok (.iload_n 1, 1) := by decide +kernel
theorem dX6_inVan_1 : decode cX6_inVan 1 = .ok (.iconst 0, 1) := by decide +kernel
theorem dX6_inVan_2 : decode cX6_inVan 2 = .ok (.iconst 1, 1) := by decide +kernel
theorem dX6_inVan_3 : decode cX6_inVan 3 = .ok (.invokestatic 101, 3) := by decide +kernel
theorem dX6_inVan_6 : decode cX6_inVan 6 = .ok (.ifCond .ne 7, 3) := by decide +kernel
theorem dX6_inVan_9 : decode cX6_inVan 9 = .ok (.iload_n 2, 1) := by decide +kernel
theorem dX6_inVan_10 : decode cX6_inVan 10 = .ok (.ifCond .ge 5, 3) := by decide +kernel
theorem dX6_inVan_13 : decode cX6_inVan 13 = .ok (.iconst (-1), 1) := by decide +kernel
theorem dX6_inVan_14 : decode cX6_inVan 14 = .ok (.ireturn, 1) := by decide +kernel
theorem dX6_inVan_15 : decode cX6_inVan 15 = .ok (.aload_n 0, 1) := by decide +kernel
theorem dX6_inVan_16 : decode cX6_inVan 16 = .ok (.getfield 12, 3) := by decide +kernel
theorem dX6_inVan_19 : decode cX6_inVan 19 = .ok (.getfield 30, 3) := by decide +kernel
theorem dX6_inVan_22 : decode cX6_inVan 22 = .ok (.getfield 158, 3) := by decide +kernel
theorem dX6_inVan_25 : decode cX6_inVan 25 = .ok (.bipush 20, 2) := by decide +kernel
theorem dX6_inVan_27 : decode cX6_inVan 27 = .ok (.iload_n 1, 1) := by decide +kernel
theorem dX6_inVan_28 : decode cX6_inVan 28 = .ok (.iadd, 1) := by decide +kernel
theorem dX6_inVan_29 : decode cX6_inVan 29 = .ok (.iload_n 2, 1) := by decide +kernel
theorem dX6_inVan_30 : decode cX6_inVan 30 = .ok (.invokevirtual 251, 3) := by decide +kernel
theorem dX6_inVan_33 : decode cX6_inVan 33 = .ok (.ireturn, 1) := by decide +kernel
theorem dX6_feeIn_0 : decode cX6_feeIn 0 = .ok (.iload_n 1, 1) := by decide +kernel
theorem dX6_feeIn_1 : decode cX6_feeIn 1 = .ok (.iconst 0, 1) := by decide +kernel
theorem dX6_feeIn_2 : decode cX6_feeIn 2 = .ok (.bipush 11, 2) := by decide +kernel
theorem dX6_feeIn_4 : decode cX6_feeIn 4 = .ok (.invokestatic 101, 3) := by decide +kernel
theorem dX6_feeIn_7 : decode cX6_feeIn 7 = .ok (.ifCond .ne 23, 3) := by decide +kernel
theorem dX6_feeIn_10 : decode cX6_feeIn 10 = .ok (.iload_n 2, 1) := by decide +kernel
theorem dX6_feeIn_11 : decode cX6_feeIn 11 = .ok (.iconst 0, 1) := by decide +kernel
theorem dX6_feeIn_12 : decode cX6_feeIn 12 = .ok (.bipush 50, 2) := by decide +kernel
theorem dX6_feeIn_14 : decode cX6_feeIn 14 = .ok (.invokestatic 101, 3) := by decide +kernel
theorem dX6_feeIn_17 : decode cX6_feeIn 17 = .ok (.ifCond .ne 13, 3) := by decide +kernel
theorem dX6_feeIn_20 : decode cX6_feeIn 20 = .ok (.iload_n 3, 1) := by decide +kernel
theorem dX6_feeIn_21 : decode cX6_feeIn 21 = .ok (.iconst 0, 1) := by decide +kernel
theorem dX6_feeIn_22 : decode cX6_feeIn 22 = .ok (.bipush 9, 2) := by decide +kernel
theorem dX6_feeIn_24 : decode cX6_feeIn 24 = .ok (.invokestatic 101, 3) := by decide +kernel
theorem dX6_feeIn_27 : decode cX6_feeIn 27 = .ok (.ifCond .eq 5, 3) := by decide +kernel
theorem dX6_feeIn_30 : decode cX6_feeIn 30 = .ok (.iconst (-1), 1) := by decide +kernel
theorem dX6_feeIn_31 : decode cX6_feeIn 31 = .ok (.ireturn, 1) := by decide +kernel
theorem dX6_feeIn_32 : decode cX6_feeIn 32 = .ok (.aload_n 0, 1) := by decide +kernel
theorem dX6_feeIn_33 : decode cX6_feeIn 33 = .ok (.getfield 12, 3) := by decide +kernel
theorem dX6_feeIn_36 : decode cX6_feeIn 36 = .ok (.getfield 30, 3) := by decide +kernel
theorem dX6_feeIn_39 : decode cX6_feeIn 39 = .ok (.iload_n 1, 1) := by decide +kernel
theorem dX6_feeIn_40 : decode cX6_feeIn 40 = .ok (.invokevirtual 254, 3) := by decide +kernel
theorem dX6_feeIn_43 : decode cX6_feeIn 43 = .ok (.ifCond .ne 6, 3) := by decide +kernel
theorem dX6_feeIn_46 : decode cX6_feeIn 46 = .ok (.bipush (-2), 2) := by decide +kernel
theorem dX6_feeIn_48 : decode cX6_feeIn 48 = .ok (.ireturn, 1) := by decide +kernel
theorem dX6_feeIn_49 : decode cX6_feeIn 49 = .ok (.aload_n 0, 1) := by decide +kernel
theorem dX6_feeIn_50 : decode cX6_feeIn 50 = .ok (.getfield 12, 3) := by decide +kernel
theorem dX6_feeIn_53 : decode cX6_feeIn 53 = .ok (.getfield 30, 3) := by decide +kernel
theorem dX6_feeIn_56 : decode cX6_feeIn 56 = .ok (.iload_n 1, 1) := by decide +kernel
theorem dX6_feeIn_57 : decode cX6_feeIn 57 = .ok (.iload_n 2, 1) := by decide +kernel
theorem dX6_feeIn_58 : decode cX6_feeIn 58 = .ok (.iload_n 3, 1) := by decide +kernel
theorem dX6_feeIn_59 : decode cX6_feeIn 59 = .ok (.invokevirtual 257, 3) := by decide +kernel
theorem dX6_feeIn_62 : decode cX6_feeIn 62 = .ok (.ireturn, 1) := by decide +kernel
theorem dX6_breaksIn_0 : decode cX6_breaksIn 0 = .ok (.iload_n 1, 1) := by decide +kernel
theorem dX6_breaksIn_1 : decode cX6_breaksIn 1 = .ok (.iconst 0, 1) := by decide +kernel
theorem dX6_breaksIn_2 : decode cX6_breaksIn 2 = .ok (.bipush 11, 2) := by decide +kernel
theorem dX6_breaksIn_4 : decode cX6_breaksIn 4 = .ok (.invokestatic 101, 3) := by decide +kernel
theorem dX6_breaksIn_7 : decode cX6_breaksIn 7 = .ok (.ifCond .ne 22, 3) := by decide +kernel
theorem dX6_breaksIn_10 : decode cX6_breaksIn 10 = .ok (.iload_n 2, 1) := by decide +kernel
theorem dX6_breaksIn_11 : decode cX6_breaksIn 11 = .ok (.iconst 0, 1) := by decide +kernel
theorem dX6_breaksIn_12 : decode cX6_breaksIn 12 = .ok (.bipush 9, 2) := by decide +kernel
theorem dX6_breaksIn_14 : decode cX6_breaksIn 14 = .ok (.invokestatic 101, 3) := by decide +kernel
theorem dX6_breaksIn_17 : decode cX6_breaksIn 17 = .ok (.ifCond .ne 12, 3) := by decide +kernel
theorem dX6_breaksIn_20 : decode cX6_breaksIn 20 = .ok (.iload_n 3, 1) := by decide +kernel
theorem dX6_breaksIn_21 : decode cX6_breaksIn 21 = .ok (.iconst 0, 1) := by decide +kernel
theorem dX6_breaksIn_22 : decode cX6_breaksIn 22 = .ok (.iconst 3, 1) := by decide +kernel
theorem dX6_breaksIn_23 : decode cX6_breaksIn 23 = .ok (.invokestatic 101, 3) := by decide +kernel
theorem dX6_breaksIn_26 : decode cX6_breaksIn 26 = .ok (.ifCond .eq 5, 3) := by decide +kernel
theorem dX6_breaksIn_29 : decode cX6_breaksIn 29 = .ok (.iconst (-1), 1) := by decide +kernel
theorem dX6_breaksIn_30 : decode cX6_breaksIn 30 = .ok (.ireturn, 1) := by decide +kernel
theorem dX6_breaksIn_31 : decode cX6_breaksIn 31 = .ok (.aload_n 0, 1) := by decide +kernel
theorem dX6_breaksIn_32 : decode cX6_breaksIn 32 = .ok (.getfield 12, 3) := by decide +kernel
theorem dX6_breaksIn_35 : decode cX6_breaksIn 35 = .ok (.getfield 30, 3) := by decide +kernel
theorem dX6_breaksIn_38 : decode cX6_breaksIn 38 = .ok (.iload_n 1, 1) := by decide +kernel
theorem dX6_breaksIn_39 : decode cX6_breaksIn 39 = .ok (.invokevirtual 254, 3) := by decide +kernel
theorem dX6_breaksIn_42 : decode cX6_breaksIn 42 = .ok (.ifCond .ne 6, 3) := by decide +kernel
theorem dX6_breaksIn_45 : decode cX6_breaksIn 45 = .ok (.bipush (-2), 2) := by decide +kernel
theorem dX6_breaksIn_47 : decode cX6_breaksIn 47 = .ok (.ireturn, 1) := by decide +kernel
theorem dX6_breaksIn_48 : decode cX6_breaksIn 48 = .ok (.aload_n 0, 1) := by decide +kernel
theorem dX6_breaksIn_49 : decode cX6_breaksIn 49 = .ok (.getfield 12, 3) := by decide +kernel
theorem dX6_breaksIn_52 : decode cX6_breaksIn 52 = .ok (.getfield 30, 3) := by decide +kernel
theorem dX6_breaksIn_55 : decode cX6_breaksIn 55 = .ok (.iload_n 1, 1) := by decide +kernel
theorem dX6_breaksIn_56 : decode cX6_breaksIn 56 = .ok (.iload_n 2, 1) := by decide +kernel
theorem dX6_breaksIn_57 : decode cX6_breaksIn 57 = .ok (.iload_n 3, 1) := by decide +kernel
theorem dX6_breaksIn_58 : decode cX6_breaksIn 58 = .ok (.invokevirtual 260, 3) := by decide +kernel
theorem dX6_breaksIn_61 : decode cX6_breaksIn 61 = .ok (.ireturn, 1) := by decide +kernel
theorem dX6_emptied_0 : decode cX6_emptied 0 = .ok (.iconst 0, 1) := by decide +kernel
theorem dX6_emptied_1 : decode cX6_emptied 1 = .ok (.istore_n 1, 1) := by decide +kernel
theorem dX6_emptied_2 : decode cX6_emptied 2 = .ok (.iconst 0, 1) := by decide +kernel
theorem dX6_emptied_3 : decode cX6_emptied 3 = .ok (.istore_n 2, 1) := by decide +kernel
theorem dX6_emptied_4 : decode cX6_emptied 4 = .ok (.iload_n 2, 1) := by decide +kernel
theorem dX6_emptied_5 : decode cX6_emptied 5 = .ok (.bipush 8, 2) := by decide +kernel
theorem dX6_emptied_7 : decode cX6_emptied 7 = .ok (.if_icmp .ge 29, 3) := by decide +kernel
theorem dX6_emptied_10 : decode cX6_emptied 10 = .ok (.aload_n 0, 1) := by decide +kernel
theorem dX6_emptied_11 : decode cX6_emptied 11 = .ok (.getfield 12, 3) := by decide +kernel
theorem dX6_emptied_14 : decode cX6_emptied 14 = .ok (.getfield 30, 3) := by decide +kernel
theorem dX6_emptied_17 : decode cX6_emptied 17 = .ok (.iload_n 2, 1) := by decide +kernel
theorem dX6_emptied_18 : decode cX6_emptied 18 = .ok (.invokevirtual 263, 3) := by decide +kernel
theorem dX6_emptied_21 : decode cX6_emptied 21 = .ok (.ifCond .lt 9, 3) := by decide +kernel
theorem dX6_emptied_24 : decode cX6_emptied 24 = .ok (.iload_n 1, 1) := by decide +kernel
theorem dX6_emptied_25 : decode cX6_emptied 25 = .ok (.iconst 1, 1) := by decide +kernel
theorem dX6_emptied_26 : decode cX6_emptied 26 = .ok (.iload_n 2, 1) := by decide +kernel
theorem dX6_emptied_27 : decode cX6_emptied 27 = .ok (.ishl, 1) := by decide +kernel
theorem dX6_emptied_28 : decode cX6_emptied 28 = .ok (.ior, 1) := by decide +kernel
theorem dX6_emptied_29 : decode cX6_emptied 29 = .ok (.istore_n 1, 1) := by decide +kernel
theorem dX6_emptied_30 : decode cX6_emptied 30 = .ok (.iinc 2 1, 3) := by decide +kernel
theorem dX6_emptied_33 : decode cX6_emptied 33 = .ok (.goto (-29), 3) := by decide +kernel
theorem dX6_emptied_36 : decode cX6_emptied 36 = .ok (.iload_n 1, 1) := by decide +kernel
theorem dX6_emptied_37 : decode cX6_emptied 37 = .ok (.ireturn, 1) := by decide +kernel
theorem dX6_shortest_0 : decode cX6_shortest 0 = .ok (.iload_n 1, 1) := by decide +kernel
theorem dX6_shortest_1 : decode cX6_shortest 1 = .ok (.iconst 0, 1) := by decide +kernel
theorem dX6_shortest_2 : decode cX6_shortest 2 = .ok (.iconst 1, 1) := by decide +kernel
theorem dX6_shortest_3 : decode cX6_shortest 3 = .ok (.invokestatic 101, 3) := by decide +kernel
theorem dX6_shortest_6 : decode cX6_shortest 6 = .ok (.ifCond .eq 5, 3) := by decide +kernel
theorem dX6_shortest_9 : decode cX6_shortest 9 = .ok (.iconst (-1), 1) := by decide +kernel
theorem dX6_shortest_10 : decode cX6_shortest 10 = .ok (.ireturn, 1) := by decide +kernel
theorem dX6_shortest_11 : decode cX6_shortest 11 = .ok (.bipush (-9), 2) := by decide +kernel
theorem dX6_shortest_13 : decode cX6_shortest 13 = .ok (.istore_n 2, 1) := by decide +kernel
theorem dX6_shortest_14 : decode cX6_shortest 14 = .ok (.bipush (-9), 2) := by decide +kernel
theorem dX6_shortest_16 : decode cX6_shortest 16 = .ok (.istore_n 3, 1) := by decide +kernel
theorem dX6_shortest_17 : decode cX6_shortest 17 = .ok (.iconst 0, 1) := by decide +kernel
theorem dX6_shortest_18 : decode cX6_shortest 18 = .ok (.istore 4, 2) := by decide +kernel
theorem dX6_shortest_20 : decode cX6_shortest 20 = .ok (.iload 4, 2) := by decide +kernel
theorem dX6_shortest_22 : decode cX6_shortest 22 = .ok (.bipush 8, 2) := by decide +kernel
theorem dX6_shortest_24 : decode cX6_shortest 24 = .ok (.if_icmp .ge 46, 3) := by decide +kernel
theorem dX6_shortest_27 : decode cX6_shortest 27 = .ok (.aload_n 0, 1) := by decide +kernel
theorem dX6_shortest_28 : decode cX6_shortest 28 = .ok (.getfield 12, 3) := by decide +kernel
theorem dX6_shortest_31 : decode cX6_shortest 31 = .ok (.getfield 30, 3) := by decide +kernel
theorem dX6_shortest_34 : decode cX6_shortest 34 = .ok (.iload 4, 2) := by decide +kernel
theorem dX6_shortest_36 : decode cX6_shortest 36 = .ok (.invokevirtual 263, 3) := by decide +kernel
theorem dX6_shortest_39 : decode cX6_shortest 39 = .ok (.istore 5, 2) := by decide +kernel
theorem dX6_shortest_41 : decode cX6_shortest 41 = .ok (.iload 5, 2) := by decide +kernel
theorem dX6_shortest_43 : decode cX6_shortest 43 = .ok (.ifCond .le 21, 3) := by decide +kernel
theorem dX6_shortest_46 : decode cX6_shortest 46 = .ok (.iload_n 2, 1) := by decide +kernel
theorem dX6_shortest_47 : decode cX6_shortest 47 = .ok (.bipush (-9), 2) := by decide +kernel
theorem dX6_shortest_49 : decode cX6_shortest 49 = .ok (.if_icmp .eq 9, 3) := by decide +kernel
theorem dX6_shortest_52 : decode cX6_shortest 52 = .ok (.iload 5, 2) := by decide +kernel
theorem dX6_shortest_54 : decode cX6_shortest 54 = .ok (.iload_n 3, 1) := by decide +kernel
theorem dX6_shortest_55 : decode cX6_shortest 55 = .ok (.if_icmp .ge 9, 3) := by decide +kernel
theorem dX6_shortest_58 : decode cX6_shortest 58 = .ok (.iload 4, 2) := by decide +kernel
theorem dX6_shortest_60 : decode cX6_shortest 60 = .ok (.istore_n 2, 1) := by decide +kernel
theorem dX6_shortest_61 : decode cX6_shortest 61 = .ok (.iload 5, 2) := by decide +kernel
theorem dX6_shortest_63 : decode cX6_shortest 63 = .ok (.istore_n 3, 1) := by decide +kernel
theorem dX6_shortest_64 : decode cX6_shortest 64 = .ok (.iinc 4 1, 3) := by decide +kernel
theorem dX6_shortest_67 : decode cX6_shortest 67 = .ok (.goto (-47), 3) := by decide +kernel
theorem dX6_shortest_70 : decode cX6_shortest 70 = .ok (.iload_n 1, 1) := by decide +kernel
theorem dX6_shortest_71 : decode cX6_shortest 71 = .ok (.ifCond .ne 7, 3) := by decide +kernel
theorem dX6_shortest_74 : decode cX6_shortest 74 = .ok (.iload_n 2, 1) := by decide +kernel
theorem dX6_shortest_75 : decode cX6_shortest 75 = .ok (.goto 4, 3) := by decide +kernel
theorem dX6_shortest_78 : decode cX6_shortest 78 = .ok (.iload_n 3, 1) := by decide +kernel
theorem dX6_shortest_79 : decode cX6_shortest 79 = .ok (.ireturn, 1) := by decide +kernel
theorem dX6_outside_0 : decode cX6_outside 0 = .ok (.iload_n 0, 1) := by decide +kernel
theorem dX6_outside_1 : decode cX6_outside 1 = .ok (.iload_n 1, 1) := by decide +kernel
theorem dX6_outside_2 : decode cX6_outside 2 = .ok (.if_icmp .lt 8, 3) := by decide +kernel
theorem dX6_outside_5 : decode cX6_outside 5 = .ok (.iload_n 0, 1) := by decide +kernel
theorem dX6_outside_6 : decode cX6_outside 6 = .ok (.iload_n 2, 1) := by decide +kernel
theorem dX6_outside_7 : decode cX6_outside 7 = .ok (.if_icmp .le 7, 3) := by decide +kernel
theorem dX6_outside_10 : decode cX6_outside 10 = .ok (.iconst 1, 1) := by decide +kernel
theorem dX6_outside_11 : decode cX6_outside 11 = .ok (.goto 4, 3) := by decide +kernel
theorem dX6_outside_14 : decode cX6_outside 14 = .ok (.iconst 0, 1) := by decide +kernel
theorem dX6_outside_15 : decode cX6_outside 15 = .ok (.ireturn, 1) := by decide +kernel
theorem dX6_kindOf_0 : decode cX6_kindOf 0 = .ok (.iload_n 0, 1) := by decide +kernel
theorem dX6_kindOf_1 : decode cX6_kindOf 1 = .ok (.bipush 8, 2) := by decide +kernel
theorem dX6_kindOf_3 : decode cX6_kindOf 3 = .ok (.if_icmp .ge 5, 3) := by decide +kernel
theorem dX6_kindOf_6 : decode cX6_kindOf 6 = .ok (.iconst 0, 1) := by decide +kernel
theorem dX6_kindOf_7 : decode cX6_kindOf 7 = .ok (.ireturn, 1) := by decide +kernel
theorem dX6_kindOf_8 : decode cX6_kindOf 8 = .ok (.iload_n 0, 1) := by decide +kernel
theorem dX6_kindOf_9 : decode cX6_kindOf 9 = .ok (.bipush 20, 2) := by decide +kernel
theorem dX6_kindOf_11 : decode cX6_kindOf 11 = .ok (.if_icmp .ge 5, 3) := by decide +kernel
theorem dX6_kindOf_14 : decode cX6_kindOf 14 = .ok (.iconst 1, 1) := by decide +kernel
theorem dX6_kindOf_15 : decode cX6_kindOf 15 = .ok (.ireturn, 1) := by decide +kernel
theorem dX6_kindOf_16 : decode cX6_kindOf 16 = .ok (.iload_n 0, 1) := by decide +kernel
theorem dX6_kindOf_17 : decode cX6_kindOf 17 = .ok (.bipush 22, 2) := by decide +kernel
theorem dX6_kindOf_19 : decode cX6_kindOf 19 = .ok (.if_icmp .ge 5, 3) := by decide +kernel
theorem dX6_kindOf_22 : decode cX6_kindOf 22 = .ok (.iconst 2, 1) := by decide +kernel
theorem dX6_kindOf_23 : decode cX6_kindOf 23 = .ok (.ireturn, 1) := by decide +kernel
theorem dX6_kindOf_24 : decode cX6_kindOf 24 = .ok (.iload_n 0, 1) := by decide +kernel
theorem dX6_kindOf_25 : decode cX6_kindOf 25 = .ok (.bipush 22, 2) := by decide +kernel
theorem dX6_kindOf_27 : decode cX6_kindOf 27 = .ok (.if_icmp .ne 7, 3) := by decide +kernel
theorem dX6_kindOf_30 : decode cX6_kindOf 30 = .ok (.iconst 3, 1) := by decide +kernel
theorem dX6_kindOf_31 : decode cX6_kindOf 31 = .ok (.goto 4, 3) := by decide +kernel
theorem dX6_kindOf_34 : decode cX6_kindOf 34 = .ok (.iconst 4, 1) := by decide +kernel
theorem dX6_kindOf_35 : decode cX6_kindOf 35 = .ok (.ireturn, 1) := by decide +kernel
theorem dX6_ownerOf_0 : decode cX6_ownerOf 0 = .ok (.iload_n 0, 1) := by decide +kernel
theorem dX6_ownerOf_1 : decode cX6_ownerOf 1 = .ok (.invokestatic 209, 3) := by decide +kernel
theorem dX6_ownerOf_4 : decode cX6_ownerOf 4 = .ok (.tableswitch 40 0 2 #[28, 30, 35], 28) := by decide +kernel
theorem dX6_ownerOf_32 : decode cX6_ownerOf 32 = .ok (.iload_n 0, 1) := by decide +kernel
theorem dX6_ownerOf_33 : decode cX6_ownerOf 33 = .ok (.ireturn, 1) := by decide +kernel
theorem dX6_ownerOf_34 : decode cX6_ownerOf 34 = .ok (.iload_n 0, 1) := by decide +kernel
theorem dX6_ownerOf_35 : decode cX6_ownerOf 35 = .ok (.bipush 8, 2) := by decide +kernel
theorem dX6_ownerOf_37 : decode cX6_ownerOf 37 = .ok (.isub, 1) := by decide +kernel
theorem dX6_ownerOf_38 : decode cX6_ownerOf 38 = .ok (.ireturn, 1) := by decide +kernel
theorem dX6_ownerOf_39 : decode cX6_ownerOf 39 = .ok (.iload_n 0, 1) := by decide +kernel
theorem dX6_ownerOf_40 : decode cX6_ownerOf 40 = .ok (.bipush 20, 2) := by decide +kernel
theorem dX6_ownerOf_42 : decode cX6_ownerOf 42 = .ok (.isub, 1) := by decide +kernel
theorem dX6_ownerOf_43 : decode cX6_ownerOf 43 = .ok (.ireturn, 1) := by decide +kernel
theorem dX6_ownerOf_44 : decode cX6_ownerOf 44 = .ok (.bipush (-9), 2) := by decide +kernel
theorem dX6_ownerOf_46 : decode cX6_ownerOf 46 = .ok (.ireturn, 1) := by decide +kernel
theorem dX6_wornBy_0 : decode cX6_wornBy 0 = .ok (.iload_n 0, 1) := by decide +kernel
theorem dX6_wornBy_1 : decode cX6_wornBy 1 = .ok (.bipush 16, 2) := by decide +kernel
theorem dX6_wornBy_3 : decode cX6_wornBy 3 = .ok (.if_icmp .ge 7, 3) := by decide +kernel
theorem dX6_wornBy_6 : decode cX6_wornBy 6 = .ok (.iload_n 1, 1) := by decide +kernel
theorem dX6_wornBy_7 : decode cX6_wornBy 7 = .ok (.goto 6, 3) := by decide +kernel
theorem dX6_wornBy_10 : decode cX6_wornBy 10 = .ok (.iconst 2, 1) := by decide +kernel
theorem dX6_wornBy_11 : decode cX6_wornBy 11 = .ok (.iload_n 1, 1) := by decide +kernel
theorem dX6_wornBy_12 : decode cX6_wornBy 12 = .ok (.imul, 1) := by decide +kernel
theorem dX6_wornBy_13 : decode cX6_wornBy 13 = .ok (.istore_n 3, 1) := by decide +kernel
theorem dX6_wornBy_14 : decode cX6_wornBy 14 = .ok (.bipush 64, 2) := by decide +kernel
theorem dX6_wornBy_16 : decode cX6_wornBy 16 = .ok (.iload_n 0, 1) := by decide +kernel
theorem dX6_wornBy_17 : decode cX6_wornBy 17 = .ok (.iload_n 3, 1) := by decide +kernel
theorem dX6_wornBy_18 : decode cX6_wornBy 18 = .ok (.iadd, 1) := by decide +kernel
theorem dX6_wornBy_19 : decode cX6_wornBy 19 = .ok (.iconst 2, 1) := by decide +kernel
theorem dX6_wornBy_20 : decode cX6_wornBy 20 = .ok (.iload_n 2, 1) := by decide +kernel
theorem dX6_wornBy_21 : decode cX6_wornBy 21 = .ok (.imul, 1) := by decide +kernel
theorem dX6_wornBy_22 : decode cX6_wornBy 22 = .ok (.iadd, 1) := by decide +kernel
theorem dX6_wornBy_23 : decode cX6_wornBy 23 = .ok (.invokestatic 266, 3) := by decide +kernel
theorem dX6_wornBy_26 : decode cX6_wornBy 26 = .ok (.ireturn, 1) := by decide +kernel
theorem dJ7_fill_53178_0 : decode cJ7_fill_53178 0 = .ok (.iconst 0, 1) := by decide +kernel
theorem dJ7_fill_53178_1 : decode cJ7_fill_53178 1 = .ok (.istore_n 2, 1) := by decide +kernel
theorem dJ7_fill_53178_2 : decode cJ7_fill_53178 2 = .ok (.aload_n 0, 1) := by decide +kernel
theorem dJ7_fill_53178_3 : decode cJ7_fill_53178 3 = .ok (.arraylength, 1) := by decide +kernel
theorem dJ7_fill_53178_4 : decode cJ7_fill_53178 4 = .ok (.istore_n 3, 1) := by decide +kernel
theorem dJ7_fill_53178_5 : decode cJ7_fill_53178 5 = .ok (.iload_n 2, 1) := by decide +kernel
theorem dJ7_fill_53178_6 : decode cJ7_fill_53178 6 = .ok (.iload_n 3, 1) := by decide +kernel
theorem dJ7_fill_53178_7 : decode cJ7_fill_53178 7 = .ok (.if_icmp .ge 13, 3) := by decide +kernel
theorem dJ7_fill_53178_10 : decode cJ7_fill_53178 10 = .ok (.aload_n 0, 1) := by decide +kernel
theorem dJ7_fill_53178_11 : decode cJ7_fill_53178 11 = .ok (.iload_n 2, 1) := by decide +kernel
theorem dJ7_fill_53178_12 : decode cJ7_fill_53178 12 = .ok (.iload_n 1, 1) := by decide +kernel
theorem dJ7_fill_53178_13 : decode cJ7_fill_53178 13 = .ok (.iastore, 1) := by decide +kernel
theorem dJ7_fill_53178_14 : decode cJ7_fill_53178 14 = .ok (.iinc 2 1, 3) := by decide +kernel
theorem dJ7_fill_53178_17 : decode cJ7_fill_53178 17 = .ok (.goto (-12), 3) := by decide +kernel
theorem dJ7_fill_53178_20 : decode cJ7_fill_53178 20 = .ok (.return_, 1) := by decide +kernel
end
section
theorem dX7_init_0 : decode cX7_init 0 = .ok (.aload_n 0, 1) := by decide +kernel
theorem dX7_init_1 : decode cX7_init 1 = .ok (.invokespecial 1, 3) := by decide +kernel
theorem dX7_init_4 : decode cX7_init 4 = .ok (.aload_n 0, 1) := by decide +kernel
theorem dX7_init_5 : decode cX7_init 5 = .ok (.sipush 986, 3) := by decide +kernel
theorem dX7_init_8 : decode cX7_init 8 = .ok (.newarray .int, 2) := by decide +kernel
theorem dX7_init_10 : decode cX7_init 10 = .ok (.putfield 7, 3) := by decide +kernel
theorem dX7_init_13 : decode cX7_init 13 = .ok (.aload_n 0, 1) := by decide +kernel
theorem dX7_init_14 : decode cX7_init 14 = .ok (.sipush 4930, 3) := by decide +kernel
theorem dX7_init_17 : decode cX7_init 17 = .ok (.newarray .int, 2) := by decide +kernel
theorem dX7_init_19 : decode cX7_init 19 = .ok (.putfield 13, 3) := by decide +kernel
theorem dX7_init_22 : decode cX7_init 22 = .ok (.aload_n 0, 1) := by decide +kernel
theorem dX7_init_23 : decode cX7_init 23 = .ok (.sipush 328, 3) := by decide +kernel
theorem dX7_init_26 : decode cX7_init 26 = .ok (.newarray .int, 2) := by decide +kernel
theorem dX7_init_28 : decode cX7_init 28 = .ok (.putfield 16, 3) := by decide +kernel
theorem dX7_init_31 : decode cX7_init 31 = .ok (.aload_n 0, 1) := by decide +kernel
theorem dX7_init_32 : decode cX7_init 32 = .ok (.bipush 80, 2) := by decide +kernel
theorem dX7_init_34 : decode cX7_init 34 = .ok (.newarray .int, 2) := by decide +kernel
theorem dX7_init_36 : decode cX7_init 36 = .ok (.putfield 19, 3) := by decide +kernel
theorem dX7_init_39 : decode cX7_init 39 = .ok (.iconst 0, 1) := by decide +kernel
theorem dX7_init_40 : decode cX7_init 40 = .ok (.istore_n 1, 1) := by decide +kernel
theorem dX7_init_41 : decode cX7_init 41 = .ok (.iload_n 1, 1) := by decide +kernel
theorem dX7_init_42 : decode cX7_init 42 = .ok (.bipush 8, 2) := by decide +kernel
theorem dX7_init_44 : decode cX7_init 44 = .ok (.if_icmp .ge 21, 3) := by decide +kernel
theorem dX7_init_47 : decode cX7_init 47 = .ok (.aload_n 0, 1) := by decide +kernel
theorem dX7_init_48 : decode cX7_init 48 = .ok (.getfield 7, 3) := by decide +kernel
theorem dX7_init_51 : decode cX7_init 51 = .ok (.sipush 241, 3) := by decide +kernel
theorem dX7_init_54 : decode cX7_init 54 = .ok (.iload_n 1, 1) := by decide +kernel
theorem dX7_init_55 : decode cX7_init 55 = .ok (.iadd, 1) := by decide +kernel
theorem dX7_init_56 : decode cX7_init 56 = .ok (.bipush 8, 2) := by decide +kernel
theorem dX7_init_58 : decode cX7_init 58 = .ok (.iastore, 1) := by decide +kernel
theorem dX7_init_59 : decode cX7_init 59 = .ok (.iinc 1 1, 3) := by decide +kernel
theorem dX7_init_62 : decode cX7_init 62 = .ok (.goto (-21), 3) := by decide +kernel
theorem dX7_init_65 : decode cX7_init 65 = .ok (.iconst 0, 1) := by decide +kernel
theorem dX7_init_66 : decode cX7_init 66 = .ok (.istore_n 1, 1) := by decide +kernel
theorem dX7_init_67 : decode cX7_init 67 = .ok (.iload_n 1, 1) := by decide +kernel
theorem dX7_init_68 : decode cX7_init 68 = .ok (.bipush 12, 2) := by decide +kernel
theorem dX7_init_70 : decode cX7_init 70 = .ok (.if_icmp .ge 46, 3) := by decide +kernel
theorem dX7_init_73 : decode cX7_init 73 = .ok (.aload_n 0, 1) := by decide +kernel
theorem dX7_init_74 : decode cX7_init 74 = .ok (.getfield 7, 3) := by decide +kernel
theorem dX7_init_77 : decode cX7_init 77 = .ok (.sipush 249, 3) := by decide +kernel
theorem dX7_init_80 : decode cX7_init 80 = .ok (.iload_n 1, 1) := by decide +kernel
theorem dX7_init_81 : decode cX7_init 81 = .ok (.iadd, 1) := by decide +kernel
theorem dX7_init_82 : decode cX7_init 82 = .ok (.bipush 40, 2) := by decide +kernel
theorem dX7_init_84 : decode cX7_init 84 = .ok (.iastore, 1) := by decide +kernel
theorem dX7_init_85 : decode cX7_init 85 = .ok (.aload_n 0, 1) := by decide +kernel
theorem dX7_init_86 : decode cX7_init 86 = .ok (.getfield 7, 3) := by decide +kernel
theorem dX7_init_89 : decode cX7_init 89 = .ok (.sipush 261, 3) := by decide +kernel
theorem dX7_init_92 : decode cX7_init 92 = .ok (.iload_n 1, 1) := by decide +kernel
theorem dX7_init_93 : decode cX7_init 93 = .ok (.iadd, 1) := by decide +kernel
theorem dX7_init_94 : decode cX7_init 94 = .ok (.iconst (-1), 1) := by decide +kernel
theorem dX7_init_95 : decode cX7_init 95 = .ok (.iastore, 1) := by decide +kernel
theorem dX7_init_96 : decode cX7_init 96 = .ok (.aload_n 0, 1) := by decide +kernel
theorem dX7_init_97 : decode cX7_init 97 = .ok (.getfield 7, 3) := by decide +kernel
theorem dX7_init_100 : decode cX7_init 100 = .ok (.sipush 297, 3) := by decide +kernel
theorem dX7_init_103 : decode cX7_init 103 = .ok (.iload_n 1, 1) := by decide +kernel
theorem dX7_init_104 : decode cX7_init 104 = .ok (.iadd, 1) := by decide +kernel
theorem dX7_init_105 : decode cX7_init 105 = .ok (.iload_n 1, 1) := by decide +kernel
theorem dX7_init_106 : decode cX7_init 106 = .ok (.bipush 8, 2) := by decide +kernel
theorem dX7_init_108 : decode cX7_init 108 = .ok (.irem, 1) := by decide +kernel
theorem dX7_init_109 : decode cX7_init 109 = .ok (.iastore, 1) := by decide +kernel
theorem dX7_init_110 : decode cX7_init 110 = .ok (.iinc 1 1, 3) := by decide +kernel
theorem dX7_init_113 : decode cX7_init 113 = .ok (.goto (-46), 3) := by decide +kernel
theorem dX7_init_116 : decode cX7_init 116 = .ok (.aload_n 0, 1) := by decide +kernel
theorem dX7_init_117 : decode cX7_init 117 = .ok (.getfield 7, 3) := by decide +kernel
theorem dX7_init_120 : decode cX7_init 120 = .ok (.sipush 321, 3) := by decide +kernel
theorem dX7_init_123 : decode cX7_init 123 = .ok (.bipush 100, 2) := by decide +kernel
theorem dX7_init_125 : decode cX7_init 125 = .ok (.iastore, 1) := by decide +kernel
theorem dX7_init_126 : decode cX7_init 126 = .ok (.aload_n 0, 1) := by decide +kernel
theorem dX7_init_127 : decode cX7_init 127 = .ok (.getfield 7, 3) := by decide +kernel
theorem dX7_init_130 : decode cX7_init 130 = .ok (.sipush 327, 3) := by decide +kernel
theorem dX7_init_133 : decode cX7_init 133 = .ok (.iconst 1, 1) := by decide +kernel
theorem dX7_init_134 : decode cX7_init 134 = .ok (.iastore, 1) := by decide +kernel
theorem dX7_init_135 : decode cX7_init 135 = .ok (.return_, 1) := by decide +kernel
theorem dX7_in_0 : decode cX7_in 0 = .ok (.iload_n 0, 1) := by decide +kernel
theorem dX7_in_1 : decode cX7_in 1 = .ok (.iload_n 1, 1) := by decide +kernel
theorem dX7_in_2 : decode cX7_in 2 = .ok (.if_icmp .lt 12, 3) := by decide +kernel
theorem dX7_in_5 : decode cX7_in 5 = .ok (.iload_n 0, 1) := by decide +kernel
theorem dX7_in_6 : decode cX7_in 6 = .ok (.iload_n 2, 1) := by decide +kernel
theorem dX7_in_7 : decode cX7_in 7 = .ok (.if_icmp .gt 7, 3) := by decide +kernel
theorem dX7_in_10 : decode cX7_in 10 = .ok (.iconst 1, 1) := by decide +kernel
theorem dX7_in_11 : decode cX7_in 11 = .ok (.goto 4, 3) := by decide +kernel
theorem dX7_in_14 : decode cX7_in 14 = .ok (.iconst 0, 1) := by decide +kernel
theorem dX7_in_15 : decode cX7_in 15 = .ok (.ireturn, 1) := by decide +kernel
theorem dX7_isStand_0 : decode cX7_isStand 0 = .ok (.iload_n 0, 1) := by decide +kernel
theorem dX7_isStand_1 : decode cX7_isStand 1 = .ok (.iconst 0, 1) := by decide +kernel
theorem dX7_isStand_2 : decode cX7_isStand 2 = .ok (.bipush 7, 2) := by decide +kernel
theorem dX7_isStand_4 : decode cX7_isStand 4 = .ok (.invokestatic 22, 3) := by decide +kernel
theorem dX7_isStand_7 : decode cX7_isStand 7 = .ok (.ireturn, 1) := by decide +kernel
theorem dX7_isPerson_0 : decode cX7_isPerson 0 = .ok (.iload_n 0, 1) := by decide +kernel
theorem dX7_isPerson_1 : decode cX7_isPerson 1 = .ok (.iconst 0, 1) := by decide +kernel
theorem dX7_isPerson_2 : decode cX7_isPerson 2 = .ok (.bipush 11, 2) := by decide +kernel
theorem dX7_isPerson_4 : decode cX7_isPerson 4 = .ok (.invokestatic 22, 3) := by decide +kernel
theorem dX7_isPerson_7 : decode cX7_isPerson 7 = .ok (.ireturn, 1) := by decide +kernel
theorem dX7_save_0 : decode cX7_save 0 = .ok (.aload_n 0, 1) := by decide +kernel
theorem dX7_save_1 : decode cX7_save 1 = .ok (.getfield 26, 3) := by decide +kernel
theorem dX7_save_4 : decode cX7_save 4 = .ok (.iconst 5, 1) := by decide +kernel
theorem dX7_save_5 : decode cX7_save 5 = .ok (.if_icmp .ne 44, 3) := by decide +kernel
theorem dX7_save_8 : decode cX7_save 8 = .ok (.iconst 0, 1) := by decide +kernel
theorem dX7_save_9 : decode cX7_save 9 = .ok (.istore_n 1, 1) := by decide +kernel
theorem dX7_save_10 : decode cX7_save 10 = .ok (.iload_n 1, 1) := by decide +kernel
theorem dX7_save_11 : decode cX7_save 11 = .ok (.sipush 3944, 3) := by decide +kernel
theorem dX7_save_14 : decode cX7_save 14 = .ok (.if_icmp .ge 25, 3) := by decide +kernel
theorem dX7_save_17 : decode cX7_save 17 = .ok (.aload_n 0, 1) := by decide +kernel
theorem dX7_save_18 : decode cX7_save 18 = .ok (.getfield 13, 3) := by decide +kernel
theorem dX7_save_21 : decode cX7_save 21 = .ok (.iload_n 1, 1) := by decide +kernel
theorem dX7_save_22 : decode cX7_save 22 = .ok (.aload_n 0, 1) := by decide +kernel
theorem dX7_save_23 : decode cX7_save 23 = .ok (.getfield 13, 3) := by decide +kernel
theorem dX7_save_26 : decode cX7_save 26 = .ok (.iload_n 1, 1) := by decide +kernel
theorem dX7_save_27 : decode cX7_save 27 = .ok (.sipush 986, 3) := by decide +kernel
theorem dX7_save_30 : decode cX7_save 30 = .ok (.iadd, 1) := by decide +kernel
theorem dX7_save_31 : decode cX7_save 31 = .ok (.iaload, 1) := by decide +kernel
theorem dX7_save_32 : decode cX7_save 32 = .ok (.iastore, 1) := by decide +kernel
theorem dX7_save_33 : decode cX7_save 33 = .ok (.iinc 1 1, 3) := by decide +kernel
theorem dX7_save_36 : decode cX7_save 36 = .ok (.goto (-26), 3) := by decide +kernel
theorem dX7_save_39 : decode cX7_save 39 = .ok (.aload_n 0, 1) := by decide +kernel
theorem dX7_save_40 : decode cX7_save 40 = .ok (.dup, 1) := by decide +kernel
theorem dX7_save_41 : decode cX7_save 41 = .ok (.getfield 26, 3) := by decide +kernel
theorem dX7_save_44 : decode cX7_save 44 = .ok (.iconst 1, 1) := by decide +kernel
theorem dX7_save_45 : decode cX7_save 45 = .ok (.isub, 1) := by decide +kernel
theorem dX7_save_46 : decode cX7_save 46 = .ok (.putfield 26, 3) := by decide +kernel
theorem dX7_save_49 : decode cX7_save 49 = .ok (.iconst 0, 1) := by decide +kernel
theorem dX7_save_50 : decode cX7_save 50 = .ok (.istore_n 1, 1) := by decide +kernel
theorem dX7_save_51 : decode cX7_save 51 = .ok (.iload_n 1, 1) := by decide +kernel
theorem dX7_save_52 : decode cX7_save 52 = .ok (.sipush 986, 3) := by decide +kernel
theorem dX7_save_55 : decode cX7_save 55 = .ok (.if_icmp .ge 30, 3) := by decide +kernel
theorem dX7_save_58 : decode cX7_save 58 = .ok (.aload_n 0, 1) := by decide +kernel
theorem dX7_save_59 : decode cX7_save 59 = .ok (.getfield 13, 3) := by decide +kernel
theorem dX7_save_62 : decode cX7_save 62 = .ok (.sipush 986, 3) := by decide +kernel
theorem dX7_save_65 : decode cX7_save 65 = .ok (.aload_n 0, 1) := by decide +kernel
theorem dX7_save_66 : decode cX7_save 66 = .ok (.getfield 26, 3) := by decide +kernel
theorem dX7_save_69 : decode cX7_save 69 = .ok (.imul, 1) := by decide +kernel
theorem dX7_save_70 : decode cX7_save 70 = .ok (.iload_n 1, 1) := by decide +kernel
theorem dX7_save_71 : decode cX7_save 71 = .ok (.iadd, 1) := by decide +kernel
theorem dX7_save_72 : decode cX7_save 72 = .ok (.aload_n 0, 1) := by decide +kernel
theorem dX7_save_73 : decode cX7_save 73 = .ok (.getfield 7, 3) := by decide +kernel
theorem dX7_save_76 : decode cX7_save 76 = .ok (.iload_n 1, 1) := by decide +kernel
theorem dX7_save_77 : decode cX7_save 77 = .ok (.iaload, 1) := by decide +kernel
theorem dX7_save_78 : decode cX7_save 78 = .ok (.iastore, 1) := by decide +kernel
theorem dX7_save_79 : decode cX7_save 79 = .ok (.iinc 1 1, 3) := by decide +kernel
theorem dX7_save_82 : decode cX7_save 82 = .ok (.goto (-31), 3) := by decide +kernel
theorem dX7_save_85 : decode cX7_save 85 = .ok (.aload_n 0, 1) := by decide +kernel
theorem dX7_save_86 : decode cX7_save 86 = .ok (.dup, 1) := by decide +kernel
theorem dX7_save_87 : decode cX7_save 87 = .ok (.getfield 26, 3) := by decide +kernel
theorem dX7_save_90 : decode cX7_save 90 = .ok (.iconst 1, 1) := by decide +kernel
theorem dX7_save_91 : decode cX7_save 91 = .ok (.iadd, 1) := by decide +kernel
theorem dX7_save_92 : decode cX7_save 92 = .ok (.putfield 26, 3) := by decide +kernel
theorem dX7_save_95 : decode cX7_save 95 = .ok (.return_, 1) := by decide +kernel
theorem dX7_isAt_0 : decode cX7_isAt 0 = .ok (.aload_n 0, 1) := by decide +kernel
theorem dX7_isAt_1 : decode cX7_isAt 1 = .ok (.getfield 7, 3) := by decide +kernel
theorem dX7_isAt_4 : decode cX7_isAt 4 = .ok (.iconst 1, 1) := by decide +kernel
theorem dX7_isAt_5 : decode cX7_isAt 5 = .ok (.iload_n 1, 1) := by decide +kernel
theorem dX7_isAt_6 : decode cX7_isAt 6 = .ok (.iadd, 1) := by decide +kernel
theorem dX7_isAt_7 : decode cX7_isAt 7 = .ok (.iaload, 1) := by decide +kernel
theorem dX7_isAt_8 : decode cX7_isAt 8 = .ok (.iload_n 2, 1) := by decide +kernel
theorem dX7_isAt_9 : decode cX7_isAt 9 = .ok (.if_icmp .ne 25, 3) := by decide +kernel
theorem dX7_isAt_12 : decode cX7_isAt 12 = .ok (.iload_n 2, 1) := by decide +kernel
theorem dX7_isAt_13 : decode cX7_isAt 13 = .ok (.iconst 2, 1) := by decide +kernel
theorem dX7_isAt_14 : decode cX7_isAt 14 = .ok (.if_icmp .gt 16, 3) := by decide +kernel
theorem dX7_isAt_17 : decode cX7_isAt 17 = .ok (.aload_n 0, 1) := by decide +kernel
theorem dX7_isAt_18 : decode cX7_isAt 18 = .ok (.getfield 7, 3) := by decide +kernel
theorem dX7_isAt_21 : decode cX7_isAt 21 = .ok (.bipush 61, 2) := by decide +kernel
theorem dX7_isAt_23 : decode cX7_isAt 23 = .ok (.iload_n 1, 1) := by decide +kernel
theorem dX7_isAt_24 : decode cX7_isAt 24 = .ok (.iadd, 1) := by decide +kernel
theorem dX7_isAt_25 : decode cX7_isAt 25 = .ok (.iaload, 1) := by decide +kernel
theorem dX7_isAt_26 : decode cX7_isAt 26 = .ok (.iload_n 3, 1) := by decide +kernel
theorem dX7_isAt_27 : decode cX7_isAt 27 = .ok (.if_icmp .ne 7, 3) := by decide +kernel
theorem dX7_isAt_30 : decode cX7_isAt 30 = .ok (.iconst 1, 1) := by decide +kernel
theorem dX7_isAt_31 : decode cX7_isAt 31 = .ok (.goto 4, 3) := by decide +kernel
theorem dX7_isAt_34 : decode cX7_isAt 34 = .ok (.iconst 0, 1) := by decide +kernel
theorem dX7_isAt_35 : decode cX7_isAt 35 = .ok (.ireturn, 1) := by decide +kernel
theorem dX7_manyAt_0 : decode cX7_manyAt 0 = .ok (.iconst 0, 1) := by decide +kernel
theorem dX7_manyAt_1 : decode cX7_manyAt 1 = .ok (.istore_n 3, 1) := by decide +kernel
theorem dX7_manyAt_2 : decode cX7_manyAt 2 = .ok (.iconst 0, 1) := by decide +kernel
theorem dX7_manyAt_3 : decode cX7_manyAt 3 = .ok (.istore 4, 2) := by decide +kernel
theorem dX7_manyAt_5 : decode cX7_manyAt 5 = .ok (.iload 4, 2) := by decide +kernel
theorem dX7_manyAt_7 : decode cX7_manyAt 7 = .ok (.aload_n 0, 1) := by decide +kernel
theorem dX7_manyAt_8 : decode cX7_manyAt 8 = .ok (.getfield 7, 3) := by decide +kernel
theorem dX7_manyAt_11 : decode cX7_manyAt 11 = .ok (.iconst 0, 1) := by decide +kernel
theorem dX7_manyAt_12 : decode cX7_manyAt 12 = .ok (.iaload, 1) := by decide +kernel
theorem dX7_manyAt_13 : decode cX7_manyAt 13 = .ok (.if_icmp .ge 28, 3) := by decide +kernel
theorem dX7_manyAt_16 : decode cX7_manyAt 16 = .ok (.iload_n 3, 1) := by decide +kernel
theorem dX7_manyAt_17 : decode cX7_manyAt 17 = .ok (.aload_n 0, 1) := by decide +kernel
theorem dX7_manyAt_18 : decode cX7_manyAt 18 = .ok (.iload 4, 2) := by decide +kernel
theorem dX7_manyAt_20 : decode cX7_manyAt 20 = .ok (.iload_n 1, 1) := by decide +kernel
theorem dX7_manyAt_21 : decode cX7_manyAt 21 = .ok (.iload_n 2, 1) := by decide +kernel
theorem dX7_manyAt_22 : decode cX7_manyAt 22 = .ok (.invokevirtual 30, 3) := by decide +kernel
theorem dX7_manyAt_25 : decode cX7_manyAt 25 = .ok (.ifCond .eq 7, 3) := by decide +kernel
theorem dX7_manyAt_28 : decode cX7_manyAt 28 = .ok (.iconst 1, 1) := by decide +kernel
theorem dX7_manyAt_29 : decode cX7_manyAt 29 = .ok (.goto 4, 3) := by decide +kernel
theorem dX7_manyAt_32 : decode cX7_manyAt 32 = .ok (.iconst 0, 1) := by decide +kernel
theorem dX7_manyAt_33 : decode cX7_manyAt 33 = .ok (.iadd, 1) := by decide +kernel
theorem dX7_manyAt_34 : decode cX7_manyAt 34 = .ok (.istore_n 3, 1) := by decide +kernel
theorem dX7_manyAt_35 : decode cX7_manyAt 35 = .ok (.iinc 4 1, 3) := by decide +kernel
theorem dX7_manyAt_38 : decode cX7_manyAt 38 = .ok (.goto (-33), 3) := by decide +kernel
theorem dX7_manyAt_41 : decode cX7_manyAt 41 = .ok (.iload_n 3, 1) := by decide +kernel
theorem dX7_manyAt_42 : decode cX7_manyAt 42 = .ok (.ireturn, 1) := by decide +kernel
theorem dX7_manyIn_0 : decode cX7_manyIn 0 = .ok (.iconst 0, 1) := by decide +kernel
theorem dX7_manyIn_1 : decode cX7_manyIn 1 = .ok (.istore_n 2, 1) := by decide +kernel
theorem dX7_manyIn_2 : decode cX7_manyIn 2 = .ok (.iconst 0, 1) := by decide +kernel
theorem dX7_manyIn_3 : decode cX7_manyIn 3 = .ok (.istore_n 3, 1) := by decide +kernel
theorem dX7_manyIn_4 : decode cX7_manyIn 4 = .ok (.iload_n 3, 1) := by decide +kernel
theorem dX7_manyIn_5 : decode cX7_manyIn 5 = .ok (.aload_n 0, 1) := by decide +kernel
theorem dX7_manyIn_6 : decode cX7_manyIn 6 = .ok (.getfield 7, 3) := by decide +kernel
theorem dX7_manyIn_9 : decode cX7_manyIn 9 = .ok (.iconst 0, 1) := by decide +kernel
theorem dX7_manyIn_10 : decode cX7_manyIn 10 = .ok (.iaload, 1) := by decide +kernel
theorem dX7_manyIn_11 : decode cX7_manyIn 11 = .ok (.if_icmp .ge 29, 3) := by decide +kernel
theorem dX7_manyIn_14 : decode cX7_manyIn 14 = .ok (.iload_n 2, 1) := by decide +kernel
theorem dX7_manyIn_15 : decode cX7_manyIn 15 = .ok (.aload_n 0, 1) := by decide +kernel
theorem dX7_manyIn_16 : decode cX7_manyIn 16 = .ok (.getfield 7, 3) := by decide +kernel
theorem dX7_manyIn_19 : decode cX7_manyIn 19 = .ok (.iconst 1, 1) := by decide +kernel
theorem dX7_manyIn_20 : decode cX7_manyIn 20 = .ok (.iload_n 3, 1) := by decide +kernel
theorem dX7_manyIn_21 : decode cX7_manyIn 21 = .ok (.iadd, 1) := by decide +kernel
theorem dX7_manyIn_22 : decode cX7_manyIn 22 = .ok (.iaload, 1) := by decide +kernel
theorem dX7_manyIn_23 : decode cX7_manyIn 23 = .ok (.iload_n 1, 1) := by decide +kernel
theorem dX7_manyIn_24 : decode cX7_manyIn 24 = .ok (.if_icmp .ne 7, 3) := by decide +kernel
theorem dX7_manyIn_27 : decode cX7_manyIn 27 = .ok (.iconst 1, 1) := by decide +kernel
theorem dX7_manyIn_28 : decode cX7_manyIn 28 = .ok (.goto 4, 3) := by decide +kernel
theorem dX7_manyIn_31 : decode cX7_manyIn 31 = .ok (.iconst 0, 1) := by decide +kernel
theorem dX7_manyIn_32 : decode cX7_manyIn 32 = .ok (.iadd, 1) := by decide +kernel
theorem dX7_manyIn_33 : decode cX7_manyIn 33 = .ok (.istore_n 2, 1) := by decide +kernel
theorem dX7_manyIn_34 : decode cX7_manyIn 34 = .ok (.iinc 3 1, 3) := by decide +kernel
theorem dX7_manyIn_37 : decode cX7_manyIn 37 = .ok (.goto (-33), 3) := by decide +kernel
theorem dX7_manyIn_40 : decode cX7_manyIn 40 = .ok (.iload_n 2, 1) := by decide +kernel
theorem dX7_manyIn_41 : decode cX7_manyIn 41 = .ok (.ireturn, 1) := by decide +kernel
theorem dX7_isBroken_0 : decode cX7_isBroken 0 = .ok (.aload_n 0, 1) := by decide +kernel
theorem dX7_isBroken_1 : decode cX7_isBroken 1 = .ok (.getfield 7, 3) := by decide +kernel
theorem dX7_isBroken_4 : decode cX7_isBroken 4 = .ok (.bipush 121, 2) := by decide +kernel
theorem dX7_isBroken_6 : decode cX7_isBroken 6 = .ok (.iload_n 1, 1) := by decide +kernel
theorem dX7_isBroken_7 : decode cX7_isBroken 7 = .ok (.iadd, 1) := by decide +kernel
theorem dX7_isBroken_8 : decode cX7_isBroken 8 = .ok (.iaload, 1) := by decide +kernel
theorem dX7_isBroken_9 : decode cX7_isBroken 9 = .ok (.bipush 32, 2) := by decide +kernel
theorem dX7_isBroken_11 : decode cX7_isBroken 11 = .ok (.if_icmp .lt 7, 3) := by decide +kernel
theorem dX7_isBroken_14 : decode cX7_isBroken 14 = .ok (.iconst 1, 1) := by decide +kernel
theorem dX7_isBroken_15 : decode cX7_isBroken 15 = .ok (.goto 4, 3) := by decide +kernel
theorem dX7_isBroken_18 : decode cX7_isBroken 18 = .ok (.iconst 0, 1) := by decide +kernel
theorem dX7_isBroken_19 : decode cX7_isBroken 19 = .ok (.ireturn, 1) := by decide +kernel
theorem dX7_brokenAt_0 : decode cX7_brokenAt 0 = .ok (.iconst 0, 1) := by decide +kernel
theorem dX7_brokenAt_1 : decode cX7_brokenAt 1 = .ok (.istore_n 3, 1) := by decide +kernel
theorem dX7_brokenAt_2 : decode cX7_brokenAt 2 = .ok (.iconst 0, 1) := by decide +kernel
theorem dX7_brokenAt_3 : decode cX7_brokenAt 3 = .ok (.istore 4, 2) := by decide +kernel
theorem dX7_brokenAt_5 : decode cX7_brokenAt 5 = .ok (.iload 4, 2) := by decide +kernel
theorem dX7_brokenAt_7 : decode cX7_brokenAt 7 = .ok (.aload_n 0, 1) := by decide +kernel
theorem dX7_brokenAt_8 : decode cX7_brokenAt 8 = .ok (.getfield 7, 3) := by decide +kernel
theorem dX7_brokenAt_11 : decode cX7_brokenAt 11 = .ok (.iconst 0, 1) := by decide +kernel
theorem dX7_brokenAt_12 : decode cX7_brokenAt 12 = .ok (.iaload, 1) := by decide +kernel
theorem dX7_brokenAt_13 : decode cX7_brokenAt 13 = .ok (.if_icmp .ge 37, 3) := by decide +kernel
theorem dX7_brokenAt_16 : decode cX7_brokenAt 16 = .ok (.iload_n 3, 1) := by decide +kernel
theorem dX7_brokenAt_17 : decode cX7_brokenAt 17 = .ok (.aload_n 0, 1) := by decide +kernel
theorem dX7_brokenAt_18 : decode cX7_brokenAt 18 = .ok (.iload 4, 2) := by decide +kernel
theorem dX7_brokenAt_20 : decode cX7_brokenAt 20 = .ok (.iload_n 1, 1) := by decide +kernel
theorem dX7_brokenAt_21 : decode cX7_brokenAt 21 = .ok (.iload_n 2, 1) := by decide +kernel
theorem dX7_brokenAt_22 : decode cX7_brokenAt 22 = .ok (.invokevirtual 30, 3) := by decide +kernel
theorem dX7_brokenAt_25 : decode cX7_brokenAt 25 = .ok (.ifCond .eq 16, 3) := by decide +kernel
theorem dX7_brokenAt_28 : decode cX7_brokenAt 28 = .ok (.aload_n 0, 1) := by decide +kernel
theorem dX7_brokenAt_29 : decode cX7_brokenAt 29 = .ok (.iload 4, 2) := by decide +kernel
theorem dX7_brokenAt_31 : decode cX7_brokenAt 31 = .ok (.invokevirtual 33, 3) := by decide +kernel
theorem dX7_brokenAt_34 : decode cX7_brokenAt 34 = .ok (.ifCond .eq 7, 3) := by decide +kernel
theorem dX7_brokenAt_37 : decode cX7_brokenAt 37 = .ok (.iconst 1, 1) := by decide +kernel
theorem dX7_brokenAt_38 : decode cX7_brokenAt 38 = .ok (.goto 4, 3) := by decide +kernel
theorem dX7_brokenAt_41 : decode cX7_brokenAt 41 = .ok (.iconst 0, 1) := by decide +kernel
theorem dX7_brokenAt_42 : decode cX7_brokenAt 42 = .ok (.iadd, 1) := by decide +kernel
theorem dX7_brokenAt_43 : decode cX7_brokenAt 43 = .ok (.istore_n 3, 1) := by decide +kernel
theorem dX7_brokenAt_44 : decode cX7_brokenAt 44 = .ok (.iinc 4 1, 3) := by decide +kernel
theorem dX7_brokenAt_47 : decode cX7_brokenAt 47 = .ok (.goto (-42), 3) := by decide +kernel
theorem dX7_brokenAt_50 : decode cX7_brokenAt 50 = .ok (.iload_n 3, 1) := by decide +kernel
theorem dX7_brokenAt_51 : decode cX7_brokenAt 51 = .ok (.ireturn, 1) := by decide +kernel
theorem dX7_goes_0 : decode cX7_goes 0 = .ok (.aload_n 0, 1) := by decide +kernel
theorem dX7_goes_1 : decode cX7_goes 1 = .ok (.getfield 7, 3) := by decide +kernel
theorem dX7_goes_4 : decode cX7_goes 4 = .ok (.iconst 1, 1) := by decide +kernel
theorem dX7_goes_5 : decode cX7_goes 5 = .ok (.iload_n 1, 1) := by decide +kernel
theorem dX7_goes_6 : decode cX7_goes 6 = .ok (.iadd, 1) := by decide +kernel
theorem dX7_goes_7 : decode cX7_goes 7 = .ok (.iload_n 2, 1) := by decide +kernel
theorem dX7_goes_8 : decode cX7_goes 8 = .ok (.iastore, 1) := by decide +kernel
theorem dX7_goes_9 : decode cX7_goes 9 = .ok (.aload_n 0, 1) := by decide +kernel
theorem dX7_goes_10 : decode cX7_goes 10 = .ok (.getfield 7, 3) := by decide +kernel
theorem dX7_goes_13 : decode cX7_goes 13 = .ok (.bipush 61, 2) := by decide +kernel
theorem dX7_goes_15 : decode cX7_goes 15 = .ok (.iload_n 1, 1) := by decide +kernel
theorem dX7_goes_16 : decode cX7_goes 16 = .ok (.iadd, 1) := by decide +kernel
theorem dX7_goes_17 : decode cX7_goes 17 = .ok (.iload_n 3, 1) := by decide +kernel
theorem dX7_goes_18 : decode cX7_goes 18 = .ok (.iastore, 1) := by decide +kernel
theorem dX7_goes_19 : decode cX7_goes 19 = .ok (.return_, 1) := by decide +kernel
theorem dX7_bestOf_0 : decode cX7_bestOf 0 = .ok (.iconst (-1), 1) := by decide +kernel
theorem dX7_bestOf_1 : decode cX7_bestOf 1 = .ok (.istore_n 2, 1) := by decide +kernel
theorem dX7_bestOf_2 : decode cX7_bestOf 2 = .ok (.iconst 0, 1) := by decide +kernel
theorem dX7_bestOf_3 : decode cX7_bestOf 3 = .ok (.istore_n 3, 1) := by decide +kernel
theorem dX7_bestOf_4 : decode cX7_bestOf 4 = .ok (.iload_n 3, 1) := by decide +kernel
theorem dX7_bestOf_5 : decode cX7_bestOf 5 = .ok (.aload_n 0, 1) := by decide +kernel
theorem dX7_bestOf_6 : decode cX7_bestOf 6 = .ok (.getfield 7, 3) := by decide +kernel
theorem dX7_bestOf_9 : decode cX7_bestOf 9 = .ok (.iconst 0, 1) := by decide +kernel
theorem dX7_bestOf_10 : decode cX7_bestOf 10 = .ok (.iaload, 1) := by decide +kernel
theorem dX7_bestOf_11 : decode cX7_bestOf 11 = .ok (.if_icmp .ge 70, 3) := by decide +kernel
theorem dX7_bestOf_14 : decode cX7_bestOf 14 = .ok (.aload_n 0, 1) := by decide +kernel
theorem dX7_bestOf_15 : decode cX7_bestOf 15 = .ok (.iload_n 3, 1) := by decide +kernel
theorem dX7_bestOf_16 : decode cX7_bestOf 16 = .ok (.iconst 0, 1) := by decide +kernel
theorem dX7_bestOf_17 : decode cX7_bestOf 17 = .ok (.iload_n 1, 1) := by decide +kernel
theorem dX7_bestOf_18 : decode cX7_bestOf 18 = .ok (.invokevirtual 30, 3) := by decide +kernel
theorem dX7_bestOf_21 : decode cX7_bestOf 21 = .ok (.ifCond .eq 40, 3) := by decide +kernel
theorem dX7_bestOf_24 : decode cX7_bestOf 24 = .ok (.aload_n 0, 1) := by decide +kernel
theorem dX7_bestOf_25 : decode cX7_bestOf 25 = .ok (.iload_n 3, 1) := by decide +kernel
theorem dX7_bestOf_26 : decode cX7_bestOf 26 = .ok (.invokevirtual 33, 3) := by decide +kernel
theorem dX7_bestOf_29 : decode cX7_bestOf 29 = .ok (.ifCond .ne 32, 3) := by decide +kernel
theorem dX7_bestOf_32 : decode cX7_bestOf 32 = .ok (.iload_n 2, 1) := by decide +kernel
theorem dX7_bestOf_33 : decode cX7_bestOf 33 = .ok (.ifCond .lt 24, 3) := by decide +kernel
theorem dX7_bestOf_36 : decode cX7_bestOf 36 = .ok (.aload_n 0, 1) := by decide +kernel
theorem dX7_bestOf_37 : decode cX7_bestOf 37 = .ok (.getfield 7, 3) := by decide +kernel
theorem dX7_bestOf_40 : decode cX7_bestOf 40 = .ok (.bipush 121, 2) := by decide +kernel
theorem dX7_bestOf_42 : decode cX7_bestOf 42 = .ok (.iload_n 3, 1) := by decide +kernel
theorem dX7_bestOf_43 : decode cX7_bestOf 43 = .ok (.iadd, 1) := by decide +kernel
theorem dX7_bestOf_44 : decode cX7_bestOf 44 = .ok (.iaload, 1) := by decide +kernel
theorem dX7_bestOf_45 : decode cX7_bestOf 45 = .ok (.aload_n 0, 1) := by decide +kernel
theorem dX7_bestOf_46 : decode cX7_bestOf 46 = .ok (.getfield 7, 3) := by decide +kernel
theorem dX7_bestOf_49 : decode cX7_bestOf 49 = .ok (.bipush 121, 2) := by decide +kernel
theorem dX7_bestOf_51 : decode cX7_bestOf 51 = .ok (.iload_n 2, 1) := by decide +kernel
theorem dX7_bestOf_52 : decode cX7_bestOf 52 = .ok (.iadd, 1) := by decide +kernel
theorem dX7_bestOf_53 : decode cX7_bestOf 53 = .ok (.iaload, 1) := by decide +kernel
theorem dX7_bestOf_54 : decode cX7_bestOf 54 = .ok (.if_icmp .ge 7, 3) := by decide +kernel
theorem dX7_bestOf_57 : decode cX7_bestOf 57 = .ok (.iconst 1, 1) := by decide +kernel
theorem dX7_bestOf_58 : decode cX7_bestOf 58 = .ok (.goto 4, 3) := by decide +kernel
theorem dX7_bestOf_61 : decode cX7_bestOf 61 = .ok (.iconst 0, 1) := by decide +kernel
theorem dX7_bestOf_62 : decode cX7_bestOf 62 = .ok (.istore 4, 2) := by decide +kernel
theorem dX7_bestOf_64 : decode cX7_bestOf 64 = .ok (.iload 4, 2) := by decide +kernel
theorem dX7_bestOf_66 : decode cX7_bestOf 66 = .ok (.ifCond .eq 7, 3) := by decide +kernel
theorem dX7_bestOf_69 : decode cX7_bestOf 69 = .ok (.iload_n 3, 1) := by decide +kernel
theorem dX7_bestOf_70 : decode cX7_bestOf 70 = .ok (.goto 4, 3) := by decide +kernel
theorem dX7_bestOf_73 : decode cX7_bestOf 73 = .ok (.iload_n 2, 1) := by decide +kernel
theorem dX7_bestOf_74 : decode cX7_bestOf 74 = .ok (.istore_n 2, 1) := by decide +kernel
theorem dX7_bestOf_75 : decode cX7_bestOf 75 = .ok (.iinc 3 1, 3) := by decide +kernel
theorem dX7_bestOf_78 : decode cX7_bestOf 78 = .ok (.goto (-74), 3) := by decide +kernel
theorem dX7_bestOf_81 : decode cX7_bestOf 81 = .ok (.iload_n 2, 1) := by decide +kernel
theorem dX7_bestOf_82 : decode cX7_bestOf 82 = .ok (.ireturn, 1) := by decide +kernel
theorem dX7_worstOf_0 : decode cX7_worstOf 0 = .ok (.iconst (-1), 1) := by decide +kernel
theorem dX7_worstOf_1 : decode cX7_worstOf 1 = .ok (.istore_n 2, 1) := by decide +kernel
theorem dX7_worstOf_2 : decode cX7_worstOf 2 = .ok (.iconst 0, 1) := by decide +kernel
theorem dX7_worstOf_3 : decode cX7_worstOf 3 = .ok (.istore_n 3, 1) := by decide +kernel
theorem dX7_worstOf_4 : decode cX7_worstOf 4 = .ok (.iload_n 3, 1) := by decide +kernel
theorem dX7_worstOf_5 : decode cX7_worstOf 5 = .ok (.aload_n 0, 1) := by decide +kernel
theorem dX7_worstOf_6 : decode cX7_worstOf 6 = .ok (.getfield 7, 3) := by decide +kernel
theorem dX7_worstOf_9 : decode cX7_worstOf 9 = .ok (.iconst 0, 1) := by decide +kernel
theorem dX7_worstOf_10 : decode cX7_worstOf 10 = .ok (.iaload, 1) := by decide +kernel
theorem dX7_worstOf_11 : decode cX7_worstOf 11 = .ok (.if_icmp .ge 62, 3) := by decide +kernel
theorem dX7_worstOf_14 : decode cX7_worstOf 14 = .ok (.aload_n 0, 1) := by decide +kernel
theorem dX7_worstOf_15 : decode cX7_worstOf 15 = .ok (.iload_n 3, 1) := by decide +kernel
theorem dX7_worstOf_16 : decode cX7_worstOf 16 = .ok (.iconst 0, 1) := by decide +kernel
theorem dX7_worstOf_17 : decode cX7_worstOf 17 = .ok (.iload_n 1, 1) := by decide +kernel
theorem dX7_worstOf_18 : decode cX7_worstOf 18 = .ok (.invokevirtual 30, 3) := by decide +kernel
theorem dX7_worstOf_21 : decode cX7_worstOf 21 = .ok (.ifCond .eq 32, 3) := by decide +kernel
theorem dX7_worstOf_24 : decode cX7_worstOf 24 = .ok (.iload_n 2, 1) := by decide +kernel
theorem dX7_worstOf_25 : decode cX7_worstOf 25 = .ok (.ifCond .lt 24, 3) := by decide +kernel
theorem dX7_worstOf_28 : decode cX7_worstOf 28 = .ok (.aload_n 0, 1) := by decide +kernel
theorem dX7_worstOf_29 : decode cX7_worstOf 29 = .ok (.getfield 7, 3) := by decide +kernel
theorem dX7_worstOf_32 : decode cX7_worstOf 32 = .ok (.bipush 121, 2) := by decide +kernel
theorem dX7_worstOf_34 : decode cX7_worstOf 34 = .ok (.iload_n 3, 1) := by decide +kernel
theorem dX7_worstOf_35 : decode cX7_worstOf 35 = .ok (.iadd, 1) := by decide +kernel
theorem dX7_worstOf_36 : decode cX7_worstOf 36 = .ok (.iaload, 1) := by decide +kernel
theorem dX7_worstOf_37 : decode cX7_worstOf 37 = .ok (.aload_n 0, 1) := by decide +kernel
theorem dX7_worstOf_38 : decode cX7_worstOf 38 = .ok (.getfield 7, 3) := by decide +kernel
theorem dX7_worstOf_41 : decode cX7_worstOf 41 = .ok (.bipush 121, 2) := by decide +kernel
theorem dX7_worstOf_43 : decode cX7_worstOf 43 = .ok (.iload_n 2, 1) := by decide +kernel
theorem dX7_worstOf_44 : decode cX7_worstOf 44 = .ok (.iadd, 1) := by decide +kernel
theorem dX7_worstOf_45 : decode cX7_worstOf 45 = .ok (.iaload, 1) := by decide +kernel
theorem dX7_worstOf_46 : decode cX7_worstOf 46 = .ok (.if_icmp .le 7, 3) := by decide +kernel
theorem dX7_worstOf_49 : decode cX7_worstOf 49 = .ok (.iconst 1, 1) := by decide +kernel
theorem dX7_worstOf_50 : decode cX7_worstOf 50 = .ok (.goto 4, 3) := by decide +kernel
theorem dX7_worstOf_53 : decode cX7_worstOf 53 = .ok (.iconst 0, 1) := by decide +kernel
theorem dX7_worstOf_54 : decode cX7_worstOf 54 = .ok (.istore 4, 2) := by decide +kernel
theorem dX7_worstOf_56 : decode cX7_worstOf 56 = .ok (.iload 4, 2) := by decide +kernel
theorem dX7_worstOf_58 : decode cX7_worstOf 58 = .ok (.ifCond .eq 7, 3) := by decide +kernel
theorem dX7_worstOf_61 : decode cX7_worstOf 61 = .ok (.iload_n 3, 1) := by decide +kernel
theorem dX7_worstOf_62 : decode cX7_worstOf 62 = .ok (.goto 4, 3) := by decide +kernel
theorem dX7_worstOf_65 : decode cX7_worstOf 65 = .ok (.iload_n 2, 1) := by decide +kernel
theorem dX7_worstOf_66 : decode cX7_worstOf 66 = .ok (.istore_n 2, 1) := by decide +kernel
theorem dX7_worstOf_67 : decode cX7_worstOf 67 = .ok (.iinc 3 1, 3) := by decide +kernel
theorem dX7_worstOf_70 : decode cX7_worstOf 70 = .ok (.goto (-66), 3) := by decide +kernel
theorem dX7_worstOf_73 : decode cX7_worstOf 73 = .ok (.iload_n 2, 1) := by decide +kernel
theorem dX7_worstOf_74 : decode cX7_worstOf 74 = .ok (.ireturn, 1) := by decide +kernel
theorem dX7_roomOf_0 : decode cX7_roomOf 0 = .ok (.aload_n 0, 1) := by decide +kernel
theorem dX7_roomOf_1 : decode cX7_roomOf 1 = .ok (.getfield 7, 3) := by decide +kernel
theorem dX7_roomOf_4 : decode cX7_roomOf 4 = .ok (.sipush 241, 3) := by decide +kernel
theorem dX7_roomOf_7 : decode cX7_roomOf 7 = .ok (.iload_n 1, 1) := by decide +kernel
theorem dX7_roomOf_8 : decode cX7_roomOf 8 = .ok (.iadd, 1) := by decide +kernel
theorem dX7_roomOf_9 : decode cX7_roomOf 9 = .ok (.iaload, 1) := by decide +kernel
theorem dX7_roomOf_10 : decode cX7_roomOf 10 = .ok (.aload_n 0, 1) := by decide +kernel
theorem dX7_roomOf_11 : decode cX7_roomOf 11 = .ok (.iconst 0, 1) := by decide +kernel
theorem dX7_roomOf_12 : decode cX7_roomOf 12 = .ok (.iload_n 1, 1) := by decide +kernel
theorem dX7_roomOf_13 : decode cX7_roomOf 13 = .ok (.invokevirtual 37, 3) := by decide +kernel
theorem dX7_roomOf_16 : decode cX7_roomOf 16 = .ok (.isub, 1) := by decide +kernel
theorem dX7_roomOf_17 : decode cX7_roomOf 17 = .ok (.ireturn, 1) := by decide +kernel
theorem dX7_canSpend_0 : decode cX7_canSpend 0 = .ok (.aload_n 0, 1) := by decide +kernel
theorem dX7_canSpend_1 : decode cX7_canSpend 1 = .ok (.getfield 7, 3) := by decide +kernel
theorem dX7_canSpend_4 : decode cX7_canSpend 4 = .ok (.sipush 321, 3) := by decide +kernel
theorem dX7_canSpend_7 : decode cX7_canSpend 7 = .ok (.iaload, 1) := by decide +kernel
theorem dX7_canSpend_8 : decode cX7_canSpend 8 = .ok (.bipush 10, 2) := by decide +kernel
theorem dX7_canSpend_10 : decode cX7_canSpend 10 = .ok (.aload_n 0, 1) := by decide +kernel
theorem dX7_canSpend_11 : decode cX7_canSpend 11 = .ok (.iconst 1, 1) := by decide +kernel
theorem dX7_canSpend_12 : decode cX7_canSpend 12 = .ok (.invokevirtual 41, 3) := by decide +kernel
theorem dX7_canSpend_15 : decode cX7_canSpend 15 = .ok (.imul, 1) := by decide +kernel
theorem dX7_canSpend_16 : decode cX7_canSpend 16 = .ok (.isub, 1) := by decide +kernel
theorem dX7_canSpend_17 : decode cX7_canSpend 17 = .ok (.iload_n 1, 1) := by decide +kernel
theorem dX7_canSpend_18 : decode cX7_canSpend 18 = .ok (.if_icmp .lt 7, 3) := by decide +kernel
theorem dX7_canSpend_21 : decode cX7_canSpend 21 = .ok (.iconst 1, 1) := by decide +kernel
theorem dX7_canSpend_22 : decode cX7_canSpend 22 = .ok (.goto 4, 3) := by decide +kernel
theorem dX7_canSpend_25 : decode cX7_canSpend 25 = .ok (.iconst 0, 1) := by decide +kernel
theorem dX7_canSpend_26 : decode cX7_canSpend 26 = .ok (.ireturn, 1) := by decide +kernel
theorem dX7_spends_0 : decode cX7_spends 0 = .ok (.aload_n 0, 1) := by decide +kernel
theorem dX7_spends_1 : decode cX7_spends 1 = .ok (.getfield 7, 3) := by decide +kernel
theorem dX7_spends_4 : decode cX7_spends 4 = .ok (.sipush 321, 3) := by decide +kernel
theorem dX7_spends_7 : decode cX7_spends 7 = .ok (.dup2, 1) := by decide +kernel
theorem dX7_spends_8 : decode cX7_spends 8 = .ok (.iaload, 1) := by decide +kernel
theorem dX7_spends_9 : decode cX7_spends 9 = .ok (.iload_n 1, 1) := by decide +kernel
theorem dX7_spends_10 : decode cX7_spends 10 = .ok (.isub, 1) := by decide +kernel
theorem dX7_spends_11 : decode cX7_spends 11 = .ok (.iastore, 1) := by decide +kernel
theorem dX7_spends_12 : decode cX7_spends 12 = .ok (.aload_n 0, 1) := by decide +kernel
theorem dX7_spends_13 : decode cX7_spends 13 = .ok (.getfield 7, 3) := by decide +kernel
theorem dX7_spends_16 : decode cX7_spends 16 = .ok (.sipush 323, 3) := by decide +kernel
theorem dX7_spends_19 : decode cX7_spends 19 = .ok (.dup2, 1) := by decide +kernel
theorem dX7_spends_20 : decode cX7_spends 20 = .ok (.iaload, 1) := by decide +kernel
theorem dX7_spends_21 : decode cX7_spends 21 = .ok (.iload_n 1, 1) := by decide +kernel
theorem dX7_spends_22 : decode cX7_spends 22 = .ok (.iadd, 1) := by decide +kernel
theorem dX7_spends_23 : decode cX7_spends 23 = .ok (.iastore, 1) := by decide +kernel
theorem dX7_spends_24 : decode cX7_spends 24 = .ok (.return_, 1) := by decide +kernel
theorem dX7_buy_0 : decode cX7_buy 0 = .ok (.iload_n 1, 1) := by decide +kernel
theorem dX7_buy_1 : decode cX7_buy 1 = .ok (.invokestatic 45, 3) := by decide +kernel
theorem dX7_buy_4 : decode cX7_buy 4 = .ok (.ifCond .eq 13, 3) := by decide +kernel
theorem dX7_buy_7 : decode cX7_buy 7 = .ok (.iload_n 2, 1) := by decide +kernel
theorem dX7_buy_8 : decode cX7_buy 8 = .ok (.iconst 1, 1) := by decide +kernel
theorem dX7_buy_9 : decode cX7_buy 9 = .ok (.bipush 20, 2) := by decide +kernel
theorem dX7_buy_11 : decode cX7_buy 11 = .ok (.invokestatic 22, 3) := by decide +kernel
theorem dX7_buy_14 : decode cX7_buy 14 = .ok (.ifCond .ne 5, 3) := by decide +kernel
theorem dX7_buy_17 : decode cX7_buy 17 = .ok (.iconst (-1), 1) := by decide +kernel
theorem dX7_buy_18 : decode cX7_buy 18 = .ok (.ireturn, 1) := by decide +kernel
theorem dX7_buy_19 : decode cX7_buy 19 = .ok (.aload_n 0, 1) := by decide +kernel
theorem dX7_buy_20 : decode cX7_buy 20 = .ok (.iconst 5, 1) := by decide +kernel
theorem dX7_buy_21 : decode cX7_buy 21 = .ok (.iload_n 2, 1) := by decide +kernel
theorem dX7_buy_22 : decode cX7_buy 22 = .ok (.imul, 1) := by decide +kernel
theorem dX7_buy_23 : decode cX7_buy 23 = .ok (.invokevirtual 48, 3) := by decide +kernel
theorem dX7_buy_26 : decode cX7_buy 26 = .ok (.ifCond .ne 6, 3) := by decide +kernel
theorem dX7_buy_29 : decode cX7_buy 29 = .ok (.bipush (-2), 2) := by decide +kernel
theorem dX7_buy_31 : decode cX7_buy 31 = .ok (.ireturn, 1) := by decide +kernel
theorem dX7_buy_32 : decode cX7_buy 32 = .ok (.aload_n 0, 1) := by decide +kernel
theorem dX7_buy_33 : decode cX7_buy 33 = .ok (.getfield 7, 3) := by decide +kernel
theorem dX7_buy_36 : decode cX7_buy 36 = .ok (.iconst 0, 1) := by decide +kernel
theorem dX7_buy_37 : decode cX7_buy 37 = .ok (.iaload, 1) := by decide +kernel
theorem dX7_buy_38 : decode cX7_buy 38 = .ok (.iload_n 2, 1) := by decide +kernel
theorem dX7_buy_39 : decode cX7_buy 39 = .ok (.iadd, 1) := by decide +kernel
theorem dX7_buy_40 : decode cX7_buy 40 = .ok (.bipush 60, 2) := by decide +kernel
theorem dX7_buy_42 : decode cX7_buy 42 = .ok (.if_icmp .gt 12, 3) := by decide +kernel
theorem dX7_buy_45 : decode cX7_buy 45 = .ok (.iload_n 2, 1) := by decide +kernel
theorem dX7_buy_46 : decode cX7_buy 46 = .ok (.aload_n 0, 1) := by decide +kernel
theorem dX7_buy_47 : decode cX7_buy 47 = .ok (.iload_n 1, 1) := by decide +kernel
theorem dX7_buy_48 : decode cX7_buy 48 = .ok (.invokevirtual 51, 3) := by decide +kernel
theorem dX7_buy_51 : decode cX7_buy 51 = .ok (.if_icmp .le 6, 3) := by decide +kernel
theorem dX7_buy_54 : decode cX7_buy 54 = .ok (.bipush (-3), 2) := by decide +kernel
theorem dX7_buy_56 : decode cX7_buy 56 = .ok (.ireturn, 1) := by decide +kernel
theorem dX7_buy_57 : decode cX7_buy 57 = .ok (.aload_n 0, 1) := by decide +kernel
theorem dX7_buy_58 : decode cX7_buy 58 = .ok (.invokevirtual 54, 3) := by decide +kernel
theorem dX7_buy_61 : decode cX7_buy 61 = .ok (.aload_n 0, 1) := by decide +kernel
theorem dX7_buy_62 : decode cX7_buy 62 = .ok (.getfield 7, 3) := by decide +kernel
theorem dX7_buy_65 : decode cX7_buy 65 = .ok (.iconst 0, 1) := by decide +kernel
theorem dX7_buy_66 : decode cX7_buy 66 = .ok (.iaload, 1) := by decide +kernel
theorem dX7_buy_67 : decode cX7_buy 67 = .ok (.istore_n 3, 1) := by decide +kernel
theorem dX7_buy_68 : decode cX7_buy 68 = .ok (.iload_n 3, 1) := by decide +kernel
theorem dX7_buy_69 : decode cX7_buy 69 = .ok (.istore 4, 2) := by decide +kernel
theorem dX7_buy_71 : decode cX7_buy 71 = .ok (.iload 4, 2) := by decide +kernel
theorem dX7_buy_73 : decode cX7_buy 73 = .ok (.iload_n 3, 1) := by decide +kernel
theorem dX7_buy_74 : decode cX7_buy 74 = .ok (.iload_n 2, 1) := by decide +kernel
theorem dX7_buy_75 : decode cX7_buy 75 = .ok (.iadd, 1) := by decide +kernel
theorem dX7_buy_76 : decode cX7_buy 76 = .ok (.if_icmp .ge 40, 3) := by decide +kernel
theorem dX7_buy_79 : decode cX7_buy 79 = .ok (.aload_n 0, 1) := by decide +kernel
theorem dX7_buy_80 : decode cX7_buy 80 = .ok (.iload 4, 2) := by decide +kernel
theorem dX7_buy_82 : decode cX7_buy 82 = .ok (.iconst 0, 1) := by decide +kernel
theorem dX7_buy_83 : decode cX7_buy 83 = .ok (.iload_n 1, 1) := by decide +kernel
theorem dX7_buy_84 : decode cX7_buy 84 = .ok (.invokevirtual 57, 3) := by decide +kernel
theorem dX7_buy_87 : decode cX7_buy 87 = .ok (.aload_n 0, 1) := by decide +kernel
theorem dX7_buy_88 : decode cX7_buy 88 = .ok (.getfield 7, 3) := by decide +kernel
theorem dX7_buy_91 : decode cX7_buy 91 = .ok (.bipush 121, 2) := by decide +kernel
theorem dX7_buy_93 : decode cX7_buy 93 = .ok (.iload 4, 2) := by decide +kernel
theorem dX7_buy_95 : decode cX7_buy 95 = .ok (.iadd, 1) := by decide +kernel
theorem dX7_buy_96 : decode cX7_buy 96 = .ok (.iconst 0, 1) := by decide +kernel
theorem dX7_buy_97 : decode cX7_buy 97 = .ok (.iastore, 1) := by decide +kernel
theorem dX7_buy_98 : decode cX7_buy 98 = .ok (.aload_n 0, 1) := by decide +kernel
theorem dX7_buy_99 : decode cX7_buy 99 = .ok (.getfield 7, 3) := by decide +kernel
theorem dX7_buy_102 : decode cX7_buy 102 = .ok (.sipush 181, 3) := by decide +kernel
theorem dX7_buy_105 : decode cX7_buy 105 = .ok (.iload 4, 2) := by decide +kernel
theorem dX7_buy_107 : decode cX7_buy 107 = .ok (.iadd, 1) := by decide +kernel
theorem dX7_buy_108 : decode cX7_buy 108 = .ok (.iconst 0, 1) := by decide +kernel
theorem dX7_buy_109 : decode cX7_buy 109 = .ok (.iastore, 1) := by decide +kernel
theorem dX7_buy_110 : decode cX7_buy 110 = .ok (.iinc 4 1, 3) := by decide +kernel
theorem dX7_buy_113 : decode cX7_buy 113 = .ok (.goto (-42), 3) := by decide +kernel
theorem dX7_buy_116 : decode cX7_buy 116 = .ok (.aload_n 0, 1) := by decide +kernel
theorem dX7_buy_117 : decode cX7_buy 117 = .ok (.getfield 7, 3) := by decide +kernel
theorem dX7_buy_120 : decode cX7_buy 120 = .ok (.iconst 0, 1) := by decide +kernel
theorem dX7_buy_121 : decode cX7_buy 121 = .ok (.dup2, 1) := by decide +kernel
theorem dX7_buy_122 : decode cX7_buy 122 = .ok (.iaload, 1) := by decide +kernel
theorem dX7_buy_123 : decode cX7_buy 123 = .ok (.iload_n 2, 1) := by decide +kernel
theorem dX7_buy_124 : decode cX7_buy 124 = .ok (.iadd, 1) := by decide +kernel
theorem dX7_buy_125 : decode cX7_buy 125 = .ok (.iastore, 1) := by decide +kernel
theorem dX7_buy_126 : decode cX7_buy 126 = .ok (.aload_n 0, 1) := by decide +kernel
theorem dX7_buy_127 : decode cX7_buy 127 = .ok (.iconst 5, 1) := by decide +kernel
theorem dX7_buy_128 : decode cX7_buy 128 = .ok (.iload_n 2, 1) := by decide +kernel
theorem dX7_buy_129 : decode cX7_buy 129 = .ok (.imul, 1) := by decide +kernel
theorem dX7_buy_130 : decode cX7_buy 130 = .ok (.invokevirtual 61, 3) := by decide +kernel
theorem dX7_buy_133 : decode cX7_buy 133 = .ok (.iload_n 3, 1) := by decide +kernel
theorem dX7_buy_134 : decode cX7_buy 134 = .ok (.ireturn, 1) := by decide +kernel
theorem dX7_set_0 : decode cX7_set 0 = .ok (.iload_n 1, 1) := by decide +kernel
theorem dX7_set_1 : decode cX7_set 1 = .ok (.iconst 0, 1) := by decide +kernel
theorem dX7_set_2 : decode cX7_set 2 = .ok (.bipush 8, 2) := by decide +kernel
theorem dX7_set_4 : decode cX7_set 4 = .ok (.invokestatic 22, 3) := by decide +kernel
theorem dX7_set_7 : decode cX7_set 7 = .ok (.ifCond .eq 33, 3) := by decide +kernel
theorem dX7_set_10 : decode cX7_set 10 = .ok (.iload_n 2, 1) := by decide +kernel
theorem dX7_set_11 : decode cX7_set 11 = .ok (.iload_n 1, 1) := by decide +kernel
theorem dX7_set_12 : decode cX7_set 12 = .ok (.bipush 8, 2) := by decide +kernel
theorem dX7_set_14 : decode cX7_set 14 = .ok (.if_icmp .ne 7, 3) := by decide +kernel
theorem dX7_set_17 : decode cX7_set 17 = .ok (.iconst 0, 1) := by decide +kernel
theorem dX7_set_18 : decode cX7_set 18 = .ok (.goto 4, 3) := by decide +kernel
theorem dX7_set_21 : decode cX7_set 21 = .ok (.iconst 1, 1) := by decide +kernel
theorem dX7_set_22 : decode cX7_set 22 = .ok (.iload_n 1, 1) := by decide +kernel
theorem dX7_set_23 : decode cX7_set 23 = .ok (.bipush 8, 2) := by decide +kernel
theorem dX7_set_25 : decode cX7_set 25 = .ok (.if_icmp .ne 7, 3) := by decide +kernel
theorem dX7_set_28 : decode cX7_set 28 = .ok (.iconst 5, 1) := by decide +kernel
theorem dX7_set_29 : decode cX7_set 29 = .ok (.goto 5, 3) := by decide +kernel
theorem dX7_set_32 : decode cX7_set 32 = .ok (.bipush 20, 2) := by decide +kernel
theorem dX7_set_34 : decode cX7_set 34 = .ok (.invokestatic 22, 3) := by decide +kernel
theorem dX7_set_37 : decode cX7_set 37 = .ok (.ifCond .ne 5, 3) := by decide +kernel
theorem dX7_set_40 : decode cX7_set 40 = .ok (.iconst (-1), 1) := by decide +kernel
theorem dX7_set_41 : decode cX7_set 41 = .ok (.ireturn, 1) := by decide +kernel
theorem dX7_set_42 : decode cX7_set 42 = .ok (.iload_n 1, 1) := by decide +kernel
theorem dX7_set_43 : decode cX7_set 43 = .ok (.bipush 8, 2) := by decide +kernel
theorem dX7_set_45 : decode cX7_set 45 = .ok (.if_icmp .ge 16, 3) := by decide +kernel
theorem dX7_set_48 : decode cX7_set 48 = .ok (.aload_n 0, 1) := by decide +kernel
theorem dX7_set_49 : decode cX7_set 49 = .ok (.iconst 0, 1) := by decide +kernel
theorem dX7_set_50 : decode cX7_set 50 = .ok (.iload_n 1, 1) := by decide +kernel
theorem dX7_set_51 : decode cX7_set 51 = .ok (.invokevirtual 37, 3) := by decide +kernel
theorem dX7_set_54 : decode cX7_set 54 = .ok (.iload_n 2, 1) := by decide +kernel
theorem dX7_set_55 : decode cX7_set 55 = .ok (.if_icmp .le 6, 3) := by decide +kernel
theorem dX7_set_58 : decode cX7_set 58 = .ok (.bipush (-2), 2) := by decide +kernel
theorem dX7_set_60 : decode cX7_set 60 = .ok (.ireturn, 1) := by decide +kernel
theorem dX7_set_61 : decode cX7_set 61 = .ok (.aload_n 0, 1) := by decide +kernel
theorem dX7_set_62 : decode cX7_set 62 = .ok (.invokevirtual 54, 3) := by decide +kernel
theorem dX7_set_65 : decode cX7_set 65 = .ok (.iload_n 1, 1) := by decide +kernel
theorem dX7_set_66 : decode cX7_set 66 = .ok (.bipush 8, 2) := by decide +kernel
theorem dX7_set_68 : decode cX7_set 68 = .ok (.if_icmp .ne 9, 3) := by decide +kernel
theorem dX7_set_71 : decode cX7_set 71 = .ok (.sipush 327, 3) := by decide +kernel
theorem dX7_set_74 : decode cX7_set 74 = .ok (.goto 8, 3) := by decide +kernel
theorem dX7_set_77 : decode cX7_set 77 = .ok (.sipush 241, 3) := by decide +kernel
theorem dX7_set_80 : decode cX7_set 80 = .ok (.iload_n 1, 1) := by decide +kernel
theorem dX7_set_81 : decode cX7_set 81 = .ok (.iadd, 1) := by decide +kernel
theorem dX7_set_82 : decode cX7_set 82 = .ok (.istore_n 3, 1) := by decide +kernel
theorem dX7_set_83 : decode cX7_set 83 = .ok (.aload_n 0, 1) := by decide +kernel
theorem dX7_set_84 : decode cX7_set 84 = .ok (.getfield 7, 3) := by decide +kernel
theorem dX7_set_87 : decode cX7_set 87 = .ok (.iload_n 3, 1) := by decide +kernel
theorem dX7_set_88 : decode cX7_set 88 = .ok (.iaload, 1) := by decide +kernel
theorem dX7_set_89 : decode cX7_set 89 = .ok (.istore 4, 2) := by decide +kernel
theorem dX7_set_91 : decode cX7_set 91 = .ok (.aload_n 0, 1) := by decide +kernel
theorem dX7_set_92 : decode cX7_set 92 = .ok (.getfield 7, 3) := by decide +kernel
theorem dX7_set_95 : decode cX7_set 95 = .ok (.iload_n 3, 1) := by decide +kernel
theorem dX7_set_96 : decode cX7_set 96 = .ok (.iload_n 2, 1) := by decide +kernel
theorem dX7_set_97 : decode cX7_set 97 = .ok (.iastore, 1) := by decide +kernel
theorem dX7_set_98 : decode cX7_set 98 = .ok (.iload 4, 2) := by decide +kernel
theorem dX7_set_100 : decode cX7_set 100 = .ok (.ireturn, 1) := by decide +kernel
theorem dX7_canBorrow_0 : decode cX7_canBorrow 0 = .ok (.aload_n 0, 1) := by decide +kernel
theorem dX7_canBorrow_1 : decode cX7_canBorrow 1 = .ok (.getfield 7, 3) := by decide +kernel
theorem dX7_canBorrow_4 : decode cX7_canBorrow 4 = .ok (.sipush 261, 3) := by decide +kernel
theorem dX7_canBorrow_7 : decode cX7_canBorrow 7 = .ok (.iload_n 1, 1) := by decide +kernel
theorem dX7_canBorrow_8 : decode cX7_canBorrow 8 = .ok (.iadd, 1) := by decide +kernel
theorem dX7_canBorrow_9 : decode cX7_canBorrow 9 = .ok (.iaload, 1) := by decide +kernel
theorem dX7_canBorrow_10 : decode cX7_canBorrow 10 = .ok (.ifCond .ge 22, 3) := by decide +kernel
theorem dX7_canBorrow_13 : decode cX7_canBorrow 13 = .ok (.aload_n 0, 1) := by decide +kernel
theorem dX7_canBorrow_14 : decode cX7_canBorrow 14 = .ok (.getfield 7, 3) := by decide +kernel
theorem dX7_canBorrow_17 : decode cX7_canBorrow 17 = .ok (.sipush 249, 3) := by decide +kernel
theorem dX7_canBorrow_20 : decode cX7_canBorrow 20 = .ok (.iload_n 1, 1) := by decide +kernel
theorem dX7_canBorrow_21 : decode cX7_canBorrow 21 = .ok (.iadd, 1) := by decide +kernel
theorem dX7_canBorrow_22 : decode cX7_canBorrow 22 = .ok (.iaload, 1) := by decide +kernel
theorem dX7_canBorrow_23 : decode cX7_canBorrow 23 = .ok (.bipush 10, 2) := by decide +kernel
theorem dX7_canBorrow_25 : decode cX7_canBorrow 25 = .ok (.if_icmp .lt 7, 3) := by decide +kernel
theorem dX7_canBorrow_28 : decode cX7_canBorrow 28 = .ok (.iconst 1, 1) := by decide +kernel
theorem dX7_canBorrow_29 : decode cX7_canBorrow 29 = .ok (.goto 4, 3) := by decide +kernel
theorem dX7_canBorrow_32 : decode cX7_canBorrow 32 = .ok (.iconst 0, 1) := by decide +kernel
theorem dX7_canBorrow_33 : decode cX7_canBorrow 33 = .ok (.ireturn, 1) := by decide +kernel
theorem dX7_whyBorrow_0 : decode cX7_whyBorrow 0 = .ok (.iload_n 1, 1) := by decide +kernel
theorem dX7_whyBorrow_1 : decode cX7_whyBorrow 1 = .ok (.invokestatic 65, 3) := by decide +kernel
theorem dX7_whyBorrow_4 : decode cX7_whyBorrow 4 = .ok (.ifCond .eq 10, 3) := by decide +kernel
theorem dX7_whyBorrow_7 : decode cX7_whyBorrow 7 = .ok (.iload_n 2, 1) := by decide +kernel
theorem dX7_whyBorrow_8 : decode cX7_whyBorrow 8 = .ok (.invokestatic 45, 3) := by decide +kernel
theorem dX7_whyBorrow_11 : decode cX7_whyBorrow 11 = .ok (.ifCond .ne 5, 3) := by decide +kernel
theorem dX7_whyBorrow_14 : decode cX7_whyBorrow 14 = .ok (.iconst (-1), 1) := by decide +kernel
theorem dX7_whyBorrow_15 : decode cX7_whyBorrow 15 = .ok (.ireturn, 1) := by decide +kernel
theorem dX7_whyBorrow_16 : decode cX7_whyBorrow 16 = .ok (.aload_n 0, 1) := by decide +kernel
theorem dX7_whyBorrow_17 : decode cX7_whyBorrow 17 = .ok (.iload_n 1, 1) := by decide +kernel
theorem dX7_whyBorrow_18 : decode cX7_whyBorrow 18 = .ok (.invokevirtual 68, 3) := by decide +kernel
theorem dX7_whyBorrow_21 : decode cX7_whyBorrow 21 = .ok (.ifCond .eq 11, 3) := by decide +kernel
theorem dX7_whyBorrow_24 : decode cX7_whyBorrow 24 = .ok (.aload_n 0, 1) := by decide +kernel
theorem dX7_whyBorrow_25 : decode cX7_whyBorrow 25 = .ok (.iload_n 2, 1) := by decide +kernel
theorem dX7_whyBorrow_26 : decode cX7_whyBorrow 26 = .ok (.invokevirtual 71, 3) := by decide +kernel
theorem dX7_whyBorrow_29 : decode cX7_whyBorrow 29 = .ok (.ifCond .ge 8, 3) := by decide +kernel
theorem dX7_whyBorrow_32 : decode cX7_whyBorrow 32 = .ok (.bipush (-2), 2) := by decide +kernel
theorem dX7_whyBorrow_34 : decode cX7_whyBorrow 34 = .ok (.goto 4, 3) := by decide +kernel
theorem dX7_whyBorrow_37 : decode cX7_whyBorrow 37 = .ok (.iconst 0, 1) := by decide +kernel
theorem dX7_whyBorrow_38 : decode cX7_whyBorrow 38 = .ok (.ireturn, 1) := by decide +kernel
theorem dX7_borrows_0 : decode cX7_borrows 0 = .ok (.aload_n 0, 1) := by decide +kernel
theorem dX7_borrows_1 : decode cX7_borrows 1 = .ok (.iload_n 2, 1) := by decide +kernel
theorem dX7_borrows_2 : decode cX7_borrows 2 = .ok (.invokevirtual 71, 3) := by decide +kernel
theorem dX7_borrows_5 : decode cX7_borrows 5 = .ok (.istore_n 3, 1) := by decide +kernel
theorem dX7_borrows_6 : decode cX7_borrows 6 = .ok (.aload_n 0, 1) := by decide +kernel
theorem dX7_borrows_7 : decode cX7_borrows 7 = .ok (.iload_n 3, 1) := by decide +kernel
theorem dX7_borrows_8 : decode cX7_borrows 8 = .ok (.iconst 1, 1) := by decide +kernel
theorem dX7_borrows_9 : decode cX7_borrows 9 = .ok (.iload_n 1, 1) := by decide +kernel
theorem dX7_borrows_10 : decode cX7_borrows 10 = .ok (.invokevirtual 57, 3) := by decide +kernel
theorem dX7_borrows_13 : decode cX7_borrows 13 = .ok (.aload_n 0, 1) := by decide +kernel
theorem dX7_borrows_14 : decode cX7_borrows 14 = .ok (.getfield 7, 3) := by decide +kernel
theorem dX7_borrows_17 : decode cX7_borrows 17 = .ok (.sipush 181, 3) := by decide +kernel
theorem dX7_borrows_20 : decode cX7_borrows 20 = .ok (.iload_n 3, 1) := by decide +kernel
theorem dX7_borrows_21 : decode cX7_borrows 21 = .ok (.iadd, 1) := by decide +kernel
theorem dX7_borrows_22 : decode cX7_borrows 22 = .ok (.dup2, 1) := by decide +kernel
theorem dX7_borrows_23 : decode cX7_borrows 23 = .ok (.iaload, 1) := by decide +kernel
theorem dX7_borrows_24 : decode cX7_borrows 24 = .ok (.iconst 1, 1) := by decide +kernel
theorem dX7_borrows_25 : decode cX7_borrows 25 = .ok (.iadd, 1) := by decide +kernel
theorem dX7_borrows_26 : decode cX7_borrows 26 = .ok (.iastore, 1) := by decide +kernel
theorem dX7_borrows_27 : decode cX7_borrows 27 = .ok (.aload_n 0, 1) := by decide +kernel
theorem dX7_borrows_28 : decode cX7_borrows 28 = .ok (.getfield 7, 3) := by decide +kernel
theorem dX7_borrows_31 : decode cX7_borrows 31 = .ok (.sipush 261, 3) := by decide +kernel
theorem dX7_borrows_34 : decode cX7_borrows 34 = .ok (.iload_n 1, 1) := by decide +kernel
theorem dX7_borrows_35 : decode cX7_borrows 35 = .ok (.iadd, 1) := by decide +kernel
theorem dX7_borrows_36 : decode cX7_borrows 36 = .ok (.iload_n 3, 1) := by decide +kernel
theorem dX7_borrows_37 : decode cX7_borrows 37 = .ok (.iastore, 1) := by decide +kernel
theorem dX7_borrows_38 : decode cX7_borrows 38 = .ok (.aload_n 0, 1) := by decide +kernel
theorem dX7_borrows_39 : decode cX7_borrows 39 = .ok (.getfield 7, 3) := by decide +kernel
theorem dX7_borrows_42 : decode cX7_borrows 42 = .ok (.sipush 249, 3) := by decide +kernel
theorem dX7_borrows_45 : decode cX7_borrows 45 = .ok (.iload_n 1, 1) := by decide +kernel
theorem dX7_borrows_46 : decode cX7_borrows 46 = .ok (.iadd, 1) := by decide +kernel
theorem dX7_borrows_47 : decode cX7_borrows 47 = .ok (.dup2, 1) := by decide +kernel
theorem dX7_borrows_48 : decode cX7_borrows 48 = .ok (.iaload, 1) := by decide +kernel
theorem dX7_borrows_49 : decode cX7_borrows 49 = .ok (.bipush 10, 2) := by decide +kernel
theorem dX7_borrows_51 : decode cX7_borrows 51 = .ok (.isub, 1) := by decide +kernel
theorem dX7_borrows_52 : decode cX7_borrows 52 = .ok (.iastore, 1) := by decide +kernel
theorem dX7_borrows_53 : decode cX7_borrows 53 = .ok (.aload_n 0, 1) := by decide +kernel
theorem dX7_borrows_54 : decode cX7_borrows 54 = .ok (.getfield 7, 3) := by decide +kernel
theorem dX7_borrows_57 : decode cX7_borrows 57 = .ok (.sipush 321, 3) := by decide +kernel
theorem dX7_borrows_60 : decode cX7_borrows 60 = .ok (.dup2, 1) := by decide +kernel
theorem dX7_borrows_61 : decode cX7_borrows 61 = .ok (.iaload, 1) := by decide +kernel
theorem dX7_borrows_62 : decode cX7_borrows 62 = .ok (.bipush 10, 2) := by decide +kernel
theorem dX7_borrows_64 : decode cX7_borrows 64 = .ok (.iadd, 1) := by decide +kernel
theorem dX7_borrows_65 : decode cX7_borrows 65 = .ok (.iastore, 1) := by decide +kernel
theorem dX7_borrows_66 : decode cX7_borrows 66 = .ok (.aload_n 0, 1) := by decide +kernel
theorem dX7_borrows_67 : decode cX7_borrows 67 = .ok (.getfield 7, 3) := by decide +kernel
theorem dX7_borrows_70 : decode cX7_borrows 70 = .ok (.sipush 273, 3) := by decide +kernel
theorem dX7_borrows_73 : decode cX7_borrows 73 = .ok (.iload_n 1, 1) := by decide +kernel
theorem dX7_borrows_74 : decode cX7_borrows 74 = .ok (.iadd, 1) := by decide +kernel
theorem dX7_borrows_75 : decode cX7_borrows 75 = .ok (.iconst 0, 1) := by decide +kernel
theorem dX7_borrows_76 : decode cX7_borrows 76 = .ok (.iastore, 1) := by decide +kernel
theorem dX7_borrows_77 : decode cX7_borrows 77 = .ok (.aload_n 0, 1) := by decide +kernel
theorem dX7_borrows_78 : decode cX7_borrows 78 = .ok (.getfield 7, 3) := by decide +kernel
theorem dX7_borrows_81 : decode cX7_borrows 81 = .ok (.sipush 285, 3) := by decide +kernel
theorem dX7_borrows_84 : decode cX7_borrows 84 = .ok (.iload_n 1, 1) := by decide +kernel
theorem dX7_borrows_85 : decode cX7_borrows 85 = .ok (.iadd, 1) := by decide +kernel
theorem dX7_borrows_86 : decode cX7_borrows 86 = .ok (.iconst 0, 1) := by decide +kernel
theorem dX7_borrows_87 : decode cX7_borrows 87 = .ok (.iastore, 1) := by decide +kernel
theorem dX7_borrows_88 : decode cX7_borrows 88 = .ok (.aload_n 0, 1) := by decide +kernel
theorem dX7_borrows_89 : decode cX7_borrows 89 = .ok (.getfield 7, 3) := by decide +kernel
theorem dX7_borrows_92 : decode cX7_borrows 92 = .ok (.sipush 325, 3) := by decide +kernel
theorem dX7_borrows_95 : decode cX7_borrows 95 = .ok (.dup2, 1) := by decide +kernel
theorem dX7_borrows_96 : decode cX7_borrows 96 = .ok (.iaload, 1) := by decide +kernel
theorem dX7_borrows_97 : decode cX7_borrows 97 = .ok (.iconst 1, 1) := by decide +kernel
theorem dX7_borrows_98 : decode cX7_borrows 98 = .ok (.iadd, 1) := by decide +kernel
theorem dX7_borrows_99 : decode cX7_borrows 99 = .ok (.iastore, 1) := by decide +kernel
theorem dX7_borrows_100 : decode cX7_borrows 100 = .ok (.iload_n 3, 1) := by decide +kernel
theorem dX7_borrows_101 : decode cX7_borrows 101 = .ok (.ireturn, 1) := by decide +kernel
theorem dX7_borrow_0 : decode cX7_borrow 0 = .ok (.aload_n 0, 1) := by decide +kernel
theorem dX7_borrow_1 : decode cX7_borrow 1 = .ok (.iload_n 1, 1) := by decide +kernel
theorem dX7_borrow_2 : decode cX7_borrow 2 = .ok (.iload_n 2, 1) := by decide +kernel
theorem dX7_borrow_3 : decode cX7_borrow 3 = .ok (.invokevirtual 74, 3) := by decide +kernel
theorem dX7_borrow_6 : decode cX7_borrow 6 = .ok (.istore_n 3, 1) := by decide +kernel
theorem dX7_borrow_7 : decode cX7_borrow 7 = .ok (.iload_n 3, 1) := by decide +kernel
theorem dX7_borrow_8 : decode cX7_borrow 8 = .ok (.ifCond .ge 5, 3) := by decide +kernel
theorem dX7_borrow_11 : decode cX7_borrow 11 = .ok (.iload_n 3, 1) := by decide +kernel
theorem dX7_borrow_12 : decode cX7_borrow 12 = .ok (.ireturn, 1) := by decide +kernel
theorem dX7_borrow_13 : decode cX7_borrow 13 = .ok (.aload_n 0, 1) := by decide +kernel
theorem dX7_borrow_14 : decode cX7_borrow 14 = .ok (.invokevirtual 54, 3) := by decide +kernel
theorem dX7_borrow_17 : decode cX7_borrow 17 = .ok (.aload_n 0, 1) := by decide +kernel
theorem dX7_borrow_18 : decode cX7_borrow 18 = .ok (.iload_n 1, 1) := by decide +kernel
theorem dX7_borrow_19 : decode cX7_borrow 19 = .ok (.iload_n 2, 1) := by decide +kernel
theorem dX7_borrow_20 : decode cX7_borrow 20 = .ok (.invokevirtual 77, 3) := by decide +kernel
theorem dX7_borrow_23 : decode cX7_borrow 23 = .ok (.ireturn, 1) := by decide +kernel
theorem dX7_fee_0 : decode cX7_fee 0 = .ok (.aload_n 0, 1) := by decide +kernel
theorem dX7_fee_1 : decode cX7_fee 1 = .ok (.getfield 7, 3) := by decide +kernel
theorem dX7_fee_4 : decode cX7_fee 4 = .ok (.sipush 327, 3) := by decide +kernel
theorem dX7_fee_7 : decode cX7_fee 7 = .ok (.iaload, 1) := by decide +kernel
theorem dX7_fee_8 : decode cX7_fee 8 = .ok (.iload_n 1, 1) := by decide +kernel
theorem dX7_fee_9 : decode cX7_fee 9 = .ok (.imul, 1) := by decide +kernel
theorem dX7_fee_10 : decode cX7_fee 10 = .ok (.iload_n 2, 1) := by decide +kernel
theorem dX7_fee_11 : decode cX7_fee 11 = .ok (.ifCond .eq 7, 3) := by decide +kernel
theorem dX7_fee_14 : decode cX7_fee 14 = .ok (.iconst 4, 1) := by decide +kernel
theorem dX7_fee_15 : decode cX7_fee 15 = .ok (.goto 4, 3) := by decide +kernel
theorem dX7_fee_18 : decode cX7_fee 18 = .ok (.iconst 0, 1) := by decide +kernel
theorem dX7_fee_19 : decode cX7_fee 19 = .ok (.iadd, 1) := by decide +kernel
theorem dX7_fee_20 : decode cX7_fee 20 = .ok (.istore_n 3, 1) := by decide +kernel
theorem dX7_fee_21 : decode cX7_fee 21 = .ok (.iload_n 3, 1) := by decide +kernel
theorem dX7_fee_22 : decode cX7_fee 22 = .ok (.bipush 10, 2) := by decide +kernel
theorem dX7_fee_24 : decode cX7_fee 24 = .ok (.if_icmp .le 8, 3) := by decide +kernel
theorem dX7_fee_27 : decode cX7_fee 27 = .ok (.bipush 10, 2) := by decide +kernel
theorem dX7_fee_29 : decode cX7_fee 29 = .ok (.goto 4, 3) := by decide +kernel
theorem dX7_fee_32 : decode cX7_fee 32 = .ok (.iload_n 3, 1) := by decide +kernel
theorem dX7_fee_33 : decode cX7_fee 33 = .ok (.ireturn, 1) := by decide +kernel
theorem dX7_whyBring_0 : decode cX7_whyBring 0 = .ok (.iload_n 1, 1) := by decide +kernel
theorem dX7_whyBring_1 : decode cX7_whyBring 1 = .ok (.invokestatic 65, 3) := by decide +kernel
theorem dX7_whyBring_4 : decode cX7_whyBring 4 = .ok (.ifCond .eq 10, 3) := by decide +kernel
theorem dX7_whyBring_7 : decode cX7_whyBring 7 = .ok (.iload_n 2, 1) := by decide +kernel
theorem dX7_whyBring_8 : decode cX7_whyBring 8 = .ok (.invokestatic 45, 3) := by decide +kernel
theorem dX7_whyBring_11 : decode cX7_whyBring 11 = .ok (.ifCond .ne 5, 3) := by decide +kernel
theorem dX7_whyBring_14 : decode cX7_whyBring 14 = .ok (.iconst (-1), 1) := by decide +kernel
theorem dX7_whyBring_15 : decode cX7_whyBring 15 = .ok (.ireturn, 1) := by decide +kernel
theorem dX7_whyBring_16 : decode cX7_whyBring 16 = .ok (.aload_n 0, 1) := by decide +kernel
theorem dX7_whyBring_17 : decode cX7_whyBring 17 = .ok (.getfield 7, 3) := by decide +kernel
theorem dX7_whyBring_20 : decode cX7_whyBring 20 = .ok (.sipush 261, 3) := by decide +kernel
theorem dX7_whyBring_23 : decode cX7_whyBring 23 = .ok (.iload_n 1, 1) := by decide +kernel
theorem dX7_whyBring_24 : decode cX7_whyBring 24 = .ok (.iadd, 1) := by decide +kernel
theorem dX7_whyBring_25 : decode cX7_whyBring 25 = .ok (.iaload, 1) := by decide +kernel
theorem dX7_whyBring_26 : decode cX7_whyBring 26 = .ok (.ifCond .ge 8, 3) := by decide +kernel
theorem dX7_whyBring_29 : decode cX7_whyBring 29 = .ok (.bipush (-2), 2) := by decide +kernel
theorem dX7_whyBring_31 : decode cX7_whyBring 31 = .ok (.goto 17, 3) := by decide +kernel
theorem dX7_whyBring_34 : decode cX7_whyBring 34 = .ok (.aload_n 0, 1) := by decide +kernel
theorem dX7_whyBring_35 : decode cX7_whyBring 35 = .ok (.iload_n 2, 1) := by decide +kernel
theorem dX7_whyBring_36 : decode cX7_whyBring 36 = .ok (.invokevirtual 51, 3) := by decide +kernel
theorem dX7_whyBring_39 : decode cX7_whyBring 39 = .ok (.ifCond .gt 8, 3) := by decide +kernel
theorem dX7_whyBring_42 : decode cX7_whyBring 42 = .ok (.bipush (-3), 2) := by decide +kernel
theorem dX7_whyBring_44 : decode cX7_whyBring 44 = .ok (.goto 4, 3) := by decide +kernel
theorem dX7_whyBring_47 : decode cX7_whyBring 47 = .ok (.iconst 0, 1) := by decide +kernel
theorem dX7_whyBring_48 : decode cX7_whyBring 48 = .ok (.ireturn, 1) := by decide +kernel
theorem dX7_brings_0 : decode cX7_brings 0 = .ok (.aload_n 0, 1) := by decide +kernel
theorem dX7_brings_1 : decode cX7_brings 1 = .ok (.aload_n 0, 1) := by decide +kernel
theorem dX7_brings_2 : decode cX7_brings 2 = .ok (.getfield 7, 3) := by decide +kernel
theorem dX7_brings_5 : decode cX7_brings 5 = .ok (.sipush 273, 3) := by decide +kernel
theorem dX7_brings_8 : decode cX7_brings 8 = .ok (.iload_n 1, 1) := by decide +kernel
theorem dX7_brings_9 : decode cX7_brings 9 = .ok (.iadd, 1) := by decide +kernel
theorem dX7_brings_10 : decode cX7_brings 10 = .ok (.iaload, 1) := by decide +kernel
theorem dX7_brings_11 : decode cX7_brings 11 = .ok (.aload_n 0, 1) := by decide +kernel
theorem dX7_brings_12 : decode cX7_brings 12 = .ok (.getfield 7, 3) := by decide +kernel
theorem dX7_brings_15 : decode cX7_brings 15 = .ok (.sipush 285, 3) := by decide +kernel
theorem dX7_brings_18 : decode cX7_brings 18 = .ok (.iload_n 1, 1) := by decide +kernel
theorem dX7_brings_19 : decode cX7_brings 19 = .ok (.iadd, 1) := by decide +kernel
theorem dX7_brings_20 : decode cX7_brings 20 = .ok (.iaload, 1) := by decide +kernel
theorem dX7_brings_21 : decode cX7_brings 21 = .ok (.iconst 1, 1) := by decide +kernel
theorem dX7_brings_22 : decode cX7_brings 22 = .ok (.if_icmp .ne 7, 3) := by decide +kernel
theorem dX7_brings_25 : decode cX7_brings 25 = .ok (.iconst 1, 1) := by decide +kernel
theorem dX7_brings_26 : decode cX7_brings 26 = .ok (.goto 4, 3) := by decide +kernel
theorem dX7_brings_29 : decode cX7_brings 29 = .ok (.iconst 0, 1) := by decide +kernel
theorem dX7_brings_30 : decode cX7_brings 30 = .ok (.invokevirtual 80, 3) := by decide +kernel
theorem dX7_brings_33 : decode cX7_brings 33 = .ok (.istore_n 3, 1) := by decide +kernel
theorem dX7_brings_34 : decode cX7_brings 34 = .ok (.aload_n 0, 1) := by decide +kernel
theorem dX7_brings_35 : decode cX7_brings 35 = .ok (.aload_n 0, 1) := by decide +kernel
theorem dX7_brings_36 : decode cX7_brings 36 = .ok (.getfield 7, 3) := by decide +kernel
theorem dX7_brings_39 : decode cX7_brings 39 = .ok (.sipush 261, 3) := by decide +kernel
theorem dX7_brings_42 : decode cX7_brings 42 = .ok (.iload_n 1, 1) := by decide +kernel
theorem dX7_brings_43 : decode cX7_brings 43 = .ok (.iadd, 1) := by decide +kernel
theorem dX7_brings_44 : decode cX7_brings 44 = .ok (.iaload, 1) := by decide +kernel
theorem dX7_brings_45 : decode cX7_brings 45 = .ok (.iconst 0, 1) := by decide +kernel
theorem dX7_brings_46 : decode cX7_brings 46 = .ok (.iload_n 2, 1) := by decide +kernel
theorem dX7_brings_47 : decode cX7_brings 47 = .ok (.invokevirtual 57, 3) := by decide +kernel
theorem dX7_brings_50 : decode cX7_brings 50 = .ok (.aload_n 0, 1) := by decide +kernel
theorem dX7_brings_51 : decode cX7_brings 51 = .ok (.getfield 7, 3) := by decide +kernel
theorem dX7_brings_54 : decode cX7_brings 54 = .ok (.sipush 261, 3) := by decide +kernel
theorem dX7_brings_57 : decode cX7_brings 57 = .ok (.iload_n 1, 1) := by decide +kernel
theorem dX7_brings_58 : decode cX7_brings 58 = .ok (.iadd, 1) := by decide +kernel
theorem dX7_brings_59 : decode cX7_brings 59 = .ok (.iconst (-1), 1) := by decide +kernel
theorem dX7_brings_60 : decode cX7_brings 60 = .ok (.iastore, 1) := by decide +kernel
theorem dX7_brings_61 : decode cX7_brings 61 = .ok (.aload_n 0, 1) := by decide +kernel
theorem dX7_brings_62 : decode cX7_brings 62 = .ok (.getfield 7, 3) := by decide +kernel
theorem dX7_brings_65 : decode cX7_brings 65 = .ok (.sipush 273, 3) := by decide +kernel
theorem dX7_brings_68 : decode cX7_brings 68 = .ok (.iload_n 1, 1) := by decide +kernel
theorem dX7_brings_69 : decode cX7_brings 69 = .ok (.iadd, 1) := by decide +kernel
theorem dX7_brings_70 : decode cX7_brings 70 = .ok (.iconst 0, 1) := by decide +kernel
theorem dX7_brings_71 : decode cX7_brings 71 = .ok (.iastore, 1) := by decide +kernel
theorem dX7_brings_72 : decode cX7_brings 72 = .ok (.aload_n 0, 1) := by decide +kernel
theorem dX7_brings_73 : decode cX7_brings 73 = .ok (.getfield 7, 3) := by decide +kernel
theorem dX7_brings_76 : decode cX7_brings 76 = .ok (.sipush 285, 3) := by decide +kernel
theorem dX7_brings_79 : decode cX7_brings 79 = .ok (.iload_n 1, 1) := by decide +kernel
theorem dX7_brings_80 : decode cX7_brings 80 = .ok (.iadd, 1) := by decide +kernel
theorem dX7_brings_81 : decode cX7_brings 81 = .ok (.iconst 0, 1) := by decide +kernel
theorem dX7_brings_82 : decode cX7_brings 82 = .ok (.iastore, 1) := by decide +kernel
theorem dX7_brings_83 : decode cX7_brings 83 = .ok (.aload_n 0, 1) := by decide +kernel
theorem dX7_brings_84 : decode cX7_brings 84 = .ok (.getfield 7, 3) := by decide +kernel
theorem dX7_brings_87 : decode cX7_brings 87 = .ok (.sipush 297, 3) := by decide +kernel
theorem dX7_brings_90 : decode cX7_brings 90 = .ok (.iload_n 1, 1) := by decide +kernel
theorem dX7_brings_91 : decode cX7_brings 91 = .ok (.iadd, 1) := by decide +kernel
theorem dX7_brings_92 : decode cX7_brings 92 = .ok (.iload_n 2, 1) := by decide +kernel
theorem dX7_brings_93 : decode cX7_brings 93 = .ok (.iastore, 1) := by decide +kernel
theorem dX7_brings_94 : decode cX7_brings 94 = .ok (.aload_n 0, 1) := by decide +kernel
theorem dX7_brings_95 : decode cX7_brings 95 = .ok (.getfield 7, 3) := by decide +kernel
theorem dX7_brings_98 : decode cX7_brings 98 = .ok (.sipush 249, 3) := by decide +kernel
theorem dX7_brings_101 : decode cX7_brings 101 = .ok (.iload_n 1, 1) := by decide +kernel
theorem dX7_brings_102 : decode cX7_brings 102 = .ok (.iadd, 1) := by decide +kernel
theorem dX7_brings_103 : decode cX7_brings 103 = .ok (.dup2, 1) := by decide +kernel
theorem dX7_brings_104 : decode cX7_brings 104 = .ok (.iaload, 1) := by decide +kernel
theorem dX7_brings_105 : decode cX7_brings 105 = .ok (.bipush 10, 2) := by decide +kernel
theorem dX7_brings_107 : decode cX7_brings 107 = .ok (.iload_n 3, 1) := by decide +kernel
theorem dX7_brings_108 : decode cX7_brings 108 = .ok (.isub, 1) := by decide +kernel
theorem dX7_brings_109 : decode cX7_brings 109 = .ok (.iadd, 1) := by decide +kernel
theorem dX7_brings_110 : decode cX7_brings 110 = .ok (.iastore, 1) := by decide +kernel
theorem dX7_brings_111 : decode cX7_brings 111 = .ok (.aload_n 0, 1) := by decide +kernel
theorem dX7_brings_112 : decode cX7_brings 112 = .ok (.getfield 7, 3) := by decide +kernel
theorem dX7_brings_115 : decode cX7_brings 115 = .ok (.sipush 321, 3) := by decide +kernel
theorem dX7_brings_118 : decode cX7_brings 118 = .ok (.dup2, 1) := by decide +kernel
theorem dX7_brings_119 : decode cX7_brings 119 = .ok (.iaload, 1) := by decide +kernel
theorem dX7_brings_120 : decode cX7_brings 120 = .ok (.bipush 10, 2) := by decide +kernel
theorem dX7_brings_122 : decode cX7_brings 122 = .ok (.iload_n 3, 1) := by decide +kernel
theorem dX7_brings_123 : decode cX7_brings 123 = .ok (.isub, 1) := by decide +kernel
theorem dX7_brings_124 : decode cX7_brings 124 = .ok (.isub, 1) := by decide +kernel
theorem dX7_brings_125 : decode cX7_brings 125 = .ok (.iastore, 1) := by decide +kernel
theorem dX7_brings_126 : decode cX7_brings 126 = .ok (.aload_n 0, 1) := by decide +kernel
theorem dX7_brings_127 : decode cX7_brings 127 = .ok (.getfield 7, 3) := by decide +kernel
theorem dX7_brings_130 : decode cX7_brings 130 = .ok (.sipush 309, 3) := by decide +kernel
theorem dX7_brings_133 : decode cX7_brings 133 = .ok (.iload_n 1, 1) := by decide +kernel
theorem dX7_brings_134 : decode cX7_brings 134 = .ok (.iadd, 1) := by decide +kernel
theorem dX7_brings_135 : decode cX7_brings 135 = .ok (.dup2, 1) := by decide +kernel
theorem dX7_brings_136 : decode cX7_brings 136 = .ok (.iaload, 1) := by decide +kernel
theorem dX7_brings_137 : decode cX7_brings 137 = .ok (.iload_n 3, 1) := by decide +kernel
theorem dX7_brings_138 : decode cX7_brings 138 = .ok (.iadd, 1) := by decide +kernel
theorem dX7_brings_139 : decode cX7_brings 139 = .ok (.iastore, 1) := by decide +kernel
theorem dX7_brings_140 : decode cX7_brings 140 = .ok (.aload_n 0, 1) := by decide +kernel
theorem dX7_brings_141 : decode cX7_brings 141 = .ok (.getfield 7, 3) := by decide +kernel
theorem dX7_brings_144 : decode cX7_brings 144 = .ok (.sipush 324, 3) := by decide +kernel
theorem dX7_brings_147 : decode cX7_brings 147 = .ok (.dup2, 1) := by decide +kernel
theorem dX7_brings_148 : decode cX7_brings 148 = .ok (.iaload, 1) := by decide +kernel
theorem dX7_brings_149 : decode cX7_brings 149 = .ok (.iload_n 3, 1) := by decide +kernel
theorem dX7_brings_150 : decode cX7_brings 150 = .ok (.iadd, 1) := by decide +kernel
theorem dX7_brings_151 : decode cX7_brings 151 = .ok (.iastore, 1) := by decide +kernel
theorem dX7_brings_152 : decode cX7_brings 152 = .ok (.iload_n 3, 1) := by decide +kernel
theorem dX7_brings_153 : decode cX7_brings 153 = .ok (.ireturn, 1) := by decide +kernel
theorem dX7_bringBack_0 : decode cX7_bringBack 0 = .ok (.aload_n 0, 1) := by decide +kernel
theorem dX7_bringBack_1 : decode cX7_bringBack 1 = .ok (.iload_n 1, 1) := by decide +kernel
theorem dX7_bringBack_2 : decode cX7_bringBack 2 = .ok (.iload_n 2, 1) := by decide +kernel
theorem dX7_bringBack_3 : decode cX7_bringBack 3 = .ok (.invokevirtual 84, 3) := by decide +kernel
theorem dX7_bringBack_6 : decode cX7_bringBack 6 = .ok (.istore_n 3, 1) := by decide +kernel
theorem dX7_bringBack_7 : decode cX7_bringBack 7 = .ok (.iload_n 3, 1) := by decide +kernel
theorem dX7_bringBack_8 : decode cX7_bringBack 8 = .ok (.ifCond .ge 5, 3) := by decide +kernel
theorem dX7_bringBack_11 : decode cX7_bringBack 11 = .ok (.iload_n 3, 1) := by decide +kernel
theorem dX7_bringBack_12 : decode cX7_bringBack 12 = .ok (.ireturn, 1) := by decide +kernel
theorem dX7_bringBack_13 : decode cX7_bringBack 13 = .ok (.aload_n 0, 1) := by decide +kernel
theorem dX7_bringBack_14 : decode cX7_bringBack 14 = .ok (.invokevirtual 54, 3) := by decide +kernel
theorem dX7_bringBack_17 : decode cX7_bringBack 17 = .ok (.aload_n 0, 1) := by decide +kernel
theorem dX7_bringBack_18 : decode cX7_bringBack 18 = .ok (.iload_n 1, 1) := by decide +kernel
theorem dX7_bringBack_19 : decode cX7_bringBack 19 = .ok (.iload_n 2, 1) := by decide +kernel
theorem dX7_bringBack_20 : decode cX7_bringBack 20 = .ok (.invokevirtual 87, 3) := by decide +kernel
theorem dX7_bringBack_23 : decode cX7_bringBack 23 = .ok (.ireturn, 1) := by decide +kernel
theorem dX7_worn_0 : decode cX7_worn 0 = .ok (.iload_n 0, 1) := by decide +kernel
theorem dX7_worn_1 : decode cX7_worn 1 = .ok (.iload_n 0, 1) := by decide +kernel
theorem dX7_worn_2 : decode cX7_worn 2 = .ok (.bipush 16, 2) := by decide +kernel
theorem dX7_worn_4 : decode cX7_worn 4 = .ok (.if_icmp .ge 7, 3) := by decide +kernel
theorem dX7_worn_7 : decode cX7_worn 7 = .ok (.iconst 1, 1) := by decide +kernel
theorem dX7_worn_8 : decode cX7_worn 8 = .ok (.goto 4, 3) := by decide +kernel
theorem dX7_worn_11 : decode cX7_worn 11 = .ok (.iconst 2, 1) := by decide +kernel
theorem dX7_worn_12 : decode cX7_worn 12 = .ok (.iload_n 1, 1) := by decide +kernel
theorem dX7_worn_13 : decode cX7_worn 13 = .ok (.imul, 1) := by decide +kernel
theorem dX7_worn_14 : decode cX7_worn 14 = .ok (.iadd, 1) := by decide +kernel
theorem dX7_worn_15 : decode cX7_worn 15 = .ok (.iconst 2, 1) := by decide +kernel
theorem dX7_worn_16 : decode cX7_worn 16 = .ok (.iload_n 2, 1) := by decide +kernel
theorem dX7_worn_17 : decode cX7_worn 17 = .ok (.imul, 1) := by decide +kernel
theorem dX7_worn_18 : decode cX7_worn 18 = .ok (.iadd, 1) := by decide +kernel
theorem dX7_worn_19 : decode cX7_worn 19 = .ok (.istore_n 3, 1) := by decide +kernel
theorem dX7_worn_20 : decode cX7_worn 20 = .ok (.iload_n 3, 1) := by decide +kernel
theorem dX7_worn_21 : decode cX7_worn 21 = .ok (.bipush 64, 2) := by decide +kernel
theorem dX7_worn_23 : decode cX7_worn 23 = .ok (.if_icmp .le 8, 3) := by decide +kernel
theorem dX7_worn_26 : decode cX7_worn 26 = .ok (.bipush 64, 2) := by decide +kernel
theorem dX7_worn_28 : decode cX7_worn 28 = .ok (.goto 4, 3) := by decide +kernel
theorem dX7_worn_31 : decode cX7_worn 31 = .ok (.iload_n 3, 1) := by decide +kernel
theorem dX7_worn_32 : decode cX7_worn 32 = .ok (.ireturn, 1) := by decide +kernel
theorem dX7_passes_0 : decode cX7_passes 0 = .ok (.iconst 0, 1) := by decide +kernel
theorem dX7_passes_1 : decode cX7_passes 1 = .ok (.istore_n 3, 1) := by decide +kernel
theorem dX7_passes_2 : decode cX7_passes 2 = .ok (.aload_n 0, 1) := by decide +kernel
theorem dX7_passes_3 : decode cX7_passes 3 = .ok (.getfield 7, 3) := by decide +kernel
theorem dX7_passes_6 : decode cX7_passes 6 = .ok (.sipush 322, 3) := by decide +kernel
theorem dX7_passes_9 : decode cX7_passes 9 = .ok (.dup2, 1) := by decide +kernel
theorem dX7_passes_10 : decode cX7_passes 10 = .ok (.iaload, 1) := by decide +kernel
theorem dX7_passes_11 : decode cX7_passes 11 = .ok (.iconst 1, 1) := by decide +kernel
theorem dX7_passes_12 : decode cX7_passes 12 = .ok (.iadd, 1) := by decide +kernel
theorem dX7_passes_13 : decode cX7_passes 13 = .ok (.iastore, 1) := by decide +kernel
theorem dX7_passes_14 : decode cX7_passes 14 = .ok (.iconst 0, 1) := by decide +kernel
theorem dX7_passes_15 : decode cX7_passes 15 = .ok (.istore 4, 2) := by decide +kernel
theorem dX7_passes_17 : decode cX7_passes 17 = .ok (.iload 4, 2) := by decide +kernel
theorem dX7_passes_19 : decode cX7_passes 19 = .ok (.bipush 12, 2) := by decide +kernel
theorem dX7_passes_21 : decode cX7_passes 21 = .ok (.if_icmp .ge 158, 3) := by decide +kernel
theorem dX7_passes_24 : decode cX7_passes 24 = .ok (.aload_n 0, 1) := by decide +kernel
theorem dX7_passes_25 : decode cX7_passes 25 = .ok (.getfield 7, 3) := by decide +kernel
theorem dX7_passes_28 : decode cX7_passes 28 = .ok (.sipush 261, 3) := by decide +kernel
theorem dX7_passes_31 : decode cX7_passes 31 = .ok (.iload 4, 2) := by decide +kernel
theorem dX7_passes_33 : decode cX7_passes 33 = .ok (.iadd, 1) := by decide +kernel
theorem dX7_passes_34 : decode cX7_passes 34 = .ok (.iaload, 1) := by decide +kernel
theorem dX7_passes_35 : decode cX7_passes 35 = .ok (.ifCond .lt 138, 3) := by decide +kernel
theorem dX7_passes_38 : decode cX7_passes 38 = .ok (.aload_n 0, 1) := by decide +kernel
theorem dX7_passes_39 : decode cX7_passes 39 = .ok (.getfield 7, 3) := by decide +kernel
theorem dX7_passes_42 : decode cX7_passes 42 = .ok (.sipush 261, 3) := by decide +kernel
theorem dX7_passes_45 : decode cX7_passes 45 = .ok (.iload 4, 2) := by decide +kernel
theorem dX7_passes_47 : decode cX7_passes 47 = .ok (.iadd, 1) := by decide +kernel
theorem dX7_passes_48 : decode cX7_passes 48 = .ok (.iaload, 1) := by decide +kernel
theorem dX7_passes_49 : decode cX7_passes 49 = .ok (.istore 5, 2) := by decide +kernel
theorem dX7_passes_51 : decode cX7_passes 51 = .ok (.aload_n 0, 1) := by decide +kernel
theorem dX7_passes_52 : decode cX7_passes 52 = .ok (.iload 5, 2) := by decide +kernel
theorem dX7_passes_54 : decode cX7_passes 54 = .ok (.invokevirtual 33, 3) := by decide +kernel
theorem dX7_passes_57 : decode cX7_passes 57 = .ok (.istore 6, 2) := by decide +kernel
theorem dX7_passes_59 : decode cX7_passes 59 = .ok (.aload_n 0, 1) := by decide +kernel
theorem dX7_passes_60 : decode cX7_passes 60 = .ok (.getfield 7, 3) := by decide +kernel
theorem dX7_passes_63 : decode cX7_passes 63 = .ok (.bipush 121, 2) := by decide +kernel
theorem dX7_passes_65 : decode cX7_passes 65 = .ok (.iload 5, 2) := by decide +kernel
theorem dX7_passes_67 : decode cX7_passes 67 = .ok (.iadd, 1) := by decide +kernel
theorem dX7_passes_68 : decode cX7_passes 68 = .ok (.aload_n 0, 1) := by decide +kernel
theorem dX7_passes_69 : decode cX7_passes 69 = .ok (.getfield 7, 3) := by decide +kernel
theorem dX7_passes_72 : decode cX7_passes 72 = .ok (.bipush 121, 2) := by decide +kernel
theorem dX7_passes_74 : decode cX7_passes 74 = .ok (.iload 5, 2) := by decide +kernel
theorem dX7_passes_76 : decode cX7_passes 76 = .ok (.iadd, 1) := by decide +kernel
theorem dX7_passes_77 : decode cX7_passes 77 = .ok (.iaload, 1) := by decide +kernel
theorem dX7_passes_78 : decode cX7_passes 78 = .ok (.iload_n 1, 1) := by decide +kernel
theorem dX7_passes_79 : decode cX7_passes 79 = .ok (.iload_n 2, 1) := by decide +kernel
theorem dX7_passes_80 : decode cX7_passes 80 = .ok (.invokestatic 90, 3) := by decide +kernel
theorem dX7_passes_83 : decode cX7_passes 83 = .ok (.iastore, 1) := by decide +kernel
theorem dX7_passes_84 : decode cX7_passes 84 = .ok (.aload_n 0, 1) := by decide +kernel
theorem dX7_passes_85 : decode cX7_passes 85 = .ok (.getfield 7, 3) := by decide +kernel
theorem dX7_passes_88 : decode cX7_passes 88 = .ok (.sipush 273, 3) := by decide +kernel
theorem dX7_passes_91 : decode cX7_passes 91 = .ok (.iload 4, 2) := by decide +kernel
theorem dX7_passes_93 : decode cX7_passes 93 = .ok (.iadd, 1) := by decide +kernel
theorem dX7_passes_94 : decode cX7_passes 94 = .ok (.dup2, 1) := by decide +kernel
theorem dX7_passes_95 : decode cX7_passes 95 = .ok (.iaload, 1) := by decide +kernel
theorem dX7_passes_96 : decode cX7_passes 96 = .ok (.iload_n 1, 1) := by decide +kernel
theorem dX7_passes_97 : decode cX7_passes 97 = .ok (.iconst 2, 1) := by decide +kernel
theorem dX7_passes_98 : decode cX7_passes 98 = .ok (.if_icmp .lt 7, 3) := by decide +kernel
theorem dX7_passes_101 : decode cX7_passes 101 = .ok (.iconst 1, 1) := by decide +kernel
theorem dX7_passes_102 : decode cX7_passes 102 = .ok (.goto 4, 3) := by decide +kernel
theorem dX7_passes_105 : decode cX7_passes 105 = .ok (.iconst 0, 1) := by decide +kernel
theorem dX7_passes_106 : decode cX7_passes 106 = .ok (.iadd, 1) := by decide +kernel
theorem dX7_passes_107 : decode cX7_passes 107 = .ok (.iastore, 1) := by decide +kernel
theorem dX7_passes_108 : decode cX7_passes 108 = .ok (.iload 6, 2) := by decide +kernel
theorem dX7_passes_110 : decode cX7_passes 110 = .ok (.ifCond .ne 16, 3) := by decide +kernel
theorem dX7_passes_113 : decode cX7_passes 113 = .ok (.aload_n 0, 1) := by decide +kernel
theorem dX7_passes_114 : decode cX7_passes 114 = .ok (.iload 5, 2) := by decide +kernel
theorem dX7_passes_116 : decode cX7_passes 116 = .ok (.invokevirtual 33, 3) := by decide +kernel
theorem dX7_passes_119 : decode cX7_passes 119 = .ok (.ifCond .eq 7, 3) := by decide +kernel
theorem dX7_passes_122 : decode cX7_passes 122 = .ok (.iconst 1, 1) := by decide +kernel
theorem dX7_passes_123 : decode cX7_passes 123 = .ok (.goto 4, 3) := by decide +kernel
theorem dX7_passes_126 : decode cX7_passes 126 = .ok (.iconst 0, 1) := by decide +kernel
theorem dX7_passes_127 : decode cX7_passes 127 = .ok (.istore 7, 2) := by decide +kernel
theorem dX7_passes_129 : decode cX7_passes 129 = .ok (.aload_n 0, 1) := by decide +kernel
theorem dX7_passes_130 : decode cX7_passes 130 = .ok (.getfield 7, 3) := by decide +kernel
theorem dX7_passes_133 : decode cX7_passes 133 = .ok (.sipush 285, 3) := by decide +kernel
theorem dX7_passes_136 : decode cX7_passes 136 = .ok (.iload 4, 2) := by decide +kernel
theorem dX7_passes_138 : decode cX7_passes 138 = .ok (.iadd, 1) := by decide +kernel
theorem dX7_passes_139 : decode cX7_passes 139 = .ok (.iload 7, 2) := by decide +kernel
theorem dX7_passes_141 : decode cX7_passes 141 = .ok (.ifCond .eq 7, 3) := by decide +kernel
theorem dX7_passes_144 : decode cX7_passes 144 = .ok (.iconst 1, 1) := by decide +kernel
theorem dX7_passes_145 : decode cX7_passes 145 = .ok (.goto 14, 3) := by decide +kernel
theorem dX7_passes_148 : decode cX7_passes 148 = .ok (.aload_n 0, 1) := by decide +kernel
theorem dX7_passes_149 : decode cX7_passes 149 = .ok (.getfield 7, 3) := by decide +kernel
theorem dX7_passes_152 : decode cX7_passes 152 = .ok (.sipush 285, 3) := by decide +kernel
theorem dX7_passes_155 : decode cX7_passes 155 = .ok (.iload 4, 2) := by decide +kernel
theorem dX7_passes_157 : decode cX7_passes 157 = .ok (.iadd, 1) := by decide +kernel
theorem dX7_passes_158 : decode cX7_passes 158 = .ok (.iaload, 1) := by decide +kernel
theorem dX7_passes_159 : decode cX7_passes 159 = .ok (.iastore, 1) := by decide +kernel
theorem dX7_passes_160 : decode cX7_passes 160 = .ok (.iload_n 3, 1) := by decide +kernel
theorem dX7_passes_161 : decode cX7_passes 161 = .ok (.iload 7, 2) := by decide +kernel
theorem dX7_passes_163 : decode cX7_passes 163 = .ok (.ifCond .eq 7, 3) := by decide +kernel
theorem dX7_passes_166 : decode cX7_passes 166 = .ok (.iconst 1, 1) := by decide +kernel
theorem dX7_passes_167 : decode cX7_passes 167 = .ok (.goto 4, 3) := by decide +kernel
theorem dX7_passes_170 : decode cX7_passes 170 = .ok (.iconst 0, 1) := by decide +kernel
theorem dX7_passes_171 : decode cX7_passes 171 = .ok (.iadd, 1) := by decide +kernel
theorem dX7_passes_172 : decode cX7_passes 172 = .ok (.istore_n 3, 1) := by decide +kernel
theorem dX7_passes_173 : decode cX7_passes 173 = .ok (.iinc 4 1, 3) := by decide +kernel
theorem dX7_passes_176 : decode cX7_passes 176 = .ok (.goto (-159), 3) := by decide +kernel
theorem dX7_passes_179 : decode cX7_passes 179 = .ok (.iload_n 1, 1) := by decide +kernel
theorem dX7_passes_180 : decode cX7_passes 180 = .ok (.iconst 5, 1) := by decide +kernel
theorem dX7_passes_181 : decode cX7_passes 181 = .ok (.if_icmp .lt 77, 3) := by decide +kernel
theorem dX7_passes_184 : decode cX7_passes 184 = .ok (.aload_n 0, 1) := by decide +kernel
theorem dX7_passes_185 : decode cX7_passes 185 = .ok (.getfield 7, 3) := by decide +kernel
theorem dX7_passes_188 : decode cX7_passes 188 = .ok (.sipush 326, 3) := by decide +kernel
theorem dX7_passes_191 : decode cX7_passes 191 = .ok (.dup2, 1) := by decide +kernel
theorem dX7_passes_192 : decode cX7_passes 192 = .ok (.iaload, 1) := by decide +kernel
theorem dX7_passes_193 : decode cX7_passes 193 = .ok (.iconst 1, 1) := by decide +kernel
theorem dX7_passes_194 : decode cX7_passes 194 = .ok (.iadd, 1) := by decide +kernel
theorem dX7_passes_195 : decode cX7_passes 195 = .ok (.iastore, 1) := by decide +kernel
theorem dX7_passes_196 : decode cX7_passes 196 = .ok (.iconst 0, 1) := by decide +kernel
theorem dX7_passes_197 : decode cX7_passes 197 = .ok (.istore 4, 2) := by decide +kernel
theorem dX7_passes_199 : decode cX7_passes 199 = .ok (.iload 4, 2) := by decide +kernel
theorem dX7_passes_201 : decode cX7_passes 201 = .ok (.bipush 12, 2) := by decide +kernel
theorem dX7_passes_203 : decode cX7_passes 203 = .ok (.if_icmp .ge 55, 3) := by decide +kernel
theorem dX7_passes_206 : decode cX7_passes 206 = .ok (.aload_n 0, 1) := by decide +kernel
theorem dX7_passes_207 : decode cX7_passes 207 = .ok (.iload 4, 2) := by decide +kernel
theorem dX7_passes_209 : decode cX7_passes 209 = .ok (.invokevirtual 68, 3) := by decide +kernel
theorem dX7_passes_212 : decode cX7_passes 212 = .ok (.ifCond .eq 40, 3) := by decide +kernel
theorem dX7_passes_215 : decode cX7_passes 215 = .ok (.aload_n 0, 1) := by decide +kernel
theorem dX7_passes_216 : decode cX7_passes 216 = .ok (.aload_n 0, 1) := by decide +kernel
theorem dX7_passes_217 : decode cX7_passes 217 = .ok (.getfield 7, 3) := by decide +kernel
theorem dX7_passes_220 : decode cX7_passes 220 = .ok (.sipush 297, 3) := by decide +kernel
theorem dX7_passes_223 : decode cX7_passes 223 = .ok (.iload 4, 2) := by decide +kernel
theorem dX7_passes_225 : decode cX7_passes 225 = .ok (.iadd, 1) := by decide +kernel
theorem dX7_passes_226 : decode cX7_passes 226 = .ok (.iaload, 1) := by decide +kernel
theorem dX7_passes_227 : decode cX7_passes 227 = .ok (.invokevirtual 71, 3) := by decide +kernel
theorem dX7_passes_230 : decode cX7_passes 230 = .ok (.ifCond .lt 22, 3) := by decide +kernel
theorem dX7_passes_233 : decode cX7_passes 233 = .ok (.aload_n 0, 1) := by decide +kernel
theorem dX7_passes_234 : decode cX7_passes 234 = .ok (.iload 4, 2) := by decide +kernel
theorem dX7_passes_236 : decode cX7_passes 236 = .ok (.aload_n 0, 1) := by decide +kernel
theorem dX7_passes_237 : decode cX7_passes 237 = .ok (.getfield 7, 3) := by decide +kernel
theorem dX7_passes_240 : decode cX7_passes 240 = .ok (.sipush 297, 3) := by decide +kernel
theorem dX7_passes_243 : decode cX7_passes 243 = .ok (.iload 4, 2) := by decide +kernel
theorem dX7_passes_245 : decode cX7_passes 245 = .ok (.iadd, 1) := by decide +kernel
theorem dX7_passes_246 : decode cX7_passes 246 = .ok (.iaload, 1) := by decide +kernel
theorem dX7_passes_247 : decode cX7_passes 247 = .ok (.invokevirtual 77, 3) := by decide +kernel
theorem dX7_passes_250 : decode cX7_passes 250 = .ok (.istore 5, 2) := by decide +kernel
theorem dX7_passes_252 : decode cX7_passes 252 = .ok (.iinc 4 1, 3) := by decide +kernel
theorem dX7_passes_255 : decode cX7_passes 255 = .ok (.goto (-56), 3) := by decide +kernel
theorem dX7_passes_258 : decode cX7_passes 258 = .ok (.iload_n 3, 1) := by decide +kernel
theorem dX7_passes_259 : decode cX7_passes 259 = .ok (.ireturn, 1) := by decide +kernel
theorem dX7_whyHour_0 : decode cX7_whyHour 0 = .ok (.iload_n 1, 1) := by decide +kernel
theorem dX7_whyHour_1 : decode cX7_whyHour 1 = .ok (.iconst 0, 1) := by decide +kernel
theorem dX7_whyHour_2 : decode cX7_whyHour 2 = .ok (.bipush 9, 2) := by decide +kernel
theorem dX7_whyHour_4 : decode cX7_whyHour 4 = .ok (.invokestatic 22, 3) := by decide +kernel
theorem dX7_whyHour_7 : decode cX7_whyHour 7 = .ok (.ifCond .eq 12, 3) := by decide +kernel
theorem dX7_whyHour_10 : decode cX7_whyHour 10 = .ok (.iload_n 2, 1) := by decide +kernel
theorem dX7_whyHour_11 : decode cX7_whyHour 11 = .ok (.iconst 0, 1) := by decide +kernel
theorem dX7_whyHour_12 : decode cX7_whyHour 12 = .ok (.iconst 3, 1) := by decide +kernel
theorem dX7_whyHour_13 : decode cX7_whyHour 13 = .ok (.invokestatic 22, 3) := by decide +kernel
theorem dX7_whyHour_16 : decode cX7_whyHour 16 = .ok (.ifCond .ne 7, 3) := by decide +kernel
theorem dX7_whyHour_19 : decode cX7_whyHour 19 = .ok (.iconst (-1), 1) := by decide +kernel
theorem dX7_whyHour_20 : decode cX7_whyHour 20 = .ok (.goto 23, 3) := by decide +kernel
theorem dX7_whyHour_23 : decode cX7_whyHour 23 = .ok (.aload_n 0, 1) := by decide +kernel
theorem dX7_whyHour_24 : decode cX7_whyHour 24 = .ok (.getfield 7, 3) := by decide +kernel
theorem dX7_whyHour_27 : decode cX7_whyHour 27 = .ok (.sipush 322, 3) := by decide +kernel
theorem dX7_whyHour_30 : decode cX7_whyHour 30 = .ok (.iaload, 1) := by decide +kernel
theorem dX7_whyHour_31 : decode cX7_whyHour 31 = .ok (.sipush 500, 3) := by decide +kernel
theorem dX7_whyHour_34 : decode cX7_whyHour 34 = .ok (.if_icmp .ne 8, 3) := by decide +kernel
theorem dX7_whyHour_37 : decode cX7_whyHour 37 = .ok (.bipush (-3), 2) := by decide +kernel
theorem dX7_whyHour_39 : decode cX7_whyHour 39 = .ok (.goto 4, 3) := by decide +kernel
theorem dX7_whyHour_42 : decode cX7_whyHour 42 = .ok (.iconst 0, 1) := by decide +kernel
theorem dX7_whyHour_43 : decode cX7_whyHour 43 = .ok (.ireturn, 1) := by decide +kernel
theorem dX7_hour_0 : decode cX7_hour 0 = .ok (.aload_n 0, 1) := by decide +kernel
theorem dX7_hour_1 : decode cX7_hour 1 = .ok (.iload_n 1, 1) := by decide +kernel
theorem dX7_hour_2 : decode cX7_hour 2 = .ok (.iload_n 2, 1) := by decide +kernel
theorem dX7_hour_3 : decode cX7_hour 3 = .ok (.invokevirtual 94, 3) := by decide +kernel
theorem dX7_hour_6 : decode cX7_hour 6 = .ok (.istore_n 3, 1) := by decide +kernel
theorem dX7_hour_7 : decode cX7_hour 7 = .ok (.iload_n 3, 1) := by decide +kernel
theorem dX7_hour_8 : decode cX7_hour 8 = .ok (.ifCond .ge 5, 3) := by decide +kernel
theorem dX7_hour_11 : decode cX7_hour 11 = .ok (.iload_n 3, 1) := by decide +kernel
theorem dX7_hour_12 : decode cX7_hour 12 = .ok (.ireturn, 1) := by decide +kernel
theorem dX7_hour_13 : decode cX7_hour 13 = .ok (.aload_n 0, 1) := by decide +kernel
theorem dX7_hour_14 : decode cX7_hour 14 = .ok (.invokevirtual 54, 3) := by decide +kernel
theorem dX7_hour_17 : decode cX7_hour 17 = .ok (.aload_n 0, 1) := by decide +kernel
theorem dX7_hour_18 : decode cX7_hour 18 = .ok (.iload_n 1, 1) := by decide +kernel
theorem dX7_hour_19 : decode cX7_hour 19 = .ok (.iload_n 2, 1) := by decide +kernel
theorem dX7_hour_20 : decode cX7_hour 20 = .ok (.invokevirtual 97, 3) := by decide +kernel
theorem dX7_hour_23 : decode cX7_hour 23 = .ok (.ireturn, 1) := by decide +kernel
theorem dX7_isLoad_0 : decode cX7_isLoad 0 = .ok (.iload_n 0, 1) := by decide +kernel
theorem dX7_isLoad_1 : decode cX7_isLoad 1 = .ok (.iconst 0, 1) := by decide +kernel
theorem dX7_isLoad_2 : decode cX7_isLoad 2 = .ok (.iconst 1, 1) := by decide +kernel
theorem dX7_isLoad_3 : decode cX7_isLoad 3 = .ok (.invokestatic 22, 3) := by decide +kernel
theorem dX7_isLoad_6 : decode cX7_isLoad 6 = .ok (.ifCond .eq 24, 3) := by decide +kernel
theorem dX7_isLoad_9 : decode cX7_isLoad 9 = .ok (.iload_n 1, 1) := by decide +kernel
theorem dX7_isLoad_10 : decode cX7_isLoad 10 = .ok (.invokestatic 45, 3) := by decide +kernel
theorem dX7_isLoad_13 : decode cX7_isLoad 13 = .ok (.ifCond .eq 17, 3) := by decide +kernel
theorem dX7_isLoad_16 : decode cX7_isLoad 16 = .ok (.iload_n 2, 1) := by decide +kernel
theorem dX7_isLoad_17 : decode cX7_isLoad 17 = .ok (.iconst 1, 1) := by decide +kernel
theorem dX7_isLoad_18 : decode cX7_isLoad 18 = .ok (.bipush 10, 2) := by decide +kernel
theorem dX7_isLoad_20 : decode cX7_isLoad 20 = .ok (.invokestatic 22, 3) := by decide +kernel
theorem dX7_isLoad_23 : decode cX7_isLoad 23 = .ok (.ifCond .eq 7, 3) := by decide +kernel
theorem dX7_isLoad_26 : decode cX7_isLoad 26 = .ok (.iconst 1, 1) := by decide +kernel
theorem dX7_isLoad_27 : decode cX7_isLoad 27 = .ok (.goto 4, 3) := by decide +kernel
theorem dX7_isLoad_30 : decode cX7_isLoad 30 = .ok (.iconst 0, 1) := by decide +kernel
theorem dX7_isLoad_31 : decode cX7_isLoad 31 = .ok (.ireturn, 1) := by decide +kernel
theorem dX7_load_0 : decode cX7_load 0 = .ok (.iload_n 1, 1) := by decide +kernel
theorem dX7_load_1 : decode cX7_load 1 = .ok (.iload_n 2, 1) := by decide +kernel
theorem dX7_load_2 : decode cX7_load 2 = .ok (.iload_n 3, 1) := by decide +kernel
theorem dX7_load_3 : decode cX7_load 3 = .ok (.invokestatic 100, 3) := by decide +kernel
theorem dX7_load_6 : decode cX7_load 6 = .ok (.ifCond .ne 5, 3) := by decide +kernel
theorem dX7_load_9 : decode cX7_load 9 = .ok (.iconst (-1), 1) := by decide +kernel
theorem dX7_load_10 : decode cX7_load 10 = .ok (.ireturn, 1) := by decide +kernel
theorem dX7_load_11 : decode cX7_load 11 = .ok (.aload_n 0, 1) := by decide +kernel
theorem dX7_load_12 : decode cX7_load 12 = .ok (.iconst 0, 1) := by decide +kernel
theorem dX7_load_13 : decode cX7_load 13 = .ok (.iload_n 2, 1) := by decide +kernel
theorem dX7_load_14 : decode cX7_load 14 = .ok (.invokevirtual 37, 3) := by decide +kernel
theorem dX7_load_17 : decode cX7_load 17 = .ok (.iload_n 3, 1) := by decide +kernel
theorem dX7_load_18 : decode cX7_load 18 = .ok (.if_icmp .ge 6, 3) := by decide +kernel
theorem dX7_load_21 : decode cX7_load 21 = .ok (.bipush (-2), 2) := by decide +kernel
theorem dX7_load_23 : decode cX7_load 23 = .ok (.ireturn, 1) := by decide +kernel
theorem dX7_load_24 : decode cX7_load 24 = .ok (.aload_n 0, 1) := by decide +kernel
theorem dX7_load_25 : decode cX7_load 25 = .ok (.iconst 2, 1) := by decide +kernel
theorem dX7_load_26 : decode cX7_load 26 = .ok (.iload_n 1, 1) := by decide +kernel
theorem dX7_load_27 : decode cX7_load 27 = .ok (.invokevirtual 37, 3) := by decide +kernel
theorem dX7_load_30 : decode cX7_load 30 = .ok (.iload_n 3, 1) := by decide +kernel
theorem dX7_load_31 : decode cX7_load 31 = .ok (.iadd, 1) := by decide +kernel
theorem dX7_load_32 : decode cX7_load 32 = .ok (.bipush 10, 2) := by decide +kernel
theorem dX7_load_34 : decode cX7_load 34 = .ok (.if_icmp .le 6, 3) := by decide +kernel
theorem dX7_load_37 : decode cX7_load 37 = .ok (.bipush (-3), 2) := by decide +kernel
theorem dX7_load_39 : decode cX7_load 39 = .ok (.ireturn, 1) := by decide +kernel
theorem dX7_load_40 : decode cX7_load 40 = .ok (.aload_n 0, 1) := by decide +kernel
theorem dX7_load_41 : decode cX7_load 41 = .ok (.invokevirtual 54, 3) := by decide +kernel
theorem dX7_load_44 : decode cX7_load 44 = .ok (.iconst 0, 1) := by decide +kernel
theorem dX7_load_45 : decode cX7_load 45 = .ok (.istore 4, 2) := by decide +kernel
theorem dX7_load_47 : decode cX7_load 47 = .ok (.iconst 0, 1) := by decide +kernel
theorem dX7_load_48 : decode cX7_load 48 = .ok (.istore 5, 2) := by decide +kernel
theorem dX7_load_50 : decode cX7_load 50 = .ok (.iload 5, 2) := by decide +kernel
theorem dX7_load_52 : decode cX7_load 52 = .ok (.iload_n 3, 1) := by decide +kernel
theorem dX7_load_53 : decode cX7_load 53 = .ok (.if_icmp .ge 43, 3) := by decide +kernel
theorem dX7_load_56 : decode cX7_load 56 = .ok (.aload_n 0, 1) := by decide +kernel
theorem dX7_load_57 : decode cX7_load 57 = .ok (.iload_n 2, 1) := by decide +kernel
theorem dX7_load_58 : decode cX7_load 58 = .ok (.invokevirtual 103, 3) := by decide +kernel
theorem dX7_load_61 : decode cX7_load 61 = .ok (.istore 6, 2) := by decide +kernel
theorem dX7_load_63 : decode cX7_load 63 = .ok (.aload_n 0, 1) := by decide +kernel
theorem dX7_load_64 : decode cX7_load 64 = .ok (.iload 6, 2) := by decide +kernel
theorem dX7_load_66 : decode cX7_load 66 = .ok (.iconst 2, 1) := by decide +kernel
theorem dX7_load_67 : decode cX7_load 67 = .ok (.iload_n 1, 1) := by decide +kernel
theorem dX7_load_68 : decode cX7_load 68 = .ok (.invokevirtual 57, 3) := by decide +kernel
theorem dX7_load_71 : decode cX7_load 71 = .ok (.iload 4, 2) := by decide +kernel
theorem dX7_load_73 : decode cX7_load 73 = .ok (.aload_n 0, 1) := by decide +kernel
theorem dX7_load_74 : decode cX7_load 74 = .ok (.iload 6, 2) := by decide +kernel
theorem dX7_load_76 : decode cX7_load 76 = .ok (.invokevirtual 33, 3) := by decide +kernel
theorem dX7_load_79 : decode cX7_load 79 = .ok (.ifCond .eq 7, 3) := by decide +kernel
theorem dX7_load_82 : decode cX7_load 82 = .ok (.iconst 1, 1) := by decide +kernel
theorem dX7_load_83 : decode cX7_load 83 = .ok (.goto 4, 3) := by decide +kernel
theorem dX7_load_86 : decode cX7_load 86 = .ok (.iconst 0, 1) := by decide +kernel
theorem dX7_load_87 : decode cX7_load 87 = .ok (.iadd, 1) := by decide +kernel
theorem dX7_load_88 : decode cX7_load 88 = .ok (.istore 4, 2) := by decide +kernel
theorem dX7_load_90 : decode cX7_load 90 = .ok (.iinc 5 1, 3) := by decide +kernel
theorem dX7_load_93 : decode cX7_load 93 = .ok (.goto (-43), 3) := by decide +kernel
theorem dX7_load_96 : decode cX7_load 96 = .ok (.iload 4, 2) := by decide +kernel
theorem dX7_load_98 : decode cX7_load 98 = .ok (.ireturn, 1) := by decide +kernel
theorem dX7_unload_0 : decode cX7_unload 0 = .ok (.iload_n 1, 1) := by decide +kernel
theorem dX7_unload_1 : decode cX7_unload 1 = .ok (.iload_n 2, 1) := by decide +kernel
theorem dX7_unload_2 : decode cX7_unload 2 = .ok (.iload_n 3, 1) := by decide +kernel
theorem dX7_unload_3 : decode cX7_unload 3 = .ok (.invokestatic 100, 3) := by decide +kernel
theorem dX7_unload_6 : decode cX7_unload 6 = .ok (.ifCond .ne 5, 3) := by decide +kernel
theorem dX7_unload_9 : decode cX7_unload 9 = .ok (.iconst (-1), 1) := by decide +kernel
theorem dX7_unload_10 : decode cX7_unload 10 = .ok (.ireturn, 1) := by decide +kernel
theorem dX7_unload_11 : decode cX7_unload 11 = .ok (.aload_n 0, 1) := by decide +kernel
theorem dX7_unload_12 : decode cX7_unload 12 = .ok (.iconst 2, 1) := by decide +kernel
theorem dX7_unload_13 : decode cX7_unload 13 = .ok (.iload_n 1, 1) := by decide +kernel
theorem dX7_unload_14 : decode cX7_unload 14 = .ok (.invokevirtual 37, 3) := by decide +kernel
theorem dX7_unload_17 : decode cX7_unload 17 = .ok (.aload_n 0, 1) := by decide +kernel
theorem dX7_unload_18 : decode cX7_unload 18 = .ok (.iconst 2, 1) := by decide +kernel
theorem dX7_unload_19 : decode cX7_unload 19 = .ok (.iload_n 1, 1) := by decide +kernel
theorem dX7_unload_20 : decode cX7_unload 20 = .ok (.invokevirtual 106, 3) := by decide +kernel
theorem dX7_unload_23 : decode cX7_unload 23 = .ok (.isub, 1) := by decide +kernel
theorem dX7_unload_24 : decode cX7_unload 24 = .ok (.iload_n 3, 1) := by decide +kernel
theorem dX7_unload_25 : decode cX7_unload 25 = .ok (.if_icmp .ge 6, 3) := by decide +kernel
theorem dX7_unload_28 : decode cX7_unload 28 = .ok (.bipush (-2), 2) := by decide +kernel
theorem dX7_unload_30 : decode cX7_unload 30 = .ok (.ireturn, 1) := by decide +kernel
theorem dX7_unload_31 : decode cX7_unload 31 = .ok (.aload_n 0, 1) := by decide +kernel
theorem dX7_unload_32 : decode cX7_unload 32 = .ok (.iload_n 2, 1) := by decide +kernel
theorem dX7_unload_33 : decode cX7_unload 33 = .ok (.invokevirtual 51, 3) := by decide +kernel
theorem dX7_unload_36 : decode cX7_unload 36 = .ok (.iload_n 3, 1) := by decide +kernel
theorem dX7_unload_37 : decode cX7_unload 37 = .ok (.if_icmp .ge 6, 3) := by decide +kernel
theorem dX7_unload_40 : decode cX7_unload 40 = .ok (.bipush (-3), 2) := by decide +kernel
theorem dX7_unload_42 : decode cX7_unload 42 = .ok (.ireturn, 1) := by decide +kernel
theorem dX7_unload_43 : decode cX7_unload 43 = .ok (.aload_n 0, 1) := by decide +kernel
theorem dX7_unload_44 : decode cX7_unload 44 = .ok (.invokevirtual 54, 3) := by decide +kernel
theorem dX7_unload_47 : decode cX7_unload 47 = .ok (.iload_n 3, 1) := by decide +kernel
theorem dX7_unload_48 : decode cX7_unload 48 = .ok (.istore 4, 2) := by decide +kernel
theorem dX7_unload_50 : decode cX7_unload 50 = .ok (.iconst 0, 1) := by decide +kernel
theorem dX7_unload_51 : decode cX7_unload 51 = .ok (.istore 5, 2) := by decide +kernel
theorem dX7_unload_53 : decode cX7_unload 53 = .ok (.iload 5, 2) := by decide +kernel
theorem dX7_unload_55 : decode cX7_unload 55 = .ok (.aload_n 0, 1) := by decide +kernel
theorem dX7_unload_56 : decode cX7_unload 56 = .ok (.getfield 7, 3) := by decide +kernel
theorem dX7_unload_59 : decode cX7_unload 59 = .ok (.iconst 0, 1) := by decide +kernel
theorem dX7_unload_60 : decode cX7_unload 60 = .ok (.iaload, 1) := by decide +kernel
theorem dX7_unload_61 : decode cX7_unload 61 = .ok (.if_icmp .ge 45, 3) := by decide +kernel
theorem dX7_unload_64 : decode cX7_unload 64 = .ok (.iload 4, 2) := by decide +kernel
theorem dX7_unload_66 : decode cX7_unload 66 = .ok (.ifCond .le 40, 3) := by decide +kernel
theorem dX7_unload_69 : decode cX7_unload 69 = .ok (.aload_n 0, 1) := by decide +kernel
theorem dX7_unload_70 : decode cX7_unload 70 = .ok (.iload 5, 2) := by decide +kernel
theorem dX7_unload_72 : decode cX7_unload 72 = .ok (.iconst 2, 1) := by decide +kernel
theorem dX7_unload_73 : decode cX7_unload 73 = .ok (.iload_n 1, 1) := by decide +kernel
theorem dX7_unload_74 : decode cX7_unload 74 = .ok (.invokevirtual 30, 3) := by decide +kernel
theorem dX7_unload_77 : decode cX7_unload 77 = .ok (.ifCond .eq 23, 3) := by decide +kernel
theorem dX7_unload_80 : decode cX7_unload 80 = .ok (.aload_n 0, 1) := by decide +kernel
theorem dX7_unload_81 : decode cX7_unload 81 = .ok (.iload 5, 2) := by decide +kernel
theorem dX7_unload_83 : decode cX7_unload 83 = .ok (.invokevirtual 33, 3) := by decide +kernel
theorem dX7_unload_86 : decode cX7_unload 86 = .ok (.ifCond .ne 14, 3) := by decide +kernel
theorem dX7_unload_89 : decode cX7_unload 89 = .ok (.aload_n 0, 1) := by decide +kernel
theorem dX7_unload_90 : decode cX7_unload 90 = .ok (.iload 5, 2) := by decide +kernel
theorem dX7_unload_92 : decode cX7_unload 92 = .ok (.iconst 0, 1) := by decide +kernel
theorem dX7_unload_93 : decode cX7_unload 93 = .ok (.iload_n 2, 1) := by decide +kernel
theorem dX7_unload_94 : decode cX7_unload 94 = .ok (.invokevirtual 57, 3) := by decide +kernel
theorem dX7_unload_97 : decode cX7_unload 97 = .ok (.iinc 4 (-1), 3) := by decide +kernel
theorem dX7_unload_100 : decode cX7_unload 100 = .ok (.iinc 5 1, 3) := by decide +kernel
theorem dX7_unload_103 : decode cX7_unload 103 = .ok (.goto (-50), 3) := by decide +kernel
theorem dX7_unload_106 : decode cX7_unload 106 = .ok (.aload_n 0, 1) := by decide +kernel
theorem dX7_unload_107 : decode cX7_unload 107 = .ok (.iconst 2, 1) := by decide +kernel
theorem dX7_unload_108 : decode cX7_unload 108 = .ok (.iload_n 1, 1) := by decide +kernel
theorem dX7_unload_109 : decode cX7_unload 109 = .ok (.invokevirtual 37, 3) := by decide +kernel
theorem dX7_unload_112 : decode cX7_unload 112 = .ok (.ireturn, 1) := by decide +kernel
theorem dX7_toWorkshop_0 : decode cX7_toWorkshop 0 = .ok (.iload_n 1, 1) := by decide +kernel
theorem dX7_toWorkshop_1 : decode cX7_toWorkshop 1 = .ok (.iconst 0, 1) := by decide +kernel
theorem dX7_toWorkshop_2 : decode cX7_toWorkshop 2 = .ok (.iconst 1, 1) := by decide +kernel
theorem dX7_toWorkshop_3 : decode cX7_toWorkshop 3 = .ok (.invokestatic 22, 3) := by decide +kernel
theorem dX7_toWorkshop_6 : decode cX7_toWorkshop 6 = .ok (.ifCond .ne 5, 3) := by decide +kernel
theorem dX7_toWorkshop_9 : decode cX7_toWorkshop 9 = .ok (.iconst (-1), 1) := by decide +kernel
theorem dX7_toWorkshop_10 : decode cX7_toWorkshop 10 = .ok (.ireturn, 1) := by decide +kernel
theorem dX7_toWorkshop_11 : decode cX7_toWorkshop 11 = .ok (.aload_n 0, 1) := by decide +kernel
theorem dX7_toWorkshop_12 : decode cX7_toWorkshop 12 = .ok (.iconst 2, 1) := by decide +kernel
theorem dX7_toWorkshop_13 : decode cX7_toWorkshop 13 = .ok (.iload_n 1, 1) := by decide +kernel
theorem dX7_toWorkshop_14 : decode cX7_toWorkshop 14 = .ok (.invokevirtual 106, 3) := by decide +kernel
theorem dX7_toWorkshop_17 : decode cX7_toWorkshop 17 = .ok (.istore_n 2, 1) := by decide +kernel
theorem dX7_toWorkshop_18 : decode cX7_toWorkshop 18 = .ok (.iload_n 2, 1) := by decide +kernel
theorem dX7_toWorkshop_19 : decode cX7_toWorkshop 19 = .ok (.ifCond .ne 6, 3) := by decide +kernel
theorem dX7_toWorkshop_22 : decode cX7_toWorkshop 22 = .ok (.bipush (-2), 2) := by decide +kernel
theorem dX7_toWorkshop_24 : decode cX7_toWorkshop 24 = .ok (.ireturn, 1) := by decide +kernel
theorem dX7_toWorkshop_25 : decode cX7_toWorkshop 25 = .ok (.aload_n 0, 1) := by decide +kernel
theorem dX7_toWorkshop_26 : decode cX7_toWorkshop 26 = .ok (.invokevirtual 54, 3) := by decide +kernel
theorem dX7_toWorkshop_29 : decode cX7_toWorkshop 29 = .ok (.iconst 0, 1) := by decide +kernel
theorem dX7_toWorkshop_30 : decode cX7_toWorkshop 30 = .ok (.istore_n 3, 1) := by decide +kernel
theorem dX7_toWorkshop_31 : decode cX7_toWorkshop 31 = .ok (.iload_n 3, 1) := by decide +kernel
theorem dX7_toWorkshop_32 : decode cX7_toWorkshop 32 = .ok (.aload_n 0, 1) := by decide +kernel
theorem dX7_toWorkshop_33 : decode cX7_toWorkshop 33 = .ok (.getfield 7, 3) := by decide +kernel
theorem dX7_toWorkshop_36 : decode cX7_toWorkshop 36 = .ok (.iconst 0, 1) := by decide +kernel
theorem dX7_toWorkshop_37 : decode cX7_toWorkshop 37 = .ok (.iaload, 1) := by decide +kernel
theorem dX7_toWorkshop_38 : decode cX7_toWorkshop 38 = .ok (.if_icmp .ge 34, 3) := by decide +kernel
theorem dX7_toWorkshop_41 : decode cX7_toWorkshop 41 = .ok (.aload_n 0, 1) := by decide +kernel
theorem dX7_toWorkshop_42 : decode cX7_toWorkshop 42 = .ok (.iload_n 3, 1) := by decide +kernel
theorem dX7_toWorkshop_43 : decode cX7_toWorkshop 43 = .ok (.iconst 2, 1) := by decide +kernel
theorem dX7_toWorkshop_44 : decode cX7_toWorkshop 44 = .ok (.iload_n 1, 1) := by decide +kernel
theorem dX7_toWorkshop_45 : decode cX7_toWorkshop 45 = .ok (.invokevirtual 30, 3) := by decide +kernel
theorem dX7_toWorkshop_48 : decode cX7_toWorkshop 48 = .ok (.ifCond .eq 18, 3) := by decide +kernel
theorem dX7_toWorkshop_51 : decode cX7_toWorkshop 51 = .ok (.aload_n 0, 1) := by decide +kernel
theorem dX7_toWorkshop_52 : decode cX7_toWorkshop 52 = .ok (.iload_n 3, 1) := by decide +kernel
theorem dX7_toWorkshop_53 : decode cX7_toWorkshop 53 = .ok (.invokevirtual 33, 3) := by decide +kernel
theorem dX7_toWorkshop_56 : decode cX7_toWorkshop 56 = .ok (.ifCond .eq 10, 3) := by decide +kernel
theorem dX7_toWorkshop_59 : decode cX7_toWorkshop 59 = .ok (.aload_n 0, 1) := by decide +kernel
theorem dX7_toWorkshop_60 : decode cX7_toWorkshop 60 = .ok (.iload_n 3, 1) := by decide +kernel
theorem dX7_toWorkshop_61 : decode cX7_toWorkshop 61 = .ok (.iconst 3, 1) := by decide +kernel
theorem dX7_toWorkshop_62 : decode cX7_toWorkshop 62 = .ok (.iconst 0, 1) := by decide +kernel
theorem dX7_toWorkshop_63 : decode cX7_toWorkshop 63 = .ok (.invokevirtual 57, 3) := by decide +kernel
theorem dX7_toWorkshop_66 : decode cX7_toWorkshop 66 = .ok (.iinc 3 1, 3) := by decide +kernel
theorem dX7_toWorkshop_69 : decode cX7_toWorkshop 69 = .ok (.goto (-38), 3) := by decide +kernel
theorem dX7_toWorkshop_72 : decode cX7_toWorkshop 72 = .ok (.iload_n 2, 1) := by decide +kernel
theorem dX7_toWorkshop_73 : decode cX7_toWorkshop 73 = .ok (.ireturn, 1) := by decide +kernel
theorem dX7_leastInShop_0 : decode cX7_leastInShop 0 = .ok (.iconst (-1), 1) := by decide +kernel
theorem dX7_leastInShop_1 : decode cX7_leastInShop 1 = .ok (.istore_n 2, 1) := by decide +kernel
theorem dX7_leastInShop_2 : decode cX7_leastInShop 2 = .ok (.iconst 0, 1) := by decide +kernel
theorem dX7_leastInShop_3 : decode cX7_leastInShop 3 = .ok (.istore_n 3, 1) := by decide +kernel
theorem dX7_leastInShop_4 : decode cX7_leastInShop 4 = .ok (.iload_n 3, 1) := by decide +kernel
theorem dX7_leastInShop_5 : decode cX7_leastInShop 5 = .ok (.aload_n 0, 1) := by decide +kernel
theorem dX7_leastInShop_6 : decode cX7_leastInShop 6 = .ok (.getfield 7, 3) := by decide +kernel
theorem dX7_leastInShop_9 : decode cX7_leastInShop 9 = .ok (.iconst 0, 1) := by decide +kernel
theorem dX7_leastInShop_10 : decode cX7_leastInShop 10 = .ok (.iaload, 1) := by decide +kernel
theorem dX7_leastInShop_11 : decode cX7_leastInShop 11 = .ok (.if_icmp .ge 69, 3) := by decide +kernel
theorem dX7_leastInShop_14 : decode cX7_leastInShop 14 = .ok (.aload_n 0, 1) := by decide +kernel
theorem dX7_leastInShop_15 : decode cX7_leastInShop 15 = .ok (.getfield 7, 3) := by decide +kernel
theorem dX7_leastInShop_18 : decode cX7_leastInShop 18 = .ok (.iconst 1, 1) := by decide +kernel
theorem dX7_leastInShop_19 : decode cX7_leastInShop 19 = .ok (.iload_n 3, 1) := by decide +kernel
theorem dX7_leastInShop_20 : decode cX7_leastInShop 20 = .ok (.iadd, 1) := by decide +kernel
theorem dX7_leastInShop_21 : decode cX7_leastInShop 21 = .ok (.iaload, 1) := by decide +kernel
theorem dX7_leastInShop_22 : decode cX7_leastInShop 22 = .ok (.iconst 3, 1) := by decide +kernel
theorem dX7_leastInShop_23 : decode cX7_leastInShop 23 = .ok (.if_icmp .ne 37, 3) := by decide +kernel
theorem dX7_leastInShop_26 : decode cX7_leastInShop 26 = .ok (.iload_n 3, 1) := by decide +kernel
theorem dX7_leastInShop_27 : decode cX7_leastInShop 27 = .ok (.iload_n 1, 1) := by decide +kernel
theorem dX7_leastInShop_28 : decode cX7_leastInShop 28 = .ok (.if_icmp .eq 32, 3) := by decide +kernel
theorem dX7_leastInShop_31 : decode cX7_leastInShop 31 = .ok (.iload_n 2, 1) := by decide +kernel
theorem dX7_leastInShop_32 : decode cX7_leastInShop 32 = .ok (.ifCond .lt 24, 3) := by decide +kernel
theorem dX7_leastInShop_35 : decode cX7_leastInShop 35 = .ok (.aload_n 0, 1) := by decide +kernel
theorem dX7_leastInShop_36 : decode cX7_leastInShop 36 = .ok (.getfield 7, 3) := by decide +kernel
theorem dX7_leastInShop_39 : decode cX7_leastInShop 39 = .ok (.bipush 121, 2) := by decide +kernel
theorem dX7_leastInShop_41 : decode cX7_leastInShop 41 = .ok (.iload_n 3, 1) := by decide +kernel
theorem dX7_leastInShop_42 : decode cX7_leastInShop 42 = .ok (.iadd, 1) := by decide +kernel
theorem dX7_leastInShop_43 : decode cX7_leastInShop 43 = .ok (.iaload, 1) := by decide +kernel
theorem dX7_leastInShop_44 : decode cX7_leastInShop 44 = .ok (.aload_n 0, 1) := by decide +kernel
theorem dX7_leastInShop_45 : decode cX7_leastInShop 45 = .ok (.getfield 7, 3) := by decide +kernel
theorem dX7_leastInShop_48 : decode cX7_leastInShop 48 = .ok (.bipush 121, 2) := by decide +kernel
theorem dX7_leastInShop_50 : decode cX7_leastInShop 50 = .ok (.iload_n 2, 1) := by decide +kernel
theorem dX7_leastInShop_51 : decode cX7_leastInShop 51 = .ok (.iadd, 1) := by decide +kernel
theorem dX7_leastInShop_52 : decode cX7_leastInShop 52 = .ok (.iaload, 1) := by decide +kernel
theorem dX7_leastInShop_53 : decode cX7_leastInShop 53 = .ok (.if_icmp .ge 7, 3) := by decide +kernel
theorem dX7_leastInShop_56 : decode cX7_leastInShop 56 = .ok (.iconst 1, 1) := by decide +kernel
theorem dX7_leastInShop_57 : decode cX7_leastInShop 57 = .ok (.goto 4, 3) := by decide +kernel
theorem dX7_leastInShop_60 : decode cX7_leastInShop 60 = .ok (.iconst 0, 1) := by decide +kernel
theorem dX7_leastInShop_61 : decode cX7_leastInShop 61 = .ok (.istore 4, 2) := by decide +kernel
theorem dX7_leastInShop_63 : decode cX7_leastInShop 63 = .ok (.iload 4, 2) := by decide +kernel
theorem dX7_leastInShop_65 : decode cX7_leastInShop 65 = .ok (.ifCond .eq 7, 3) := by decide +kernel
theorem dX7_leastInShop_68 : decode cX7_leastInShop 68 = .ok (.iload_n 3, 1) := by decide +kernel
theorem dX7_leastInShop_69 : decode cX7_leastInShop 69 = .ok (.goto 4, 3) := by decide +kernel
theorem dX7_leastInShop_72 : decode cX7_leastInShop 72 = .ok (.iload_n 2, 1) := by decide +kernel
theorem dX7_leastInShop_73 : decode cX7_leastInShop 73 = .ok (.istore_n 2, 1) := by decide +kernel
theorem dX7_leastInShop_74 : decode cX7_leastInShop 74 = .ok (.iinc 3 1, 3) := by decide +kernel
theorem dX7_leastInShop_77 : decode cX7_leastInShop 77 = .ok (.goto (-73), 3) := by decide +kernel
theorem dX7_leastInShop_80 : decode cX7_leastInShop 80 = .ok (.iload_n 2, 1) := by decide +kernel
theorem dX7_leastInShop_81 : decode cX7_leastInShop 81 = .ok (.ireturn, 1) := by decide +kernel
theorem dX7_mend_0 : decode cX7_mend 0 = .ok (.iload_n 1, 1) := by decide +kernel
theorem dX7_mend_1 : decode cX7_mend 1 = .ok (.invokestatic 45, 3) := by decide +kernel
theorem dX7_mend_4 : decode cX7_mend 4 = .ok (.ifCond .ne 5, 3) := by decide +kernel
theorem dX7_mend_7 : decode cX7_mend 7 = .ok (.iconst (-1), 1) := by decide +kernel
theorem dX7_mend_8 : decode cX7_mend 8 = .ok (.ireturn, 1) := by decide +kernel
theorem dX7_mend_9 : decode cX7_mend 9 = .ok (.aload_n 0, 1) := by decide +kernel
theorem dX7_mend_10 : decode cX7_mend 10 = .ok (.iconst 3, 1) := by decide +kernel
theorem dX7_mend_11 : decode cX7_mend 11 = .ok (.invokevirtual 41, 3) := by decide +kernel
theorem dX7_mend_14 : decode cX7_mend 14 = .ok (.iconst 2, 1) := by decide +kernel
theorem dX7_mend_15 : decode cX7_mend 15 = .ok (.if_icmp .lt 11, 3) := by decide +kernel
theorem dX7_mend_18 : decode cX7_mend 18 = .ok (.aload_n 0, 1) := by decide +kernel
theorem dX7_mend_19 : decode cX7_mend 19 = .ok (.iconst 3, 1) := by decide +kernel
theorem dX7_mend_20 : decode cX7_mend 20 = .ok (.invokevirtual 48, 3) := by decide +kernel
theorem dX7_mend_23 : decode cX7_mend 23 = .ok (.ifCond .ne 6, 3) := by decide +kernel
theorem dX7_mend_26 : decode cX7_mend 26 = .ok (.bipush (-2), 2) := by decide +kernel
theorem dX7_mend_28 : decode cX7_mend 28 = .ok (.ireturn, 1) := by decide +kernel
theorem dX7_mend_29 : decode cX7_mend 29 = .ok (.aload_n 0, 1) := by decide +kernel
theorem dX7_mend_30 : decode cX7_mend 30 = .ok (.iload_n 1, 1) := by decide +kernel
theorem dX7_mend_31 : decode cX7_mend 31 = .ok (.invokevirtual 51, 3) := by decide +kernel
theorem dX7_mend_34 : decode cX7_mend 34 = .ok (.ifCond .gt 6, 3) := by decide +kernel
theorem dX7_mend_37 : decode cX7_mend 37 = .ok (.bipush (-3), 2) := by decide +kernel
theorem dX7_mend_39 : decode cX7_mend 39 = .ok (.ireturn, 1) := by decide +kernel
theorem dX7_mend_40 : decode cX7_mend 40 = .ok (.aload_n 0, 1) := by decide +kernel
theorem dX7_mend_41 : decode cX7_mend 41 = .ok (.invokevirtual 54, 3) := by decide +kernel
theorem dX7_mend_44 : decode cX7_mend 44 = .ok (.aload_n 0, 1) := by decide +kernel
theorem dX7_mend_45 : decode cX7_mend 45 = .ok (.iconst (-1), 1) := by decide +kernel
theorem dX7_mend_46 : decode cX7_mend 46 = .ok (.invokevirtual 109, 3) := by decide +kernel
theorem dX7_mend_49 : decode cX7_mend 49 = .ok (.istore_n 2, 1) := by decide +kernel
theorem dX7_mend_50 : decode cX7_mend 50 = .ok (.aload_n 0, 1) := by decide +kernel
theorem dX7_mend_51 : decode cX7_mend 51 = .ok (.iload_n 2, 1) := by decide +kernel
theorem dX7_mend_52 : decode cX7_mend 52 = .ok (.invokevirtual 109, 3) := by decide +kernel
theorem dX7_mend_55 : decode cX7_mend 55 = .ok (.istore_n 3, 1) := by decide +kernel
theorem dX7_mend_56 : decode cX7_mend 56 = .ok (.iload_n 2, 1) := by decide +kernel
theorem dX7_mend_57 : decode cX7_mend 57 = .ok (.iload_n 3, 1) := by decide +kernel
theorem dX7_mend_58 : decode cX7_mend 58 = .ok (.if_icmp .ge 7, 3) := by decide +kernel
theorem dX7_mend_61 : decode cX7_mend 61 = .ok (.iload_n 2, 1) := by decide +kernel
theorem dX7_mend_62 : decode cX7_mend 62 = .ok (.goto 4, 3) := by decide +kernel
theorem dX7_mend_65 : decode cX7_mend 65 = .ok (.iload_n 3, 1) := by decide +kernel
theorem dX7_mend_66 : decode cX7_mend 66 = .ok (.istore 4, 2) := by decide +kernel
theorem dX7_mend_68 : decode cX7_mend 68 = .ok (.aload_n 0, 1) := by decide +kernel
theorem dX7_mend_69 : decode cX7_mend 69 = .ok (.getfield 7, 3) := by decide +kernel
theorem dX7_mend_72 : decode cX7_mend 72 = .ok (.bipush 121, 2) := by decide +kernel
theorem dX7_mend_74 : decode cX7_mend 74 = .ok (.iload_n 2, 1) := by decide +kernel
theorem dX7_mend_75 : decode cX7_mend 75 = .ok (.iadd, 1) := by decide +kernel
theorem dX7_mend_76 : decode cX7_mend 76 = .ok (.iaload, 1) := by decide +kernel
theorem dX7_mend_77 : decode cX7_mend 77 = .ok (.iconst 4, 1) := by decide +kernel
theorem dX7_mend_78 : decode cX7_mend 78 = .ok (.idiv, 1) := by decide +kernel
theorem dX7_mend_79 : decode cX7_mend 79 = .ok (.istore 5, 2) := by decide +kernel
theorem dX7_mend_81 : decode cX7_mend 81 = .ok (.aload_n 0, 1) := by decide +kernel
theorem dX7_mend_82 : decode cX7_mend 82 = .ok (.iload_n 2, 1) := by decide +kernel
theorem dX7_mend_83 : decode cX7_mend 83 = .ok (.iload_n 3, 1) := by decide +kernel
theorem dX7_mend_84 : decode cX7_mend 84 = .ok (.iadd, 1) := by decide +kernel
theorem dX7_mend_85 : decode cX7_mend 85 = .ok (.iload 4, 2) := by decide +kernel
theorem dX7_mend_87 : decode cX7_mend 87 = .ok (.isub, 1) := by decide +kernel
theorem dX7_mend_88 : decode cX7_mend 88 = .ok (.iconst 4, 1) := by decide +kernel
theorem dX7_mend_89 : decode cX7_mend 89 = .ok (.iconst 0, 1) := by decide +kernel
theorem dX7_mend_90 : decode cX7_mend 90 = .ok (.invokevirtual 57, 3) := by decide +kernel
theorem dX7_mend_93 : decode cX7_mend 93 = .ok (.aload_n 0, 1) := by decide +kernel
theorem dX7_mend_94 : decode cX7_mend 94 = .ok (.iload 4, 2) := by decide +kernel
theorem dX7_mend_96 : decode cX7_mend 96 = .ok (.iconst 0, 1) := by decide +kernel
theorem dX7_mend_97 : decode cX7_mend 97 = .ok (.iload_n 1, 1) := by decide +kernel
theorem dX7_mend_98 : decode cX7_mend 98 = .ok (.invokevirtual 57, 3) := by decide +kernel
theorem dX7_mend_101 : decode cX7_mend 101 = .ok (.aload_n 0, 1) := by decide +kernel
theorem dX7_mend_102 : decode cX7_mend 102 = .ok (.getfield 7, 3) := by decide +kernel
theorem dX7_mend_105 : decode cX7_mend 105 = .ok (.bipush 121, 2) := by decide +kernel
theorem dX7_mend_107 : decode cX7_mend 107 = .ok (.iload 4, 2) := by decide +kernel
theorem dX7_mend_109 : decode cX7_mend 109 = .ok (.iadd, 1) := by decide +kernel
theorem dX7_mend_110 : decode cX7_mend 110 = .ok (.iload 5, 2) := by decide +kernel
theorem dX7_mend_112 : decode cX7_mend 112 = .ok (.iastore, 1) := by decide +kernel
theorem dX7_mend_113 : decode cX7_mend 113 = .ok (.aload_n 0, 1) := by decide +kernel
theorem dX7_mend_114 : decode cX7_mend 114 = .ok (.iconst 3, 1) := by decide +kernel
theorem dX7_mend_115 : decode cX7_mend 115 = .ok (.invokevirtual 61, 3) := by decide +kernel
theorem dX7_mend_118 : decode cX7_mend 118 = .ok (.iload 4, 2) := by decide +kernel
theorem dX7_mend_120 : decode cX7_mend 120 = .ok (.ireturn, 1) := by decide +kernel
theorem dX7_levels_0 : decode cX7_levels 0 = .ok (.iconst 0, 1) := by decide +kernel
theorem dX7_levels_1 : decode cX7_levels 1 = .ok (.istore_n 1, 1) := by decide +kernel
theorem dX7_levels_2 : decode cX7_levels 2 = .ok (.iconst 1, 1) := by decide +kernel
theorem dX7_levels_3 : decode cX7_levels 3 = .ok (.istore_n 2, 1) := by decide +kernel
theorem dX7_levels_4 : decode cX7_levels 4 = .ok (.iload_n 2, 1) := by decide +kernel
theorem dX7_levels_5 : decode cX7_levels 5 = .ok (.ifCond .eq 158, 3) := by decide +kernel
theorem dX7_levels_8 : decode cX7_levels 8 = .ok (.iconst 0, 1) := by decide +kernel
theorem dX7_levels_9 : decode cX7_levels 9 = .ok (.istore_n 3, 1) := by decide +kernel
theorem dX7_levels_10 : decode cX7_levels 10 = .ok (.iconst (-1), 1) := by decide +kernel
theorem dX7_levels_11 : decode cX7_levels 11 = .ok (.istore 4, 2) := by decide +kernel
theorem dX7_levels_13 : decode cX7_levels 13 = .ok (.iconst 0, 1) := by decide +kernel
theorem dX7_levels_14 : decode cX7_levels 14 = .ok (.istore 5, 2) := by decide +kernel
theorem dX7_levels_16 : decode cX7_levels 16 = .ok (.iload 5, 2) := by decide +kernel
theorem dX7_levels_18 : decode cX7_levels 18 = .ok (.bipush 8, 2) := by decide +kernel
theorem dX7_levels_20 : decode cX7_levels 20 = .ok (.if_icmp .ge 84, 3) := by decide +kernel
theorem dX7_levels_23 : decode cX7_levels 23 = .ok (.aload_n 0, 1) := by decide +kernel
theorem dX7_levels_24 : decode cX7_levels 24 = .ok (.iconst 0, 1) := by decide +kernel
theorem dX7_levels_25 : decode cX7_levels 25 = .ok (.iload 5, 2) := by decide +kernel
theorem dX7_levels_27 : decode cX7_levels 27 = .ok (.invokevirtual 37, 3) := by decide +kernel
theorem dX7_levels_30 : decode cX7_levels 30 = .ok (.aload_n 0, 1) := by decide +kernel
theorem dX7_levels_31 : decode cX7_levels 31 = .ok (.iconst 0, 1) := by decide +kernel
theorem dX7_levels_32 : decode cX7_levels 32 = .ok (.iload_n 3, 1) := by decide +kernel
theorem dX7_levels_33 : decode cX7_levels 33 = .ok (.invokevirtual 37, 3) := by decide +kernel
theorem dX7_levels_36 : decode cX7_levels 36 = .ok (.if_icmp .le 8, 3) := by decide +kernel
theorem dX7_levels_39 : decode cX7_levels 39 = .ok (.iload 5, 2) := by decide +kernel
theorem dX7_levels_41 : decode cX7_levels 41 = .ok (.goto 4, 3) := by decide +kernel
theorem dX7_levels_44 : decode cX7_levels 44 = .ok (.iload_n 3, 1) := by decide +kernel
theorem dX7_levels_45 : decode cX7_levels 45 = .ok (.istore_n 3, 1) := by decide +kernel
theorem dX7_levels_46 : decode cX7_levels 46 = .ok (.aload_n 0, 1) := by decide +kernel
theorem dX7_levels_47 : decode cX7_levels 47 = .ok (.iload 5, 2) := by decide +kernel
theorem dX7_levels_49 : decode cX7_levels 49 = .ok (.invokevirtual 51, 3) := by decide +kernel
theorem dX7_levels_52 : decode cX7_levels 52 = .ok (.ifCond .le 29, 3) := by decide +kernel
theorem dX7_levels_55 : decode cX7_levels 55 = .ok (.iload 4, 2) := by decide +kernel
theorem dX7_levels_57 : decode cX7_levels 57 = .ok (.ifCond .lt 20, 3) := by decide +kernel
theorem dX7_levels_60 : decode cX7_levels 60 = .ok (.aload_n 0, 1) := by decide +kernel
theorem dX7_levels_61 : decode cX7_levels 61 = .ok (.iconst 0, 1) := by decide +kernel
theorem dX7_levels_62 : decode cX7_levels 62 = .ok (.iload 5, 2) := by decide +kernel
theorem dX7_levels_64 : decode cX7_levels 64 = .ok (.invokevirtual 37, 3) := by decide +kernel
theorem dX7_levels_67 : decode cX7_levels 67 = .ok (.aload_n 0, 1) := by decide +kernel
theorem dX7_levels_68 : decode cX7_levels 68 = .ok (.iconst 0, 1) := by decide +kernel
theorem dX7_levels_69 : decode cX7_levels 69 = .ok (.iload 4, 2) := by decide +kernel
theorem dX7_levels_71 : decode cX7_levels 71 = .ok (.invokevirtual 37, 3) := by decide +kernel
theorem dX7_levels_74 : decode cX7_levels 74 = .ok (.if_icmp .ge 7, 3) := by decide +kernel
theorem dX7_levels_77 : decode cX7_levels 77 = .ok (.iconst 1, 1) := by decide +kernel
theorem dX7_levels_78 : decode cX7_levels 78 = .ok (.goto 4, 3) := by decide +kernel
theorem dX7_levels_81 : decode cX7_levels 81 = .ok (.iconst 0, 1) := by decide +kernel
theorem dX7_levels_82 : decode cX7_levels 82 = .ok (.istore 6, 2) := by decide +kernel
theorem dX7_levels_84 : decode cX7_levels 84 = .ok (.iload 6, 2) := by decide +kernel
theorem dX7_levels_86 : decode cX7_levels 86 = .ok (.ifCond .eq 8, 3) := by decide +kernel
theorem dX7_levels_89 : decode cX7_levels 89 = .ok (.iload 5, 2) := by decide +kernel
theorem dX7_levels_91 : decode cX7_levels 91 = .ok (.goto 5, 3) := by decide +kernel
theorem dX7_levels_94 : decode cX7_levels 94 = .ok (.iload 4, 2) := by decide +kernel
theorem dX7_levels_96 : decode cX7_levels 96 = .ok (.istore 4, 2) := by decide +kernel
theorem dX7_levels_98 : decode cX7_levels 98 = .ok (.iinc 5 1, 3) := by decide +kernel
theorem dX7_levels_101 : decode cX7_levels 101 = .ok (.goto (-85), 3) := by decide +kernel
theorem dX7_levels_104 : decode cX7_levels 104 = .ok (.iload 4, 2) := by decide +kernel
theorem dX7_levels_106 : decode cX7_levels 106 = .ok (.ifCond .lt 33, 3) := by decide +kernel
theorem dX7_levels_109 : decode cX7_levels 109 = .ok (.aload_n 0, 1) := by decide +kernel
theorem dX7_levels_110 : decode cX7_levels 110 = .ok (.iconst 0, 1) := by decide +kernel
theorem dX7_levels_111 : decode cX7_levels 111 = .ok (.iload_n 3, 1) := by decide +kernel
theorem dX7_levels_112 : decode cX7_levels 112 = .ok (.invokevirtual 37, 3) := by decide +kernel
theorem dX7_levels_115 : decode cX7_levels 115 = .ok (.aload_n 0, 1) := by decide +kernel
theorem dX7_levels_116 : decode cX7_levels 116 = .ok (.iconst 0, 1) := by decide +kernel
theorem dX7_levels_117 : decode cX7_levels 117 = .ok (.iload 4, 2) := by decide +kernel
theorem dX7_levels_119 : decode cX7_levels 119 = .ok (.invokevirtual 37, 3) := by decide +kernel
theorem dX7_levels_122 : decode cX7_levels 122 = .ok (.iconst 2, 1) := by decide +kernel
theorem dX7_levels_123 : decode cX7_levels 123 = .ok (.iadd, 1) := by decide +kernel
theorem dX7_levels_124 : decode cX7_levels 124 = .ok (.if_icmp .lt 15, 3) := by decide +kernel
theorem dX7_levels_127 : decode cX7_levels 127 = .ok (.aload_n 0, 1) := by decide +kernel
theorem dX7_levels_128 : decode cX7_levels 128 = .ok (.iload_n 3, 1) := by decide +kernel
theorem dX7_levels_129 : decode cX7_levels 129 = .ok (.invokevirtual 71, 3) := by decide +kernel
theorem dX7_levels_132 : decode cX7_levels 132 = .ok (.ifCond .lt 7, 3) := by decide +kernel
theorem dX7_levels_135 : decode cX7_levels 135 = .ok (.iconst 1, 1) := by decide +kernel
theorem dX7_levels_136 : decode cX7_levels 136 = .ok (.goto 4, 3) := by decide +kernel
theorem dX7_levels_139 : decode cX7_levels 139 = .ok (.iconst 0, 1) := by decide +kernel
theorem dX7_levels_140 : decode cX7_levels 140 = .ok (.istore_n 2, 1) := by decide +kernel
theorem dX7_levels_141 : decode cX7_levels 141 = .ok (.iload_n 2, 1) := by decide +kernel
theorem dX7_levels_142 : decode cX7_levels 142 = .ok (.ifCond .eq 18, 3) := by decide +kernel
theorem dX7_levels_145 : decode cX7_levels 145 = .ok (.aload_n 0, 1) := by decide +kernel
theorem dX7_levels_146 : decode cX7_levels 146 = .ok (.aload_n 0, 1) := by decide +kernel
theorem dX7_levels_147 : decode cX7_levels 147 = .ok (.iload_n 3, 1) := by decide +kernel
theorem dX7_levels_148 : decode cX7_levels 148 = .ok (.invokevirtual 71, 3) := by decide +kernel
theorem dX7_levels_151 : decode cX7_levels 151 = .ok (.iconst 0, 1) := by decide +kernel
theorem dX7_levels_152 : decode cX7_levels 152 = .ok (.iload 4, 2) := by decide +kernel
theorem dX7_levels_154 : decode cX7_levels 154 = .ok (.invokevirtual 57, 3) := by decide +kernel
theorem dX7_levels_157 : decode cX7_levels 157 = .ok (.iinc 1 1, 3) := by decide +kernel
theorem dX7_levels_160 : decode cX7_levels 160 = .ok (.goto (-156), 3) := by decide +kernel
theorem dX7_levels_163 : decode cX7_levels 163 = .ok (.iload_n 1, 1) := by decide +kernel
theorem dX7_levels_164 : decode cX7_levels 164 = .ok (.ireturn, 1) := by decide +kernel
theorem dX7_level_0 : decode cX7_level 0 = .ok (.aload_n 0, 1) := by decide +kernel
theorem dX7_level_1 : decode cX7_level 1 = .ok (.invokevirtual 54, 3) := by decide +kernel
theorem dX7_level_4 : decode cX7_level 4 = .ok (.aload_n 0, 1) := by decide +kernel
theorem dX7_level_5 : decode cX7_level 5 = .ok (.invokevirtual 112, 3) := by decide +kernel
theorem dX7_level_8 : decode cX7_level 8 = .ok (.ireturn, 1) := by decide +kernel
theorem dX7_take_0 : decode cX7_take 0 = .ok (.iload_n 1, 1) := by decide +kernel
theorem dX7_take_1 : decode cX7_take 1 = .ok (.iconst 0, 1) := by decide +kernel
theorem dX7_take_2 : decode cX7_take 2 = .ok (.iconst 1, 1) := by decide +kernel
theorem dX7_take_3 : decode cX7_take 3 = .ok (.invokestatic 22, 3) := by decide +kernel
theorem dX7_take_6 : decode cX7_take 6 = .ok (.ifCond .ne 5, 3) := by decide +kernel
theorem dX7_take_9 : decode cX7_take 9 = .ok (.iconst (-1), 1) := by decide +kernel
theorem dX7_take_10 : decode cX7_take 10 = .ok (.ireturn, 1) := by decide +kernel
theorem dX7_take_11 : decode cX7_take 11 = .ok (.aload_n 0, 1) := by decide +kernel
theorem dX7_take_12 : decode cX7_take 12 = .ok (.invokevirtual 54, 3) := by decide +kernel
theorem dX7_take_15 : decode cX7_take 15 = .ok (.sipush 328, 3) := by decide +kernel
theorem dX7_take_18 : decode cX7_take 18 = .ok (.sipush 329, 3) := by decide +kernel
theorem dX7_take_21 : decode cX7_take 21 = .ok (.iload_n 1, 1) := by decide +kernel
theorem dX7_take_22 : decode cX7_take 22 = .ok (.imul, 1) := by decide +kernel
theorem dX7_take_23 : decode cX7_take 23 = .ok (.iadd, 1) := by decide +kernel
theorem dX7_take_24 : decode cX7_take 24 = .ok (.istore_n 2, 1) := by decide +kernel
theorem dX7_take_25 : decode cX7_take 25 = .ok (.aload_n 0, 1) := by decide +kernel
theorem dX7_take_26 : decode cX7_take 26 = .ok (.getfield 7, 3) := by decide +kernel
theorem dX7_take_29 : decode cX7_take 29 = .ok (.iload_n 2, 1) := by decide +kernel
theorem dX7_take_30 : decode cX7_take 30 = .ok (.iconst 1, 1) := by decide +kernel
theorem dX7_take_31 : decode cX7_take 31 = .ok (.iastore, 1) := by decide +kernel
theorem dX7_take_32 : decode cX7_take 32 = .ok (.iconst 0, 1) := by decide +kernel
theorem dX7_take_33 : decode cX7_take 33 = .ok (.istore_n 3, 1) := by decide +kernel
theorem dX7_take_34 : decode cX7_take 34 = .ok (.iload_n 3, 1) := by decide +kernel
theorem dX7_take_35 : decode cX7_take 35 = .ok (.sipush 328, 3) := by decide +kernel
theorem dX7_take_38 : decode cX7_take 38 = .ok (.if_icmp .ge 25, 3) := by decide +kernel
theorem dX7_take_41 : decode cX7_take 41 = .ok (.aload_n 0, 1) := by decide +kernel
theorem dX7_take_42 : decode cX7_take 42 = .ok (.getfield 7, 3) := by decide +kernel
theorem dX7_take_45 : decode cX7_take 45 = .ok (.iload_n 2, 1) := by decide +kernel
theorem dX7_take_46 : decode cX7_take 46 = .ok (.iconst 1, 1) := by decide +kernel
theorem dX7_take_47 : decode cX7_take 47 = .ok (.iadd, 1) := by decide +kernel
theorem dX7_take_48 : decode cX7_take 48 = .ok (.iload_n 3, 1) := by decide +kernel
theorem dX7_take_49 : decode cX7_take 49 = .ok (.iadd, 1) := by decide +kernel
theorem dX7_take_50 : decode cX7_take 50 = .ok (.aload_n 0, 1) := by decide +kernel
theorem dX7_take_51 : decode cX7_take 51 = .ok (.getfield 7, 3) := by decide +kernel
theorem dX7_take_54 : decode cX7_take 54 = .ok (.iload_n 3, 1) := by decide +kernel
theorem dX7_take_55 : decode cX7_take 55 = .ok (.iaload, 1) := by decide +kernel
theorem dX7_take_56 : decode cX7_take 56 = .ok (.iastore, 1) := by decide +kernel
theorem dX7_take_57 : decode cX7_take 57 = .ok (.iinc 3 1, 3) := by decide +kernel
theorem dX7_take_60 : decode cX7_take 60 = .ok (.goto (-26), 3) := by decide +kernel
theorem dX7_take_63 : decode cX7_take 63 = .ok (.aload_n 0, 1) := by decide +kernel
theorem dX7_take_64 : decode cX7_take 64 = .ok (.getfield 7, 3) := by decide +kernel
theorem dX7_take_67 : decode cX7_take 67 = .ok (.sipush 322, 3) := by decide +kernel
theorem dX7_take_70 : decode cX7_take 70 = .ok (.iaload, 1) := by decide +kernel
theorem dX7_take_71 : decode cX7_take 71 = .ok (.ireturn, 1) := by decide +kernel
theorem dX7_restore_0 : decode cX7_restore 0 = .ok (.iload_n 1, 1) := by decide +kernel
theorem dX7_restore_1 : decode cX7_restore 1 = .ok (.iconst 0, 1) := by decide +kernel
theorem dX7_restore_2 : decode cX7_restore 2 = .ok (.iconst 1, 1) := by decide +kernel
theorem dX7_restore_3 : decode cX7_restore 3 = .ok (.invokestatic 22, 3) := by decide +kernel
theorem dX7_restore_6 : decode cX7_restore 6 = .ok (.ifCond .ne 5, 3) := by decide +kernel
theorem dX7_restore_9 : decode cX7_restore 9 = .ok (.iconst (-1), 1) := by decide +kernel
theorem dX7_restore_10 : decode cX7_restore 10 = .ok (.ireturn, 1) := by decide +kernel
theorem dX7_restore_11 : decode cX7_restore 11 = .ok (.sipush 328, 3) := by decide +kernel
theorem dX7_restore_14 : decode cX7_restore 14 = .ok (.sipush 329, 3) := by decide +kernel
theorem dX7_restore_17 : decode cX7_restore 17 = .ok (.iload_n 1, 1) := by decide +kernel
theorem dX7_restore_18 : decode cX7_restore 18 = .ok (.imul, 1) := by decide +kernel
theorem dX7_restore_19 : decode cX7_restore 19 = .ok (.iadd, 1) := by decide +kernel
theorem dX7_restore_20 : decode cX7_restore 20 = .ok (.istore_n 2, 1) := by decide +kernel
theorem dX7_restore_21 : decode cX7_restore 21 = .ok (.aload_n 0, 1) := by decide +kernel
theorem dX7_restore_22 : decode cX7_restore 22 = .ok (.getfield 7, 3) := by decide +kernel
theorem dX7_restore_25 : decode cX7_restore 25 = .ok (.iload_n 2, 1) := by decide +kernel
theorem dX7_restore_26 : decode cX7_restore 26 = .ok (.iaload, 1) := by decide +kernel
theorem dX7_restore_27 : decode cX7_restore 27 = .ok (.ifCond .ne 6, 3) := by decide +kernel
theorem dX7_restore_30 : decode cX7_restore 30 = .ok (.bipush (-2), 2) := by decide +kernel
theorem dX7_restore_32 : decode cX7_restore 32 = .ok (.ireturn, 1) := by decide +kernel
theorem dX7_restore_33 : decode cX7_restore 33 = .ok (.aload_n 0, 1) := by decide +kernel
theorem dX7_restore_34 : decode cX7_restore 34 = .ok (.invokevirtual 54, 3) := by decide +kernel
theorem dX7_restore_37 : decode cX7_restore 37 = .ok (.iconst 0, 1) := by decide +kernel
theorem dX7_restore_38 : decode cX7_restore 38 = .ok (.istore_n 3, 1) := by decide +kernel
theorem dX7_restore_39 : decode cX7_restore 39 = .ok (.iload_n 3, 1) := by decide +kernel
theorem dX7_restore_40 : decode cX7_restore 40 = .ok (.sipush 328, 3) := by decide +kernel
theorem dX7_restore_43 : decode cX7_restore 43 = .ok (.if_icmp .ge 25, 3) := by decide +kernel
theorem dX7_restore_46 : decode cX7_restore 46 = .ok (.aload_n 0, 1) := by decide +kernel
theorem dX7_restore_47 : decode cX7_restore 47 = .ok (.getfield 7, 3) := by decide +kernel
theorem dX7_restore_50 : decode cX7_restore 50 = .ok (.iload_n 3, 1) := by decide +kernel
theorem dX7_restore_51 : decode cX7_restore 51 = .ok (.aload_n 0, 1) := by decide +kernel
theorem dX7_restore_52 : decode cX7_restore 52 = .ok (.getfield 7, 3) := by decide +kernel
theorem dX7_restore_55 : decode cX7_restore 55 = .ok (.iload_n 2, 1) := by decide +kernel
theorem dX7_restore_56 : decode cX7_restore 56 = .ok (.iconst 1, 1) := by decide +kernel
theorem dX7_restore_57 : decode cX7_restore 57 = .ok (.iadd, 1) := by decide +kernel
theorem dX7_restore_58 : decode cX7_restore 58 = .ok (.iload_n 3, 1) := by decide +kernel
theorem dX7_restore_59 : decode cX7_restore 59 = .ok (.iadd, 1) := by decide +kernel
theorem dX7_restore_60 : decode cX7_restore 60 = .ok (.iaload, 1) := by decide +kernel
theorem dX7_restore_61 : decode cX7_restore 61 = .ok (.iastore, 1) := by decide +kernel
theorem dX7_restore_62 : decode cX7_restore 62 = .ok (.iinc 3 1, 3) := by decide +kernel
theorem dX7_restore_65 : decode cX7_restore 65 = .ok (.goto (-26), 3) := by decide +kernel
theorem dX7_restore_68 : decode cX7_restore 68 = .ok (.aload_n 0, 1) := by decide +kernel
theorem dX7_restore_69 : decode cX7_restore 69 = .ok (.getfield 7, 3) := by decide +kernel
theorem dX7_restore_72 : decode cX7_restore 72 = .ok (.sipush 322, 3) := by decide +kernel
theorem dX7_restore_75 : decode cX7_restore 75 = .ok (.iaload, 1) := by decide +kernel
theorem dX7_restore_76 : decode cX7_restore 76 = .ok (.ireturn, 1) := by decide +kernel
theorem dX7_undo_0 : decode cX7_undo 0 = .ok (.aload_n 0, 1) := by decide +kernel
theorem dX7_undo_1 : decode cX7_undo 1 = .ok (.getfield 26, 3) := by decide +kernel
theorem dX7_undo_4 : decode cX7_undo 4 = .ok (.ifCond .ne 6, 3) := by decide +kernel
theorem dX7_undo_7 : decode cX7_undo 7 = .ok (.bipush (-2), 2) := by decide +kernel
theorem dX7_undo_9 : decode cX7_undo 9 = .ok (.ireturn, 1) := by decide +kernel
theorem dX7_undo_10 : decode cX7_undo 10 = .ok (.aload_n 0, 1) := by decide +kernel
theorem dX7_undo_11 : decode cX7_undo 11 = .ok (.dup, 1) := by decide +kernel
theorem dX7_undo_12 : decode cX7_undo 12 = .ok (.getfield 26, 3) := by decide +kernel
theorem dX7_undo_15 : decode cX7_undo 15 = .ok (.iconst 1, 1) := by decide +kernel
theorem dX7_undo_16 : decode cX7_undo 16 = .ok (.isub, 1) := by decide +kernel
theorem dX7_undo_17 : decode cX7_undo 17 = .ok (.putfield 26, 3) := by decide +kernel
theorem dX7_undo_20 : decode cX7_undo 20 = .ok (.iconst 0, 1) := by decide +kernel
theorem dX7_undo_21 : decode cX7_undo 21 = .ok (.istore_n 1, 1) := by decide +kernel
theorem dX7_undo_22 : decode cX7_undo 22 = .ok (.iload_n 1, 1) := by decide +kernel
theorem dX7_undo_23 : decode cX7_undo 23 = .ok (.sipush 986, 3) := by decide +kernel
theorem dX7_undo_26 : decode cX7_undo 26 = .ok (.if_icmp .ge 30, 3) := by decide +kernel
theorem dX7_undo_29 : decode cX7_undo 29 = .ok (.aload_n 0, 1) := by decide +kernel
theorem dX7_undo_30 : decode cX7_undo 30 = .ok (.getfield 7, 3) := by decide +kernel
theorem dX7_undo_33 : decode cX7_undo 33 = .ok (.iload_n 1, 1) := by decide +kernel
theorem dX7_undo_34 : decode cX7_undo 34 = .ok (.aload_n 0, 1) := by decide +kernel
theorem dX7_undo_35 : decode cX7_undo 35 = .ok (.getfield 13, 3) := by decide +kernel
theorem dX7_undo_38 : decode cX7_undo 38 = .ok (.sipush 986, 3) := by decide +kernel
theorem dX7_undo_41 : decode cX7_undo 41 = .ok (.aload_n 0, 1) := by decide +kernel
theorem dX7_undo_42 : decode cX7_undo 42 = .ok (.getfield 26, 3) := by decide +kernel
theorem dX7_undo_45 : decode cX7_undo 45 = .ok (.imul, 1) := by decide +kernel
theorem dX7_undo_46 : decode cX7_undo 46 = .ok (.iload_n 1, 1) := by decide +kernel
theorem dX7_undo_47 : decode cX7_undo 47 = .ok (.iadd, 1) := by decide +kernel
theorem dX7_undo_48 : decode cX7_undo 48 = .ok (.iaload, 1) := by decide +kernel
theorem dX7_undo_49 : decode cX7_undo 49 = .ok (.iastore, 1) := by decide +kernel
theorem dX7_undo_50 : decode cX7_undo 50 = .ok (.iinc 1 1, 3) := by decide +kernel
theorem dX7_undo_53 : decode cX7_undo 53 = .ok (.goto (-31), 3) := by decide +kernel
theorem dX7_undo_56 : decode cX7_undo 56 = .ok (.aload_n 0, 1) := by decide +kernel
theorem dX7_undo_57 : decode cX7_undo 57 = .ok (.getfield 26, 3) := by decide +kernel
theorem dX7_undo_60 : decode cX7_undo 60 = .ok (.ireturn, 1) := by decide +kernel
theorem dX7_append_0 : decode cX7_append 0 = .ok (.iload_n 1, 1) := by decide +kernel
theorem dX7_append_1 : decode cX7_append 1 = .ok (.iconst 1, 1) := by decide +kernel
theorem dX7_append_2 : decode cX7_append 2 = .ok (.sipush 255, 3) := by decide +kernel
theorem dX7_append_5 : decode cX7_append 5 = .ok (.invokestatic 22, 3) := by decide +kernel
theorem dX7_append_8 : decode cX7_append 8 = .ok (.ifCond .ne 5, 3) := by decide +kernel
theorem dX7_append_11 : decode cX7_append 11 = .ok (.iconst (-1), 1) := by decide +kernel
theorem dX7_append_12 : decode cX7_append 12 = .ok (.ireturn, 1) := by decide +kernel
theorem dX7_append_13 : decode cX7_append 13 = .ok (.aload_n 0, 1) := by decide +kernel
theorem dX7_append_14 : decode cX7_append 14 = .ok (.getfield 116, 3) := by decide +kernel
theorem dX7_append_17 : decode cX7_append 17 = .ok (.bipush 80, 2) := by decide +kernel
theorem dX7_append_19 : decode cX7_append 19 = .ok (.if_icmp .ne 6, 3) := by decide +kernel
theorem dX7_append_22 : decode cX7_append 22 = .ok (.bipush (-3), 2) := by decide +kernel
theorem dX7_append_24 : decode cX7_append 24 = .ok (.ireturn, 1) := by decide +kernel
theorem dX7_append_25 : decode cX7_append 25 = .ok (.aload_n 0, 1) := by decide +kernel
theorem dX7_append_26 : decode cX7_append 26 = .ok (.getfield 19, 3) := by decide +kernel
theorem dX7_append_29 : decode cX7_append 29 = .ok (.aload_n 0, 1) := by decide +kernel
theorem dX7_append_30 : decode cX7_append 30 = .ok (.getfield 116, 3) := by decide +kernel
theorem dX7_append_33 : decode cX7_append 33 = .ok (.iload_n 1, 1) := by decide +kernel
theorem dX7_append_34 : decode cX7_append 34 = .ok (.iastore, 1) := by decide +kernel
theorem dX7_append_35 : decode cX7_append 35 = .ok (.aload_n 0, 1) := by decide +kernel
theorem dX7_append_36 : decode cX7_append 36 = .ok (.dup, 1) := by decide +kernel
theorem dX7_append_37 : decode cX7_append 37 = .ok (.getfield 116, 3) := by decide +kernel
theorem dX7_append_40 : decode cX7_append 40 = .ok (.iconst 1, 1) := by decide +kernel
theorem dX7_append_41 : decode cX7_append 41 = .ok (.iadd, 1) := by decide +kernel
theorem dX7_append_42 : decode cX7_append 42 = .ok (.putfield 116, 3) := by decide +kernel
theorem dX7_append_45 : decode cX7_append 45 = .ok (.aload_n 0, 1) := by decide +kernel
theorem dX7_append_46 : decode cX7_append 46 = .ok (.getfield 116, 3) := by decide +kernel
theorem dX7_append_49 : decode cX7_append 49 = .ok (.ireturn, 1) := by decide +kernel
theorem dX7_clearText_0 : decode cX7_clearText 0 = .ok (.aload_n 0, 1) := by decide +kernel
theorem dX7_clearText_1 : decode cX7_clearText 1 = .ok (.getfield 116, 3) := by decide +kernel
theorem dX7_clearText_4 : decode cX7_clearText 4 = .ok (.istore_n 1, 1) := by decide +kernel
theorem dX7_clearText_5 : decode cX7_clearText 5 = .ok (.aload_n 0, 1) := by decide +kernel
theorem dX7_clearText_6 : decode cX7_clearText 6 = .ok (.iconst 0, 1) := by decide +kernel
theorem dX7_clearText_7 : decode cX7_clearText 7 = .ok (.putfield 116, 3) := by decide +kernel
theorem dX7_clearText_10 : decode cX7_clearText 10 = .ok (.iload_n 1, 1) := by decide +kernel
theorem dX7_clearText_11 : decode cX7_clearText 11 = .ok (.ireturn, 1) := by decide +kernel
theorem dX7_here_0 : decode cX7_here 0 = .ok (.aload_n 0, 1) := by decide +kernel
theorem dX7_here_1 : decode cX7_here 1 = .ok (.getfield 119, 3) := by decide +kernel
theorem dX7_here_4 : decode cX7_here 4 = .ok (.aload_n 0, 1) := by decide +kernel
theorem dX7_here_5 : decode cX7_here 5 = .ok (.getfield 116, 3) := by decide +kernel
theorem dX7_here_8 : decode cX7_here 8 = .ok (.if_icmp .ge 15, 3) := by decide +kernel
theorem dX7_here_11 : decode cX7_here 11 = .ok (.aload_n 0, 1) := by decide +kernel
theorem dX7_here_12 : decode cX7_here 12 = .ok (.getfield 19, 3) := by decide +kernel
theorem dX7_here_15 : decode cX7_here 15 = .ok (.aload_n 0, 1) := by decide +kernel
theorem dX7_here_16 : decode cX7_here 16 = .ok (.getfield 119, 3) := by decide +kernel
theorem dX7_here_19 : decode cX7_here 19 = .ok (.iaload, 1) := by decide +kernel
theorem dX7_here_20 : decode cX7_here 20 = .ok (.goto 4, 3) := by decide +kernel
theorem dX7_here_23 : decode cX7_here 23 = .ok (.iconst (-1), 1) := by decide +kernel
theorem dX7_here_24 : decode cX7_here 24 = .ok (.ireturn, 1) := by decide +kernel
theorem dX7_passes__0 : decode cX7_passes_ 0 = .ok (.aload_n 0, 1) := by decide +kernel
theorem dX7_passes__1 : decode cX7_passes_ 1 = .ok (.invokevirtual 122, 3) := by decide +kernel
theorem dX7_passes__4 : decode cX7_passes_ 4 = .ok (.iload_n 1, 1) := by decide +kernel
theorem dX7_passes__5 : decode cX7_passes_ 5 = .ok (.if_icmp .ne 7, 3) := by decide +kernel
theorem dX7_passes__8 : decode cX7_passes_ 8 = .ok (.iconst 1, 1) := by decide +kernel
theorem dX7_passes__9 : decode cX7_passes_ 9 = .ok (.goto 4, 3) := by decide +kernel
theorem dX7_passes__12 : decode cX7_passes_ 12 = .ok (.iconst 0, 1) := by decide +kernel
theorem dX7_passes__13 : decode cX7_passes_ 13 = .ok (.istore_n 2, 1) := by decide +kernel
theorem dX7_passes__14 : decode cX7_passes_ 14 = .ok (.aload_n 0, 1) := by decide +kernel
theorem dX7_passes__15 : decode cX7_passes_ 15 = .ok (.dup, 1) := by decide +kernel
theorem dX7_passes__16 : decode cX7_passes_ 16 = .ok (.getfield 119, 3) := by decide +kernel
theorem dX7_passes__19 : decode cX7_passes_ 19 = .ok (.iload_n 2, 1) := by decide +kernel
theorem dX7_passes__20 : decode cX7_passes_ 20 = .ok (.ifCond .eq 7, 3) := by decide +kernel
theorem dX7_passes__23 : decode cX7_passes_ 23 = .ok (.iconst 1, 1) := by decide +kernel
theorem dX7_passes__24 : decode cX7_passes_ 24 = .ok (.goto 4, 3) := by decide +kernel
theorem dX7_passes__27 : decode cX7_passes_ 27 = .ok (.iconst 0, 1) := by decide +kernel
theorem dX7_passes__28 : decode cX7_passes_ 28 = .ok (.iadd, 1) := by decide +kernel
theorem dX7_passes__29 : decode cX7_passes_ 29 = .ok (.putfield 119, 3) := by decide +kernel
theorem dX7_passes__32 : decode cX7_passes_ 32 = .ok (.iload_n 2, 1) := by decide +kernel
theorem dX7_passes__33 : decode cX7_passes_ 33 = .ok (.ireturn, 1) := by decide +kernel
theorem dX7_readNumber_0 : decode cX7_readNumber 0 = .ok (.aload_n 0, 1) := by decide +kernel
theorem dX7_readNumber_1 : decode cX7_readNumber 1 = .ok (.invokevirtual 122, 3) := by decide +kernel
theorem dX7_readNumber_4 : decode cX7_readNumber 4 = .ok (.bipush 48, 2) := by decide +kernel
theorem dX7_readNumber_6 : decode cX7_readNumber 6 = .ok (.bipush 57, 2) := by decide +kernel
theorem dX7_readNumber_8 : decode cX7_readNumber 8 = .ok (.invokestatic 22, 3) := by decide +kernel
theorem dX7_readNumber_11 : decode cX7_readNumber 11 = .ok (.ifCond .ne 5, 3) := by decide +kernel
theorem dX7_readNumber_14 : decode cX7_readNumber 14 = .ok (.iconst 0, 1) := by decide +kernel
theorem dX7_readNumber_15 : decode cX7_readNumber 15 = .ok (.ireturn, 1) := by decide +kernel
theorem dX7_readNumber_16 : decode cX7_readNumber 16 = .ok (.aload_n 0, 1) := by decide +kernel
theorem dX7_readNumber_17 : decode cX7_readNumber 17 = .ok (.aload_n 0, 1) := by decide +kernel
theorem dX7_readNumber_18 : decode cX7_readNumber 18 = .ok (.invokevirtual 122, 3) := by decide +kernel
theorem dX7_readNumber_21 : decode cX7_readNumber 21 = .ok (.bipush 48, 2) := by decide +kernel
theorem dX7_readNumber_23 : decode cX7_readNumber 23 = .ok (.isub, 1) := by decide +kernel
theorem dX7_readNumber_24 : decode cX7_readNumber 24 = .ok (.putfield 125, 3) := by decide +kernel
theorem dX7_readNumber_27 : decode cX7_readNumber 27 = .ok (.aload_n 0, 1) := by decide +kernel
theorem dX7_readNumber_28 : decode cX7_readNumber 28 = .ok (.dup, 1) := by decide +kernel
theorem dX7_readNumber_29 : decode cX7_readNumber 29 = .ok (.getfield 119, 3) := by decide +kernel
theorem dX7_readNumber_32 : decode cX7_readNumber 32 = .ok (.iconst 1, 1) := by decide +kernel
theorem dX7_readNumber_33 : decode cX7_readNumber 33 = .ok (.iadd, 1) := by decide +kernel
theorem dX7_readNumber_34 : decode cX7_readNumber 34 = .ok (.putfield 119, 3) := by decide +kernel
theorem dX7_readNumber_37 : decode cX7_readNumber 37 = .ok (.aload_n 0, 1) := by decide +kernel
theorem dX7_readNumber_38 : decode cX7_readNumber 38 = .ok (.getfield 125, 3) := by decide +kernel
theorem dX7_readNumber_41 : decode cX7_readNumber 41 = .ok (.ifCond .le 46, 3) := by decide +kernel
theorem dX7_readNumber_44 : decode cX7_readNumber 44 = .ok (.aload_n 0, 1) := by decide +kernel
theorem dX7_readNumber_45 : decode cX7_readNumber 45 = .ok (.invokevirtual 122, 3) := by decide +kernel
theorem dX7_readNumber_48 : decode cX7_readNumber 48 = .ok (.bipush 48, 2) := by decide +kernel
theorem dX7_readNumber_50 : decode cX7_readNumber 50 = .ok (.bipush 57, 2) := by decide +kernel
theorem dX7_readNumber_52 : decode cX7_readNumber 52 = .ok (.invokestatic 22, 3) := by decide +kernel
theorem dX7_readNumber_55 : decode cX7_readNumber 55 = .ok (.ifCond .eq 32, 3) := by decide +kernel
theorem dX7_readNumber_58 : decode cX7_readNumber 58 = .ok (.aload_n 0, 1) := by decide +kernel
theorem dX7_readNumber_59 : decode cX7_readNumber 59 = .ok (.bipush 10, 2) := by decide +kernel
theorem dX7_readNumber_61 : decode cX7_readNumber 61 = .ok (.aload_n 0, 1) := by decide +kernel
theorem dX7_readNumber_62 : decode cX7_readNumber 62 = .ok (.getfield 125, 3) := by decide +kernel
theorem dX7_readNumber_65 : decode cX7_readNumber 65 = .ok (.imul, 1) := by decide +kernel
theorem dX7_readNumber_66 : decode cX7_readNumber 66 = .ok (.aload_n 0, 1) := by decide +kernel
theorem dX7_readNumber_67 : decode cX7_readNumber 67 = .ok (.invokevirtual 122, 3) := by decide +kernel
theorem dX7_readNumber_70 : decode cX7_readNumber 70 = .ok (.iadd, 1) := by decide +kernel
theorem dX7_readNumber_71 : decode cX7_readNumber 71 = .ok (.bipush 48, 2) := by decide +kernel
theorem dX7_readNumber_73 : decode cX7_readNumber 73 = .ok (.isub, 1) := by decide +kernel
theorem dX7_readNumber_74 : decode cX7_readNumber 74 = .ok (.putfield 125, 3) := by decide +kernel
theorem dX7_readNumber_77 : decode cX7_readNumber 77 = .ok (.aload_n 0, 1) := by decide +kernel
theorem dX7_readNumber_78 : decode cX7_readNumber 78 = .ok (.dup, 1) := by decide +kernel
theorem dX7_readNumber_79 : decode cX7_readNumber 79 = .ok (.getfield 119, 3) := by decide +kernel
theorem dX7_readNumber_82 : decode cX7_readNumber 82 = .ok (.iconst 1, 1) := by decide +kernel
theorem dX7_readNumber_83 : decode cX7_readNumber 83 = .ok (.iadd, 1) := by decide +kernel
theorem dX7_readNumber_84 : decode cX7_readNumber 84 = .ok (.putfield 119, 3) := by decide +kernel
theorem dX7_readNumber_87 : decode cX7_readNumber 87 = .ok (.iconst 1, 1) := by decide +kernel
theorem dX7_readNumber_88 : decode cX7_readNumber 88 = .ok (.ireturn, 1) := by decide +kernel
theorem dX7_readOrder_0 : decode cX7_readOrder 0 = .ok (.aload_n 0, 1) := by decide +kernel
theorem dX7_readOrder_1 : decode cX7_readOrder 1 = .ok (.aload_n 0, 1) := by decide +kernel
theorem dX7_readOrder_2 : decode cX7_readOrder 2 = .ok (.invokevirtual 122, 3) := by decide +kernel
theorem dX7_readOrder_5 : decode cX7_readOrder 5 = .ok (.putfield 128, 3) := by decide +kernel
theorem dX7_readOrder_8 : decode cX7_readOrder 8 = .ok (.aload_n 0, 1) := by decide +kernel
theorem dX7_readOrder_9 : decode cX7_readOrder 9 = .ok (.getfield 128, 3) := by decide +kernel
theorem dX7_readOrder_12 : decode cX7_readOrder 12 = .ok (.bipush 98, 2) := by decide +kernel
theorem dX7_readOrder_14 : decode cX7_readOrder 14 = .ok (.if_icmp .eq 32, 3) := by decide +kernel
theorem dX7_readOrder_17 : decode cX7_readOrder 17 = .ok (.aload_n 0, 1) := by decide +kernel
theorem dX7_readOrder_18 : decode cX7_readOrder 18 = .ok (.getfield 128, 3) := by decide +kernel
theorem dX7_readOrder_21 : decode cX7_readOrder 21 = .ok (.bipush 114, 2) := by decide +kernel
theorem dX7_readOrder_23 : decode cX7_readOrder 23 = .ok (.if_icmp .eq 23, 3) := by decide +kernel
theorem dX7_readOrder_26 : decode cX7_readOrder 26 = .ok (.aload_n 0, 1) := by decide +kernel
theorem dX7_readOrder_27 : decode cX7_readOrder 27 = .ok (.getfield 128, 3) := by decide +kernel
theorem dX7_readOrder_30 : decode cX7_readOrder 30 = .ok (.bipush 104, 2) := by decide +kernel
theorem dX7_readOrder_32 : decode cX7_readOrder 32 = .ok (.if_icmp .eq 14, 3) := by decide +kernel
theorem dX7_readOrder_35 : decode cX7_readOrder 35 = .ok (.aload_n 0, 1) := by decide +kernel
theorem dX7_readOrder_36 : decode cX7_readOrder 36 = .ok (.getfield 128, 3) := by decide +kernel
theorem dX7_readOrder_39 : decode cX7_readOrder 39 = .ok (.bipush 108, 2) := by decide +kernel
theorem dX7_readOrder_41 : decode cX7_readOrder 41 = .ok (.if_icmp .eq 5, 3) := by decide +kernel
theorem dX7_readOrder_44 : decode cX7_readOrder 44 = .ok (.iconst 0, 1) := by decide +kernel
theorem dX7_readOrder_45 : decode cX7_readOrder 45 = .ok (.ireturn, 1) := by decide +kernel
theorem dX7_readOrder_46 : decode cX7_readOrder 46 = .ok (.aload_n 0, 1) := by decide +kernel
theorem dX7_readOrder_47 : decode cX7_readOrder 47 = .ok (.dup, 1) := by decide +kernel
theorem dX7_readOrder_48 : decode cX7_readOrder 48 = .ok (.getfield 119, 3) := by decide +kernel
theorem dX7_readOrder_51 : decode cX7_readOrder 51 = .ok (.iconst 1, 1) := by decide +kernel
theorem dX7_readOrder_52 : decode cX7_readOrder 52 = .ok (.iadd, 1) := by decide +kernel
theorem dX7_readOrder_53 : decode cX7_readOrder 53 = .ok (.putfield 119, 3) := by decide +kernel
theorem dX7_readOrder_56 : decode cX7_readOrder 56 = .ok (.aload_n 0, 1) := by decide +kernel
theorem dX7_readOrder_57 : decode cX7_readOrder 57 = .ok (.getfield 128, 3) := by decide +kernel
theorem dX7_readOrder_60 : decode cX7_readOrder 60 = .ok (.bipush 108, 2) := by decide +kernel
theorem dX7_readOrder_62 : decode cX7_readOrder 62 = .ok (.if_icmp .ne 5, 3) := by decide +kernel
theorem dX7_readOrder_65 : decode cX7_readOrder 65 = .ok (.iconst 1, 1) := by decide +kernel
theorem dX7_readOrder_66 : decode cX7_readOrder 66 = .ok (.ireturn, 1) := by decide +kernel
theorem dX7_readOrder_67 : decode cX7_readOrder 67 = .ok (.aload_n 0, 1) := by decide +kernel
theorem dX7_readOrder_68 : decode cX7_readOrder 68 = .ok (.invokevirtual 131, 3) := by decide +kernel
theorem dX7_readOrder_71 : decode cX7_readOrder 71 = .ok (.ifCond .ne 5, 3) := by decide +kernel
theorem dX7_readOrder_74 : decode cX7_readOrder 74 = .ok (.iconst 0, 1) := by decide +kernel
theorem dX7_readOrder_75 : decode cX7_readOrder 75 = .ok (.ireturn, 1) := by decide +kernel
theorem dX7_readOrder_76 : decode cX7_readOrder 76 = .ok (.aload_n 0, 1) := by decide +kernel
theorem dX7_readOrder_77 : decode cX7_readOrder 77 = .ok (.aload_n 0, 1) := by decide +kernel
theorem dX7_readOrder_78 : decode cX7_readOrder 78 = .ok (.getfield 125, 3) := by decide +kernel
theorem dX7_readOrder_81 : decode cX7_readOrder 81 = .ok (.putfield 135, 3) := by decide +kernel
theorem dX7_readOrder_84 : decode cX7_readOrder 84 = .ok (.aload_n 0, 1) := by decide +kernel
theorem dX7_readOrder_85 : decode cX7_readOrder 85 = .ok (.aload_n 0, 1) := by decide +kernel
theorem dX7_readOrder_86 : decode cX7_readOrder 86 = .ok (.getfield 128, 3) := by decide +kernel
theorem dX7_readOrder_89 : decode cX7_readOrder 89 = .ok (.bipush 104, 2) := by decide +kernel
theorem dX7_readOrder_91 : decode cX7_readOrder 91 = .ok (.if_icmp .ne 8, 3) := by decide +kernel
theorem dX7_readOrder_94 : decode cX7_readOrder 94 = .ok (.bipush 44, 2) := by decide +kernel
theorem dX7_readOrder_96 : decode cX7_readOrder 96 = .ok (.goto 5, 3) := by decide +kernel
theorem dX7_readOrder_99 : decode cX7_readOrder 99 = .ok (.bipush 64, 2) := by decide +kernel
theorem dX7_readOrder_101 : decode cX7_readOrder 101 = .ok (.invokevirtual 138, 3) := by decide +kernel
theorem dX7_readOrder_104 : decode cX7_readOrder 104 = .ok (.ifCond .eq 10, 3) := by decide +kernel
theorem dX7_readOrder_107 : decode cX7_readOrder 107 = .ok (.aload_n 0, 1) := by decide +kernel
theorem dX7_readOrder_108 : decode cX7_readOrder 108 = .ok (.invokevirtual 131, 3) := by decide +kernel
theorem dX7_readOrder_111 : decode cX7_readOrder 111 = .ok (.ifCond .ne 5, 3) := by decide +kernel
theorem dX7_readOrder_114 : decode cX7_readOrder 114 = .ok (.iconst 0, 1) := by decide +kernel
theorem dX7_readOrder_115 : decode cX7_readOrder 115 = .ok (.ireturn, 1) := by decide +kernel
theorem dX7_readOrder_116 : decode cX7_readOrder 116 = .ok (.aload_n 0, 1) := by decide +kernel
theorem dX7_readOrder_117 : decode cX7_readOrder 117 = .ok (.aload_n 0, 1) := by decide +kernel
theorem dX7_readOrder_118 : decode cX7_readOrder 118 = .ok (.getfield 125, 3) := by decide +kernel
theorem dX7_readOrder_121 : decode cX7_readOrder 121 = .ok (.putfield 140, 3) := by decide +kernel
theorem dX7_readOrder_124 : decode cX7_readOrder 124 = .ok (.iconst 1, 1) := by decide +kernel
theorem dX7_readOrder_125 : decode cX7_readOrder 125 = .ok (.ireturn, 1) := by decide +kernel
theorem dX7_faultOf_0 : decode cX7_faultOf 0 = .ok (.aload_n 0, 1) := by decide +kernel
theorem dX7_faultOf_1 : decode cX7_faultOf 1 = .ok (.iconst 0, 1) := by decide +kernel
theorem dX7_faultOf_2 : decode cX7_faultOf 2 = .ok (.putfield 119, 3) := by decide +kernel
theorem dX7_faultOf_5 : decode cX7_faultOf 5 = .ok (.aload_n 0, 1) := by decide +kernel
theorem dX7_faultOf_6 : decode cX7_faultOf 6 = .ok (.invokevirtual 143, 3) := by decide +kernel
theorem dX7_faultOf_9 : decode cX7_faultOf 9 = .ok (.istore_n 1, 1) := by decide +kernel
theorem dX7_faultOf_10 : decode cX7_faultOf 10 = .ok (.iload_n 1, 1) := by decide +kernel
theorem dX7_faultOf_11 : decode cX7_faultOf 11 = .ok (.ifCond .eq 20, 3) := by decide +kernel
theorem dX7_faultOf_14 : decode cX7_faultOf 14 = .ok (.aload_n 0, 1) := by decide +kernel
theorem dX7_faultOf_15 : decode cX7_faultOf 15 = .ok (.bipush 59, 2) := by decide +kernel
theorem dX7_faultOf_17 : decode cX7_faultOf 17 = .ok (.invokevirtual 138, 3) := by decide +kernel
theorem dX7_faultOf_20 : decode cX7_faultOf 20 = .ok (.ifCond .eq 11, 3) := by decide +kernel
theorem dX7_faultOf_23 : decode cX7_faultOf 23 = .ok (.aload_n 0, 1) := by decide +kernel
theorem dX7_faultOf_24 : decode cX7_faultOf 24 = .ok (.invokevirtual 143, 3) := by decide +kernel
theorem dX7_faultOf_27 : decode cX7_faultOf 27 = .ok (.istore_n 1, 1) := by decide +kernel
theorem dX7_faultOf_28 : decode cX7_faultOf 28 = .ok (.goto (-18), 3) := by decide +kernel
theorem dX7_faultOf_31 : decode cX7_faultOf 31 = .ok (.iload_n 1, 1) := by decide +kernel
theorem dX7_faultOf_32 : decode cX7_faultOf 32 = .ok (.ifCond .eq 18, 3) := by decide +kernel
theorem dX7_faultOf_35 : decode cX7_faultOf 35 = .ok (.aload_n 0, 1) := by decide +kernel
theorem dX7_faultOf_36 : decode cX7_faultOf 36 = .ok (.getfield 119, 3) := by decide +kernel
theorem dX7_faultOf_39 : decode cX7_faultOf 39 = .ok (.aload_n 0, 1) := by decide +kernel
theorem dX7_faultOf_40 : decode cX7_faultOf 40 = .ok (.getfield 116, 3) := by decide +kernel
theorem dX7_faultOf_43 : decode cX7_faultOf 43 = .ok (.if_icmp .ne 7, 3) := by decide +kernel
theorem dX7_faultOf_46 : decode cX7_faultOf 46 = .ok (.iconst (-1), 1) := by decide +kernel
theorem dX7_faultOf_47 : decode cX7_faultOf 47 = .ok (.goto 7, 3) := by decide +kernel
theorem dX7_faultOf_50 : decode cX7_faultOf 50 = .ok (.aload_n 0, 1) := by decide +kernel
theorem dX7_faultOf_51 : decode cX7_faultOf 51 = .ok (.getfield 119, 3) := by decide +kernel
theorem dX7_faultOf_54 : decode cX7_faultOf 54 = .ok (.ireturn, 1) := by decide +kernel
theorem dX7_does_0 : decode cX7_does 0 = .ok (.aload_n 0, 1) := by decide +kernel
theorem dX7_does_1 : decode cX7_does 1 = .ok (.getfield 128, 3) := by decide +kernel
theorem dX7_does_4 : decode cX7_does 4 = .ok (.bipush 98, 2) := by decide +kernel
theorem dX7_does_6 : decode cX7_does 6 = .ok (.if_icmp .ne 18, 3) := by decide +kernel
theorem dX7_does_9 : decode cX7_does 9 = .ok (.aload_n 0, 1) := by decide +kernel
theorem dX7_does_10 : decode cX7_does 10 = .ok (.aload_n 0, 1) := by decide +kernel
theorem dX7_does_11 : decode cX7_does 11 = .ok (.getfield 135, 3) := by decide +kernel
theorem dX7_does_14 : decode cX7_does 14 = .ok (.aload_n 0, 1) := by decide +kernel
theorem dX7_does_15 : decode cX7_does 15 = .ok (.getfield 140, 3) := by decide +kernel
theorem dX7_does_18 : decode cX7_does 18 = .ok (.invokevirtual 74, 3) := by decide +kernel
theorem dX7_does_21 : decode cX7_does 21 = .ok (.goto 52, 3) := by decide +kernel
theorem dX7_does_24 : decode cX7_does 24 = .ok (.aload_n 0, 1) := by decide +kernel
theorem dX7_does_25 : decode cX7_does 25 = .ok (.getfield 128, 3) := by decide +kernel
theorem dX7_does_28 : decode cX7_does 28 = .ok (.bipush 114, 2) := by decide +kernel
theorem dX7_does_30 : decode cX7_does 30 = .ok (.if_icmp .ne 18, 3) := by decide +kernel
theorem dX7_does_33 : decode cX7_does 33 = .ok (.aload_n 0, 1) := by decide +kernel
theorem dX7_does_34 : decode cX7_does 34 = .ok (.aload_n 0, 1) := by decide +kernel
theorem dX7_does_35 : decode cX7_does 35 = .ok (.getfield 135, 3) := by decide +kernel
theorem dX7_does_38 : decode cX7_does 38 = .ok (.aload_n 0, 1) := by decide +kernel
theorem dX7_does_39 : decode cX7_does 39 = .ok (.getfield 140, 3) := by decide +kernel
theorem dX7_does_42 : decode cX7_does 42 = .ok (.invokevirtual 84, 3) := by decide +kernel
theorem dX7_does_45 : decode cX7_does 45 = .ok (.goto 28, 3) := by decide +kernel
theorem dX7_does_48 : decode cX7_does 48 = .ok (.aload_n 0, 1) := by decide +kernel
theorem dX7_does_49 : decode cX7_does 49 = .ok (.getfield 128, 3) := by decide +kernel
theorem dX7_does_52 : decode cX7_does 52 = .ok (.bipush 104, 2) := by decide +kernel
theorem dX7_does_54 : decode cX7_does 54 = .ok (.if_icmp .ne 18, 3) := by decide +kernel
theorem dX7_does_57 : decode cX7_does 57 = .ok (.aload_n 0, 1) := by decide +kernel
theorem dX7_does_58 : decode cX7_does 58 = .ok (.aload_n 0, 1) := by decide +kernel
theorem dX7_does_59 : decode cX7_does 59 = .ok (.getfield 135, 3) := by decide +kernel
theorem dX7_does_62 : decode cX7_does 62 = .ok (.aload_n 0, 1) := by decide +kernel
theorem dX7_does_63 : decode cX7_does 63 = .ok (.getfield 140, 3) := by decide +kernel
theorem dX7_does_66 : decode cX7_does 66 = .ok (.invokevirtual 94, 3) := by decide +kernel
theorem dX7_does_69 : decode cX7_does 69 = .ok (.goto 4, 3) := by decide +kernel
theorem dX7_does_72 : decode cX7_does 72 = .ok (.iconst 0, 1) := by decide +kernel
theorem dX7_does_73 : decode cX7_does 73 = .ok (.istore_n 1, 1) := by decide +kernel
theorem dX7_does_74 : decode cX7_does 74 = .ok (.iload_n 1, 1) := by decide +kernel
theorem dX7_does_75 : decode cX7_does 75 = .ok (.ifCond .ge 5, 3) := by decide +kernel
theorem dX7_does_78 : decode cX7_does 78 = .ok (.iconst 0, 1) := by decide +kernel
theorem dX7_does_79 : decode cX7_does 79 = .ok (.ireturn, 1) := by decide +kernel
theorem dX7_does_80 : decode cX7_does 80 = .ok (.aload_n 0, 1) := by decide +kernel
theorem dX7_does_81 : decode cX7_does 81 = .ok (.getfield 128, 3) := by decide +kernel
theorem dX7_does_84 : decode cX7_does 84 = .ok (.bipush 98, 2) := by decide +kernel
theorem dX7_does_86 : decode cX7_does 86 = .ok (.if_icmp .ne 18, 3) := by decide +kernel
theorem dX7_does_89 : decode cX7_does 89 = .ok (.aload_n 0, 1) := by decide +kernel
theorem dX7_does_90 : decode cX7_does 90 = .ok (.aload_n 0, 1) := by decide +kernel
theorem dX7_does_91 : decode cX7_does 91 = .ok (.getfield 135, 3) := by decide +kernel
theorem dX7_does_94 : decode cX7_does 94 = .ok (.aload_n 0, 1) := by decide +kernel
theorem dX7_does_95 : decode cX7_does 95 = .ok (.getfield 140, 3) := by decide +kernel
theorem dX7_does_98 : decode cX7_does 98 = .ok (.invokevirtual 77, 3) := by decide +kernel
theorem dX7_does_101 : decode cX7_does 101 = .ok (.goto 55, 3) := by decide +kernel
theorem dX7_does_104 : decode cX7_does 104 = .ok (.aload_n 0, 1) := by decide +kernel
theorem dX7_does_105 : decode cX7_does 105 = .ok (.getfield 128, 3) := by decide +kernel
theorem dX7_does_108 : decode cX7_does 108 = .ok (.bipush 114, 2) := by decide +kernel
theorem dX7_does_110 : decode cX7_does 110 = .ok (.if_icmp .ne 18, 3) := by decide +kernel
theorem dX7_does_113 : decode cX7_does 113 = .ok (.aload_n 0, 1) := by decide +kernel
theorem dX7_does_114 : decode cX7_does 114 = .ok (.aload_n 0, 1) := by decide +kernel
theorem dX7_does_115 : decode cX7_does 115 = .ok (.getfield 135, 3) := by decide +kernel
theorem dX7_does_118 : decode cX7_does 118 = .ok (.aload_n 0, 1) := by decide +kernel
theorem dX7_does_119 : decode cX7_does 119 = .ok (.getfield 140, 3) := by decide +kernel
theorem dX7_does_122 : decode cX7_does 122 = .ok (.invokevirtual 87, 3) := by decide +kernel
theorem dX7_does_125 : decode cX7_does 125 = .ok (.goto 31, 3) := by decide +kernel
theorem dX7_does_128 : decode cX7_does 128 = .ok (.aload_n 0, 1) := by decide +kernel
theorem dX7_does_129 : decode cX7_does 129 = .ok (.getfield 128, 3) := by decide +kernel
theorem dX7_does_132 : decode cX7_does 132 = .ok (.bipush 104, 2) := by decide +kernel
theorem dX7_does_134 : decode cX7_does 134 = .ok (.if_icmp .ne 18, 3) := by decide +kernel
theorem dX7_does_137 : decode cX7_does 137 = .ok (.aload_n 0, 1) := by decide +kernel
theorem dX7_does_138 : decode cX7_does 138 = .ok (.aload_n 0, 1) := by decide +kernel
theorem dX7_does_139 : decode cX7_does 139 = .ok (.getfield 135, 3) := by decide +kernel
theorem dX7_does_142 : decode cX7_does 142 = .ok (.aload_n 0, 1) := by decide +kernel
theorem dX7_does_143 : decode cX7_does 143 = .ok (.getfield 140, 3) := by decide +kernel
theorem dX7_does_146 : decode cX7_does 146 = .ok (.invokevirtual 97, 3) := by decide +kernel
theorem dX7_does_149 : decode cX7_does 149 = .ok (.goto 7, 3) := by decide +kernel
theorem dX7_does_152 : decode cX7_does 152 = .ok (.aload_n 0, 1) := by decide +kernel
theorem dX7_does_153 : decode cX7_does 153 = .ok (.invokevirtual 112, 3) := by decide +kernel
theorem dX7_does_156 : decode cX7_does 156 = .ok (.istore_n 2, 1) := by decide +kernel
theorem dX7_does_157 : decode cX7_does 157 = .ok (.iconst 1, 1) := by decide +kernel
theorem dX7_does_158 : decode cX7_does 158 = .ok (.ireturn, 1) := by decide +kernel
theorem dX7_carryOut_0 : decode cX7_carryOut 0 = .ok (.aload_n 0, 1) := by decide +kernel
theorem dX7_carryOut_1 : decode cX7_carryOut 1 = .ok (.invokevirtual 146, 3) := by decide +kernel
theorem dX7_carryOut_4 : decode cX7_carryOut 4 = .ok (.istore_n 1, 1) := by decide +kernel
theorem dX7_carryOut_5 : decode cX7_carryOut 5 = .ok (.iload_n 1, 1) := by decide +kernel
theorem dX7_carryOut_6 : decode cX7_carryOut 6 = .ok (.ifCond .lt 9, 3) := by decide +kernel
theorem dX7_carryOut_9 : decode cX7_carryOut 9 = .ok (.sipush (-1000), 3) := by decide +kernel
theorem dX7_carryOut_12 : decode cX7_carryOut 12 = .ok (.iload_n 1, 1) := by decide +kernel
theorem dX7_carryOut_13 : decode cX7_carryOut 13 = .ok (.isub, 1) := by decide +kernel
theorem dX7_carryOut_14 : decode cX7_carryOut 14 = .ok (.ireturn, 1) := by decide +kernel
theorem dX7_carryOut_15 : decode cX7_carryOut 15 = .ok (.aload_n 0, 1) := by decide +kernel
theorem dX7_carryOut_16 : decode cX7_carryOut 16 = .ok (.invokevirtual 54, 3) := by decide +kernel
theorem dX7_carryOut_19 : decode cX7_carryOut 19 = .ok (.aload_n 0, 1) := by decide +kernel
theorem dX7_carryOut_20 : decode cX7_carryOut 20 = .ok (.iconst 0, 1) := by decide +kernel
theorem dX7_carryOut_21 : decode cX7_carryOut 21 = .ok (.putfield 119, 3) := by decide +kernel
theorem dX7_carryOut_24 : decode cX7_carryOut 24 = .ok (.iconst 0, 1) := by decide +kernel
theorem dX7_carryOut_25 : decode cX7_carryOut 25 = .ok (.istore_n 2, 1) := by decide +kernel
theorem dX7_carryOut_26 : decode cX7_carryOut 26 = .ok (.aload_n 0, 1) := by decide +kernel
theorem dX7_carryOut_27 : decode cX7_carryOut 27 = .ok (.invokevirtual 143, 3) := by decide +kernel
theorem dX7_carryOut_30 : decode cX7_carryOut 30 = .ok (.ifCond .eq 14, 3) := by decide +kernel
theorem dX7_carryOut_33 : decode cX7_carryOut 33 = .ok (.aload_n 0, 1) := by decide +kernel
theorem dX7_carryOut_34 : decode cX7_carryOut 34 = .ok (.invokevirtual 149, 3) := by decide +kernel
theorem dX7_carryOut_37 : decode cX7_carryOut 37 = .ok (.ifCond .eq 7, 3) := by decide +kernel
theorem dX7_carryOut_40 : decode cX7_carryOut 40 = .ok (.iconst 1, 1) := by decide +kernel
theorem dX7_carryOut_41 : decode cX7_carryOut 41 = .ok (.goto 4, 3) := by decide +kernel
theorem dX7_carryOut_44 : decode cX7_carryOut 44 = .ok (.iconst 0, 1) := by decide +kernel
theorem dX7_carryOut_45 : decode cX7_carryOut 45 = .ok (.istore_n 3, 1) := by decide +kernel
theorem dX7_carryOut_46 : decode cX7_carryOut 46 = .ok (.iload_n 3, 1) := by decide +kernel
theorem dX7_carryOut_47 : decode cX7_carryOut 47 = .ok (.ifCond .eq 38, 3) := by decide +kernel
theorem dX7_carryOut_50 : decode cX7_carryOut 50 = .ok (.iinc 2 1, 3) := by decide +kernel
theorem dX7_carryOut_53 : decode cX7_carryOut 53 = .ok (.aload_n 0, 1) := by decide +kernel
theorem dX7_carryOut_54 : decode cX7_carryOut 54 = .ok (.bipush 59, 2) := by decide +kernel
theorem dX7_carryOut_56 : decode cX7_carryOut 56 = .ok (.invokevirtual 138, 3) := by decide +kernel
theorem dX7_carryOut_59 : decode cX7_carryOut 59 = .ok (.ifCond .eq 21, 3) := by decide +kernel
theorem dX7_carryOut_62 : decode cX7_carryOut 62 = .ok (.aload_n 0, 1) := by decide +kernel
theorem dX7_carryOut_63 : decode cX7_carryOut 63 = .ok (.invokevirtual 143, 3) := by decide +kernel
theorem dX7_carryOut_66 : decode cX7_carryOut 66 = .ok (.ifCond .eq 14, 3) := by decide +kernel
theorem dX7_carryOut_69 : decode cX7_carryOut 69 = .ok (.aload_n 0, 1) := by decide +kernel
theorem dX7_carryOut_70 : decode cX7_carryOut 70 = .ok (.invokevirtual 149, 3) := by decide +kernel
theorem dX7_carryOut_73 : decode cX7_carryOut 73 = .ok (.ifCond .eq 7, 3) := by decide +kernel
theorem dX7_carryOut_76 : decode cX7_carryOut 76 = .ok (.iconst 1, 1) := by decide +kernel
theorem dX7_carryOut_77 : decode cX7_carryOut 77 = .ok (.goto 4, 3) := by decide +kernel
theorem dX7_carryOut_80 : decode cX7_carryOut 80 = .ok (.iconst 0, 1) := by decide +kernel
theorem dX7_carryOut_81 : decode cX7_carryOut 81 = .ok (.istore_n 3, 1) := by decide +kernel
theorem dX7_carryOut_82 : decode cX7_carryOut 82 = .ok (.goto (-36), 3) := by decide +kernel
theorem dX7_carryOut_85 : decode cX7_carryOut 85 = .ok (.aload_n 0, 1) := by decide +kernel
theorem dX7_carryOut_86 : decode cX7_carryOut 86 = .ok (.iconst 0, 1) := by decide +kernel
theorem dX7_carryOut_87 : decode cX7_carryOut 87 = .ok (.putfield 116, 3) := by decide +kernel
theorem dX7_carryOut_90 : decode cX7_carryOut 90 = .ok (.iload_n 2, 1) := by decide +kernel
theorem dX7_carryOut_91 : decode cX7_carryOut 91 = .ok (.ireturn, 1) := by decide +kernel
theorem dX7_brokenOnes_0 : decode cX7_brokenOnes 0 = .ok (.iconst 0, 1) := by decide +kernel
theorem dX7_brokenOnes_1 : decode cX7_brokenOnes 1 = .ok (.istore_n 1, 1) := by decide +kernel
theorem dX7_brokenOnes_2 : decode cX7_brokenOnes 2 = .ok (.iconst 0, 1) := by decide +kernel
theorem dX7_brokenOnes_3 : decode cX7_brokenOnes 3 = .ok (.istore_n 2, 1) := by decide +kernel
theorem dX7_brokenOnes_4 : decode cX7_brokenOnes 4 = .ok (.iload_n 2, 1) := by decide +kernel
theorem dX7_brokenOnes_5 : decode cX7_brokenOnes 5 = .ok (.aload_n 0, 1) := by decide +kernel
theorem dX7_brokenOnes_6 : decode cX7_brokenOnes 6 = .ok (.getfield 7, 3) := by decide +kernel
theorem dX7_brokenOnes_9 : decode cX7_brokenOnes 9 = .ok (.iconst 0, 1) := by decide +kernel
theorem dX7_brokenOnes_10 : decode cX7_brokenOnes 10 = .ok (.iaload, 1) := by decide +kernel
theorem dX7_brokenOnes_11 : decode cX7_brokenOnes 11 = .ok (.if_icmp .ge 37, 3) := by decide +kernel
theorem dX7_brokenOnes_14 : decode cX7_brokenOnes 14 = .ok (.iload_n 1, 1) := by decide +kernel
theorem dX7_brokenOnes_15 : decode cX7_brokenOnes 15 = .ok (.aload_n 0, 1) := by decide +kernel
theorem dX7_brokenOnes_16 : decode cX7_brokenOnes 16 = .ok (.getfield 7, 3) := by decide +kernel
theorem dX7_brokenOnes_19 : decode cX7_brokenOnes 19 = .ok (.iconst 1, 1) := by decide +kernel
theorem dX7_brokenOnes_20 : decode cX7_brokenOnes 20 = .ok (.iload_n 2, 1) := by decide +kernel
theorem dX7_brokenOnes_21 : decode cX7_brokenOnes 21 = .ok (.iadd, 1) := by decide +kernel
theorem dX7_brokenOnes_22 : decode cX7_brokenOnes 22 = .ok (.iaload, 1) := by decide +kernel
theorem dX7_brokenOnes_23 : decode cX7_brokenOnes 23 = .ok (.iconst 4, 1) := by decide +kernel
theorem dX7_brokenOnes_24 : decode cX7_brokenOnes 24 = .ok (.if_icmp .eq 15, 3) := by decide +kernel
theorem dX7_brokenOnes_27 : decode cX7_brokenOnes 27 = .ok (.aload_n 0, 1) := by decide +kernel
theorem dX7_brokenOnes_28 : decode cX7_brokenOnes 28 = .ok (.iload_n 2, 1) := by decide +kernel
theorem dX7_brokenOnes_29 : decode cX7_brokenOnes 29 = .ok (.invokevirtual 33, 3) := by decide +kernel
theorem dX7_brokenOnes_32 : decode cX7_brokenOnes 32 = .ok (.ifCond .eq 7, 3) := by decide +kernel
theorem dX7_brokenOnes_35 : decode cX7_brokenOnes 35 = .ok (.iconst 1, 1) := by decide +kernel
theorem dX7_brokenOnes_36 : decode cX7_brokenOnes 36 = .ok (.goto 4, 3) := by decide +kernel
theorem dX7_brokenOnes_39 : decode cX7_brokenOnes 39 = .ok (.iconst 0, 1) := by decide +kernel
theorem dX7_brokenOnes_40 : decode cX7_brokenOnes 40 = .ok (.iadd, 1) := by decide +kernel
theorem dX7_brokenOnes_41 : decode cX7_brokenOnes 41 = .ok (.istore_n 1, 1) := by decide +kernel
theorem dX7_brokenOnes_42 : decode cX7_brokenOnes 42 = .ok (.iinc 2 1, 3) := by decide +kernel
theorem dX7_brokenOnes_45 : decode cX7_brokenOnes 45 = .ok (.goto (-41), 3) := by decide +kernel
theorem dX7_brokenOnes_48 : decode cX7_brokenOnes 48 = .ok (.iload_n 1, 1) := by decide +kernel
theorem dX7_brokenOnes_49 : decode cX7_brokenOnes 49 = .ok (.ireturn, 1) := by decide +kernel
theorem dX7_coinsOfPersons_0 : decode cX7_coinsOfPersons 0 = .ok (.iconst 0, 1) := by decide +kernel
theorem dX7_coinsOfPersons_1 : decode cX7_coinsOfPersons 1 = .ok (.istore_n 1, 1) := by decide +kernel
theorem dX7_coinsOfPersons_2 : decode cX7_coinsOfPersons 2 = .ok (.iconst 0, 1) := by decide +kernel
theorem dX7_coinsOfPersons_3 : decode cX7_coinsOfPersons 3 = .ok (.istore_n 2, 1) := by decide +kernel
theorem dX7_coinsOfPersons_4 : decode cX7_coinsOfPersons 4 = .ok (.iload_n 2, 1) := by decide +kernel
theorem dX7_coinsOfPersons_5 : decode cX7_coinsOfPersons 5 = .ok (.bipush 12, 2) := by decide +kernel
theorem dX7_coinsOfPersons_7 : decode cX7_coinsOfPersons 7 = .ok (.if_icmp .ge 22, 3) := by decide +kernel
theorem dX7_coinsOfPersons_10 : decode cX7_coinsOfPersons 10 = .ok (.iload_n 1, 1) := by decide +kernel
theorem dX7_coinsOfPersons_11 : decode cX7_coinsOfPersons 11 = .ok (.aload_n 0, 1) := by decide +kernel
theorem dX7_coinsOfPersons_12 : decode cX7_coinsOfPersons 12 = .ok (.getfield 7, 3) := by decide +kernel
theorem dX7_coinsOfPersons_15 : decode cX7_coinsOfPersons 15 = .ok (.sipush 249, 3) := by decide +kernel
theorem dX7_coinsOfPersons_18 : decode cX7_coinsOfPersons 18 = .ok (.iload_n 2, 1) := by decide +kernel
theorem dX7_coinsOfPersons_19 : decode cX7_coinsOfPersons 19 = .ok (.iadd, 1) := by decide +kernel
theorem dX7_coinsOfPersons_20 : decode cX7_coinsOfPersons 20 = .ok (.iaload, 1) := by decide +kernel
theorem dX7_coinsOfPersons_21 : decode cX7_coinsOfPersons 21 = .ok (.iadd, 1) := by decide +kernel
theorem dX7_coinsOfPersons_22 : decode cX7_coinsOfPersons 22 = .ok (.istore_n 1, 1) := by decide +kernel
theorem dX7_coinsOfPersons_23 : decode cX7_coinsOfPersons 23 = .ok (.iinc 2 1, 3) := by decide +kernel
theorem dX7_coinsOfPersons_26 : decode cX7_coinsOfPersons 26 = .ok (.goto (-22), 3) := by decide +kernel
theorem dX7_coinsOfPersons_29 : decode cX7_coinsOfPersons 29 = .ok (.iload_n 1, 1) := by decide +kernel
theorem dX7_coinsOfPersons_30 : decode cX7_coinsOfPersons 30 = .ok (.ireturn, 1) := by decide +kernel
theorem dX7_count_0 : decode cX7_count 0 = .ok (.iload_n 1, 1) := by decide +kernel
theorem dX7_count_1 : decode cX7_count 1 = .ok (.tableswitch 172 0 17 #[87, 96, 103, 103, 103, 103, 103, 111, 116, 125, 130, 130, 130, 130, 130, 144, 162, 167], 87) := by decide +kernel
theorem dX7_count_88 : decode cX7_count 88 = .ok (.aload_n 0, 1) := by decide +kernel
theorem dX7_count_89 : decode cX7_count 89 = .ok (.getfield 7, 3) := by decide +kernel
theorem dX7_count_92 : decode cX7_count 92 = .ok (.sipush 322, 3) := by decide +kernel
theorem dX7_count_95 : decode cX7_count 95 = .ok (.iaload, 1) := by decide +kernel
theorem dX7_count_96 : decode cX7_count 96 = .ok (.ireturn, 1) := by decide +kernel
theorem dX7_count_97 : decode cX7_count 97 = .ok (.aload_n 0, 1) := by decide +kernel
theorem dX7_count_98 : decode cX7_count 98 = .ok (.getfield 7, 3) := by decide +kernel
theorem dX7_count_101 : decode cX7_count 101 = .ok (.iconst 0, 1) := by decide +kernel
theorem dX7_count_102 : decode cX7_count 102 = .ok (.iaload, 1) := by decide +kernel
theorem dX7_count_103 : decode cX7_count 103 = .ok (.ireturn, 1) := by decide +kernel
theorem dX7_count_104 : decode cX7_count 104 = .ok (.aload_n 0, 1) := by decide +kernel
theorem dX7_count_105 : decode cX7_count 105 = .ok (.iload_n 1, 1) := by decide +kernel
theorem dX7_count_106 : decode cX7_count 106 = .ok (.iconst 2, 1) := by decide +kernel
theorem dX7_count_107 : decode cX7_count 107 = .ok (.isub, 1) := by decide +kernel
theorem dX7_count_108 : decode cX7_count 108 = .ok (.invokevirtual 41, 3) := by decide +kernel
theorem dX7_count_111 : decode cX7_count 111 = .ok (.ireturn, 1) := by decide +kernel
theorem dX7_count_112 : decode cX7_count 112 = .ok (.aload_n 0, 1) := by decide +kernel
theorem dX7_count_113 : decode cX7_count 113 = .ok (.invokevirtual 152, 3) := by decide +kernel
theorem dX7_count_116 : decode cX7_count 116 = .ok (.ireturn, 1) := by decide +kernel
theorem dX7_count_117 : decode cX7_count 117 = .ok (.aload_n 0, 1) := by decide +kernel
theorem dX7_count_118 : decode cX7_count 118 = .ok (.getfield 7, 3) := by decide +kernel
theorem dX7_count_121 : decode cX7_count 121 = .ok (.sipush 321, 3) := by decide +kernel
theorem dX7_count_124 : decode cX7_count 124 = .ok (.iaload, 1) := by decide +kernel
theorem dX7_count_125 : decode cX7_count 125 = .ok (.ireturn, 1) := by decide +kernel
theorem dX7_count_126 : decode cX7_count 126 = .ok (.aload_n 0, 1) := by decide +kernel
theorem dX7_count_127 : decode cX7_count 127 = .ok (.invokevirtual 155, 3) := by decide +kernel
theorem dX7_count_130 : decode cX7_count 130 = .ok (.ireturn, 1) := by decide +kernel
theorem dX7_count_131 : decode cX7_count 131 = .ok (.aload_n 0, 1) := by decide +kernel
theorem dX7_count_132 : decode cX7_count 132 = .ok (.getfield 7, 3) := by decide +kernel
theorem dX7_count_135 : decode cX7_count 135 = .ok (.sipush 323, 3) := by decide +kernel
theorem dX7_count_138 : decode cX7_count 138 = .ok (.iload_n 1, 1) := by decide +kernel
theorem dX7_count_139 : decode cX7_count 139 = .ok (.iadd, 1) := by decide +kernel
theorem dX7_count_140 : decode cX7_count 140 = .ok (.bipush 10, 2) := by decide +kernel
theorem dX7_count_142 : decode cX7_count 142 = .ok (.isub, 1) := by decide +kernel
theorem dX7_count_143 : decode cX7_count 143 = .ok (.iaload, 1) := by decide +kernel
theorem dX7_count_144 : decode cX7_count 144 = .ok (.ireturn, 1) := by decide +kernel
theorem dX7_count_145 : decode cX7_count 145 = .ok (.aload_n 0, 1) := by decide +kernel
theorem dX7_count_146 : decode cX7_count 146 = .ok (.getfield 7, 3) := by decide +kernel
theorem dX7_count_149 : decode cX7_count 149 = .ok (.sipush 328, 3) := by decide +kernel
theorem dX7_count_152 : decode cX7_count 152 = .ok (.iaload, 1) := by decide +kernel
theorem dX7_count_153 : decode cX7_count 153 = .ok (.aload_n 0, 1) := by decide +kernel
theorem dX7_count_154 : decode cX7_count 154 = .ok (.getfield 7, 3) := by decide +kernel
theorem dX7_count_157 : decode cX7_count 157 = .ok (.sipush 657, 3) := by decide +kernel
theorem dX7_count_160 : decode cX7_count 160 = .ok (.iaload, 1) := by decide +kernel
theorem dX7_count_161 : decode cX7_count 161 = .ok (.iadd, 1) := by decide +kernel
theorem dX7_count_162 : decode cX7_count 162 = .ok (.ireturn, 1) := by decide +kernel
theorem dX7_count_163 : decode cX7_count 163 = .ok (.aload_n 0, 1) := by decide +kernel
theorem dX7_count_164 : decode cX7_count 164 = .ok (.getfield 26, 3) := by decide +kernel
theorem dX7_count_167 : decode cX7_count 167 = .ok (.ireturn, 1) := by decide +kernel
theorem dX7_count_168 : decode cX7_count 168 = .ok (.aload_n 0, 1) := by decide +kernel
theorem dX7_count_169 : decode cX7_count 169 = .ok (.getfield 116, 3) := by decide +kernel
theorem dX7_count_172 : decode cX7_count 172 = .ok (.ireturn, 1) := by decide +kernel
theorem dX7_count_173 : decode cX7_count 173 = .ok (.iconst (-1), 1) := by decide +kernel
theorem dX7_count_174 : decode cX7_count 174 = .ok (.ireturn, 1) := by decide +kernel
theorem dX7_umbrella_0 : decode cX7_umbrella 0 = .ok (.iload_n 1, 1) := by decide +kernel
theorem dX7_umbrella_1 : decode cX7_umbrella 1 = .ok (.iconst 0, 1) := by decide +kernel
theorem dX7_umbrella_2 : decode cX7_umbrella 2 = .ok (.aload_n 0, 1) := by decide +kernel
theorem dX7_umbrella_3 : decode cX7_umbrella 3 = .ok (.getfield 7, 3) := by decide +kernel
theorem dX7_umbrella_6 : decode cX7_umbrella 6 = .ok (.iconst 0, 1) := by decide +kernel
theorem dX7_umbrella_7 : decode cX7_umbrella 7 = .ok (.iaload, 1) := by decide +kernel
theorem dX7_umbrella_8 : decode cX7_umbrella 8 = .ok (.iconst 1, 1) := by decide +kernel
theorem dX7_umbrella_9 : decode cX7_umbrella 9 = .ok (.isub, 1) := by decide +kernel
theorem dX7_umbrella_10 : decode cX7_umbrella 10 = .ok (.invokestatic 22, 3) := by decide +kernel
theorem dX7_umbrella_13 : decode cX7_umbrella 13 = .ok (.ifCond .ne 5, 3) := by decide +kernel
theorem dX7_umbrella_16 : decode cX7_umbrella 16 = .ok (.iconst (-1), 1) := by decide +kernel
theorem dX7_umbrella_17 : decode cX7_umbrella 17 = .ok (.ireturn, 1) := by decide +kernel
theorem dX7_umbrella_18 : decode cX7_umbrella 18 = .ok (.iload_n 2, 1) := by decide +kernel
theorem dX7_umbrella_19 : decode cX7_umbrella 19 = .ok (.tableswitch 104 0 4 #[33, 42, 69, 79, 93], 33) := by decide +kernel
theorem dX7_umbrella_52 : decode cX7_umbrella 52 = .ok (.aload_n 0, 1) := by decide +kernel
theorem dX7_umbrella_53 : decode cX7_umbrella 53 = .ok (.getfield 7, 3) := by decide +kernel
theorem dX7_umbrella_56 : decode cX7_umbrella 56 = .ok (.iconst 1, 1) := by decide +kernel
theorem dX7_umbrella_57 : decode cX7_umbrella 57 = .ok (.iload_n 1, 1) := by decide +kernel
theorem dX7_umbrella_58 : decode cX7_umbrella 58 = .ok (.iadd, 1) := by decide +kernel
theorem dX7_umbrella_59 : decode cX7_umbrella 59 = .ok (.iaload, 1) := by decide +kernel
theorem dX7_umbrella_60 : decode cX7_umbrella 60 = .ok (.ireturn, 1) := by decide +kernel
theorem dX7_umbrella_61 : decode cX7_umbrella 61 = .ok (.aload_n 0, 1) := by decide +kernel
theorem dX7_umbrella_62 : decode cX7_umbrella 62 = .ok (.getfield 7, 3) := by decide +kernel
theorem dX7_umbrella_65 : decode cX7_umbrella 65 = .ok (.iconst 1, 1) := by decide +kernel
theorem dX7_umbrella_66 : decode cX7_umbrella 66 = .ok (.iload_n 1, 1) := by decide +kernel
theorem dX7_umbrella_67 : decode cX7_umbrella 67 = .ok (.iadd, 1) := by decide +kernel
theorem dX7_umbrella_68 : decode cX7_umbrella 68 = .ok (.iaload, 1) := by decide +kernel
theorem dX7_umbrella_69 : decode cX7_umbrella 69 = .ok (.iconst 2, 1) := by decide +kernel
theorem dX7_umbrella_70 : decode cX7_umbrella 70 = .ok (.if_icmp .le 8, 3) := by decide +kernel
theorem dX7_umbrella_73 : decode cX7_umbrella 73 = .ok (.bipush (-9), 2) := by decide +kernel
theorem dX7_umbrella_75 : decode cX7_umbrella 75 = .ok (.goto 12, 3) := by decide +kernel
theorem dX7_umbrella_78 : decode cX7_umbrella 78 = .ok (.aload_n 0, 1) := by decide +kernel
theorem dX7_umbrella_79 : decode cX7_umbrella 79 = .ok (.getfield 7, 3) := by decide +kernel
theorem dX7_umbrella_82 : decode cX7_umbrella 82 = .ok (.bipush 61, 2) := by decide +kernel
theorem dX7_umbrella_84 : decode cX7_umbrella 84 = .ok (.iload_n 1, 1) := by decide +kernel
theorem dX7_umbrella_85 : decode cX7_umbrella 85 = .ok (.iadd, 1) := by decide +kernel
theorem dX7_umbrella_86 : decode cX7_umbrella 86 = .ok (.iaload, 1) := by decide +kernel
theorem dX7_umbrella_87 : decode cX7_umbrella 87 = .ok (.ireturn, 1) := by decide +kernel
theorem dX7_umbrella_88 : decode cX7_umbrella 88 = .ok (.aload_n 0, 1) := by decide +kernel
theorem dX7_umbrella_89 : decode cX7_umbrella 89 = .ok (.getfield 7, 3) := by decide +kernel
theorem dX7_umbrella_92 : decode cX7_umbrella 92 = .ok (.bipush 121, 2) := by decide +kernel
theorem dX7_umbrella_94 : decode cX7_umbrella 94 = .ok (.iload_n 1, 1) := by decide +kernel
theorem dX7_umbrella_95 : decode cX7_umbrella 95 = .ok (.iadd, 1) := by decide +kernel
theorem dX7_umbrella_96 : decode cX7_umbrella 96 = .ok (.iaload, 1) := by decide +kernel
theorem dX7_umbrella_97 : decode cX7_umbrella 97 = .ok (.ireturn, 1) := by decide +kernel
theorem dX7_umbrella_98 : decode cX7_umbrella 98 = .ok (.aload_n 0, 1) := by decide +kernel
theorem dX7_umbrella_99 : decode cX7_umbrella 99 = .ok (.iload_n 1, 1) := by decide +kernel
theorem dX7_umbrella_100 : decode cX7_umbrella 100 = .ok (.invokevirtual 33, 3) := by decide +kernel
theorem dX7_umbrella_103 : decode cX7_umbrella 103 = .ok (.ifCond .eq 7, 3) := by decide +kernel
theorem dX7_umbrella_106 : decode cX7_umbrella 106 = .ok (.iconst 1, 1) := by decide +kernel
theorem dX7_umbrella_107 : decode cX7_umbrella 107 = .ok (.goto 4, 3) := by decide +kernel
theorem dX7_umbrella_110 : decode cX7_umbrella 110 = .ok (.iconst 0, 1) := by decide +kernel
theorem dX7_umbrella_111 : decode cX7_umbrella 111 = .ok (.ireturn, 1) := by decide +kernel
theorem dX7_umbrella_112 : decode cX7_umbrella 112 = .ok (.aload_n 0, 1) := by decide +kernel
theorem dX7_umbrella_113 : decode cX7_umbrella 113 = .ok (.getfield 7, 3) := by decide +kernel
theorem dX7_umbrella_116 : decode cX7_umbrella 116 = .ok (.sipush 181, 3) := by decide +kernel
theorem dX7_umbrella_119 : decode cX7_umbrella 119 = .ok (.iload_n 1, 1) := by decide +kernel
theorem dX7_umbrella_120 : decode cX7_umbrella 120 = .ok (.iadd, 1) := by decide +kernel
theorem dX7_umbrella_121 : decode cX7_umbrella 121 = .ok (.iaload, 1) := by decide +kernel
theorem dX7_umbrella_122 : decode cX7_umbrella 122 = .ok (.ireturn, 1) := by decide +kernel
theorem dX7_umbrella_123 : decode cX7_umbrella 123 = .ok (.iconst (-1), 1) := by decide +kernel
theorem dX7_umbrella_124 : decode cX7_umbrella 124 = .ok (.ireturn, 1) := by decide +kernel
theorem dX7_told_0 : decode cX7_told 0 = .ok (.iload_n 0, 1) := by decide +kernel
theorem dX7_told_1 : decode cX7_told 1 = .ok (.ifCond .ge 8, 3) := by decide +kernel
theorem dX7_told_4 : decode cX7_told 4 = .ok (.bipush (-9), 2) := by decide +kernel
theorem dX7_told_6 : decode cX7_told 6 = .ok (.goto 4, 3) := by decide +kernel
theorem dX7_told_9 : decode cX7_told 9 = .ok (.iload_n 0, 1) := by decide +kernel
theorem dX7_told_10 : decode cX7_told 10 = .ok (.ireturn, 1) := by decide +kernel
theorem dX7_meanOf_0 : decode cX7_meanOf 0 = .ok (.iconst 0, 1) := by decide +kernel
theorem dX7_meanOf_1 : decode cX7_meanOf 1 = .ok (.istore_n 2, 1) := by decide +kernel
theorem dX7_meanOf_2 : decode cX7_meanOf 2 = .ok (.iconst 0, 1) := by decide +kernel
theorem dX7_meanOf_3 : decode cX7_meanOf 3 = .ok (.istore_n 3, 1) := by decide +kernel
theorem dX7_meanOf_4 : decode cX7_meanOf 4 = .ok (.iload_n 3, 1) := by decide +kernel
theorem dX7_meanOf_5 : decode cX7_meanOf 5 = .ok (.aload_n 0, 1) := by decide +kernel
theorem dX7_meanOf_6 : decode cX7_meanOf 6 = .ok (.getfield 7, 3) := by decide +kernel
theorem dX7_meanOf_9 : decode cX7_meanOf 9 = .ok (.iconst 0, 1) := by decide +kernel
theorem dX7_meanOf_10 : decode cX7_meanOf 10 = .ok (.iaload, 1) := by decide +kernel
theorem dX7_meanOf_11 : decode cX7_meanOf 11 = .ok (.if_icmp .ge 35, 3) := by decide +kernel
theorem dX7_meanOf_14 : decode cX7_meanOf 14 = .ok (.iload_n 2, 1) := by decide +kernel
theorem dX7_meanOf_15 : decode cX7_meanOf 15 = .ok (.aload_n 0, 1) := by decide +kernel
theorem dX7_meanOf_16 : decode cX7_meanOf 16 = .ok (.iload_n 3, 1) := by decide +kernel
theorem dX7_meanOf_17 : decode cX7_meanOf 17 = .ok (.iconst 0, 1) := by decide +kernel
theorem dX7_meanOf_18 : decode cX7_meanOf 18 = .ok (.iload_n 1, 1) := by decide +kernel
theorem dX7_meanOf_19 : decode cX7_meanOf 19 = .ok (.invokevirtual 30, 3) := by decide +kernel
theorem dX7_meanOf_22 : decode cX7_meanOf 22 = .ok (.ifCond .eq 15, 3) := by decide +kernel
theorem dX7_meanOf_25 : decode cX7_meanOf 25 = .ok (.aload_n 0, 1) := by decide +kernel
theorem dX7_meanOf_26 : decode cX7_meanOf 26 = .ok (.getfield 7, 3) := by decide +kernel
theorem dX7_meanOf_29 : decode cX7_meanOf 29 = .ok (.bipush 121, 2) := by decide +kernel
theorem dX7_meanOf_31 : decode cX7_meanOf 31 = .ok (.iload_n 3, 1) := by decide +kernel
theorem dX7_meanOf_32 : decode cX7_meanOf 32 = .ok (.iadd, 1) := by decide +kernel
theorem dX7_meanOf_33 : decode cX7_meanOf 33 = .ok (.iaload, 1) := by decide +kernel
theorem dX7_meanOf_34 : decode cX7_meanOf 34 = .ok (.goto 4, 3) := by decide +kernel
theorem dX7_meanOf_37 : decode cX7_meanOf 37 = .ok (.iconst 0, 1) := by decide +kernel
theorem dX7_meanOf_38 : decode cX7_meanOf 38 = .ok (.iadd, 1) := by decide +kernel
theorem dX7_meanOf_39 : decode cX7_meanOf 39 = .ok (.istore_n 2, 1) := by decide +kernel
theorem dX7_meanOf_40 : decode cX7_meanOf 40 = .ok (.iinc 3 1, 3) := by decide +kernel
theorem dX7_meanOf_43 : decode cX7_meanOf 43 = .ok (.goto (-39), 3) := by decide +kernel
theorem dX7_meanOf_46 : decode cX7_meanOf 46 = .ok (.aload_n 0, 1) := by decide +kernel
theorem dX7_meanOf_47 : decode cX7_meanOf 47 = .ok (.iconst 0, 1) := by decide +kernel
theorem dX7_meanOf_48 : decode cX7_meanOf 48 = .ok (.iload_n 1, 1) := by decide +kernel
theorem dX7_meanOf_49 : decode cX7_meanOf 49 = .ok (.invokevirtual 37, 3) := by decide +kernel
theorem dX7_meanOf_52 : decode cX7_meanOf 52 = .ok (.istore_n 3, 1) := by decide +kernel
theorem dX7_meanOf_53 : decode cX7_meanOf 53 = .ok (.iload_n 3, 1) := by decide +kernel
theorem dX7_meanOf_54 : decode cX7_meanOf 54 = .ok (.ifCond .ne 7, 3) := by decide +kernel
theorem dX7_meanOf_57 : decode cX7_meanOf 57 = .ok (.iconst 0, 1) := by decide +kernel
theorem dX7_meanOf_58 : decode cX7_meanOf 58 = .ok (.goto 12, 3) := by decide +kernel
theorem dX7_meanOf_61 : decode cX7_meanOf 61 = .ok (.bipush 100, 2) := by decide +kernel
theorem dX7_meanOf_63 : decode cX7_meanOf 63 = .ok (.iload_n 2, 1) := by decide +kernel
theorem dX7_meanOf_64 : decode cX7_meanOf 64 = .ok (.imul, 1) := by decide +kernel
theorem dX7_meanOf_65 : decode cX7_meanOf 65 = .ok (.bipush 8, 2) := by decide +kernel
theorem dX7_meanOf_67 : decode cX7_meanOf 67 = .ok (.iload_n 3, 1) := by decide +kernel
theorem dX7_meanOf_68 : decode cX7_meanOf 68 = .ok (.imul, 1) := by decide +kernel
theorem dX7_meanOf_69 : decode cX7_meanOf 69 = .ok (.idiv, 1) := by decide +kernel
theorem dX7_meanOf_70 : decode cX7_meanOf 70 = .ok (.ireturn, 1) := by decide +kernel
theorem dX7_stand_0 : decode cX7_stand 0 = .ok (.iload_n 1, 1) := by decide +kernel
theorem dX7_stand_1 : decode cX7_stand 1 = .ok (.invokestatic 45, 3) := by decide +kernel
theorem dX7_stand_4 : decode cX7_stand 4 = .ok (.ifCond .ne 5, 3) := by decide +kernel
theorem dX7_stand_7 : decode cX7_stand 7 = .ok (.iconst (-1), 1) := by decide +kernel
theorem dX7_stand_8 : decode cX7_stand 8 = .ok (.ireturn, 1) := by decide +kernel
theorem dX7_stand_9 : decode cX7_stand 9 = .ok (.iload_n 2, 1) := by decide +kernel
theorem dX7_stand_10 : decode cX7_stand 10 = .ok (.tableswitch 87 0 5 #[38, 49, 56, 63, 72, 81], 38) := by decide +kernel
theorem dX7_stand_48 : decode cX7_stand 48 = .ok (.aload_n 0, 1) := by decide +kernel
theorem dX7_stand_49 : decode cX7_stand 49 = .ok (.getfield 7, 3) := by decide +kernel
theorem dX7_stand_52 : decode cX7_stand 52 = .ok (.sipush 241, 3) := by decide +kernel
theorem dX7_stand_55 : decode cX7_stand 55 = .ok (.iload_n 1, 1) := by decide +kernel
theorem dX7_stand_56 : decode cX7_stand 56 = .ok (.iadd, 1) := by decide +kernel
theorem dX7_stand_57 : decode cX7_stand 57 = .ok (.iaload, 1) := by decide +kernel
theorem dX7_stand_58 : decode cX7_stand 58 = .ok (.ireturn, 1) := by decide +kernel
theorem dX7_stand_59 : decode cX7_stand 59 = .ok (.aload_n 0, 1) := by decide +kernel
theorem dX7_stand_60 : decode cX7_stand 60 = .ok (.iconst 0, 1) := by decide +kernel
theorem dX7_stand_61 : decode cX7_stand 61 = .ok (.iload_n 1, 1) := by decide +kernel
theorem dX7_stand_62 : decode cX7_stand 62 = .ok (.invokevirtual 37, 3) := by decide +kernel
theorem dX7_stand_65 : decode cX7_stand 65 = .ok (.ireturn, 1) := by decide +kernel
theorem dX7_stand_66 : decode cX7_stand 66 = .ok (.aload_n 0, 1) := by decide +kernel
theorem dX7_stand_67 : decode cX7_stand 67 = .ok (.iconst 0, 1) := by decide +kernel
theorem dX7_stand_68 : decode cX7_stand 68 = .ok (.iload_n 1, 1) := by decide +kernel
theorem dX7_stand_69 : decode cX7_stand 69 = .ok (.invokevirtual 106, 3) := by decide +kernel
theorem dX7_stand_72 : decode cX7_stand 72 = .ok (.ireturn, 1) := by decide +kernel
theorem dX7_stand_73 : decode cX7_stand 73 = .ok (.aload_n 0, 1) := by decide +kernel
theorem dX7_stand_74 : decode cX7_stand 74 = .ok (.iload_n 1, 1) := by decide +kernel
theorem dX7_stand_75 : decode cX7_stand 75 = .ok (.invokevirtual 71, 3) := by decide +kernel
theorem dX7_stand_78 : decode cX7_stand 78 = .ok (.invokestatic 158, 3) := by decide +kernel
theorem dX7_stand_81 : decode cX7_stand 81 = .ok (.ireturn, 1) := by decide +kernel
theorem dX7_stand_82 : decode cX7_stand 82 = .ok (.aload_n 0, 1) := by decide +kernel
theorem dX7_stand_83 : decode cX7_stand 83 = .ok (.iload_n 1, 1) := by decide +kernel
theorem dX7_stand_84 : decode cX7_stand 84 = .ok (.invokevirtual 103, 3) := by decide +kernel
theorem dX7_stand_87 : decode cX7_stand 87 = .ok (.invokestatic 158, 3) := by decide +kernel
theorem dX7_stand_90 : decode cX7_stand 90 = .ok (.ireturn, 1) := by decide +kernel
theorem dX7_stand_91 : decode cX7_stand 91 = .ok (.aload_n 0, 1) := by decide +kernel
theorem dX7_stand_92 : decode cX7_stand 92 = .ok (.iload_n 1, 1) := by decide +kernel
theorem dX7_stand_93 : decode cX7_stand 93 = .ok (.invokevirtual 161, 3) := by decide +kernel
theorem dX7_stand_96 : decode cX7_stand 96 = .ok (.ireturn, 1) := by decide +kernel
theorem dX7_stand_97 : decode cX7_stand 97 = .ok (.iconst (-1), 1) := by decide +kernel
theorem dX7_stand_98 : decode cX7_stand 98 = .ok (.ireturn, 1) := by decide +kernel
theorem dX7_person_0 : decode cX7_person 0 = .ok (.iload_n 1, 1) := by decide +kernel
theorem dX7_person_1 : decode cX7_person 1 = .ok (.invokestatic 65, 3) := by decide +kernel
theorem dX7_person_4 : decode cX7_person 4 = .ok (.ifCond .eq 12, 3) := by decide +kernel
theorem dX7_person_7 : decode cX7_person 7 = .ok (.iload_n 2, 1) := by decide +kernel
theorem dX7_person_8 : decode cX7_person 8 = .ok (.iconst 0, 1) := by decide +kernel
theorem dX7_person_9 : decode cX7_person 9 = .ok (.iconst 5, 1) := by decide +kernel
theorem dX7_person_10 : decode cX7_person 10 = .ok (.invokestatic 22, 3) := by decide +kernel
theorem dX7_person_13 : decode cX7_person 13 = .ok (.ifCond .ne 5, 3) := by decide +kernel
theorem dX7_person_16 : decode cX7_person 16 = .ok (.iconst (-1), 1) := by decide +kernel
theorem dX7_person_17 : decode cX7_person 17 = .ok (.ireturn, 1) := by decide +kernel
theorem dX7_person_18 : decode cX7_person 18 = .ok (.aload_n 0, 1) := by decide +kernel
theorem dX7_person_19 : decode cX7_person 19 = .ok (.getfield 7, 3) := by decide +kernel
theorem dX7_person_22 : decode cX7_person 22 = .ok (.sipush 249, 3) := by decide +kernel
theorem dX7_person_25 : decode cX7_person 25 = .ok (.bipush 12, 2) := by decide +kernel
theorem dX7_person_27 : decode cX7_person 27 = .ok (.iload_n 2, 1) := by decide +kernel
theorem dX7_person_28 : decode cX7_person 28 = .ok (.imul, 1) := by decide +kernel
theorem dX7_person_29 : decode cX7_person 29 = .ok (.iadd, 1) := by decide +kernel
theorem dX7_person_30 : decode cX7_person 30 = .ok (.iload_n 1, 1) := by decide +kernel
theorem dX7_person_31 : decode cX7_person 31 = .ok (.iadd, 1) := by decide +kernel
theorem dX7_person_32 : decode cX7_person 32 = .ok (.iaload, 1) := by decide +kernel
theorem dX7_person_33 : decode cX7_person 33 = .ok (.invokestatic 158, 3) := by decide +kernel
theorem dX7_person_36 : decode cX7_person 36 = .ok (.ireturn, 1) := by decide +kernel
theorem dX7_inVan_0 : decode cX7_inVan 0 = .ok (.iload_n 1, 1) := by decide +kernel
theorem dX7_inVan_1 : decode cX7_inVan 1 = .ok (.iconst 0, 1) := by decide +kernel
theorem dX7_inVan_2 : decode cX7_inVan 2 = .ok (.iconst 1, 1) := by decide +kernel
theorem dX7_inVan_3 : decode cX7_inVan 3 = .ok (.invokestatic 22, 3) := by decide +kernel
theorem dX7_inVan_6 : decode cX7_inVan 6 = .ok (.ifCond .eq 7, 3) := by decide +kernel
theorem dX7_inVan_9 : decode cX7_inVan 9 = .ok (.iload_n 2, 1) := by decide +kernel
theorem dX7_inVan_10 : decode cX7_inVan 10 = .ok (.ifCond .ge 5, 3) := by decide +kernel
theorem dX7_inVan_13 : decode cX7_inVan 13 = .ok (.iconst (-1), 1) := by decide +kernel
theorem dX7_inVan_14 : decode cX7_inVan 14 = .ok (.ireturn, 1) := by decide +kernel
theorem dX7_inVan_15 : decode cX7_inVan 15 = .ok (.iload_n 2, 1) := by decide +kernel
theorem dX7_inVan_16 : decode cX7_inVan 16 = .ok (.istore_n 3, 1) := by decide +kernel
theorem dX7_inVan_17 : decode cX7_inVan 17 = .ok (.iconst 0, 1) := by decide +kernel
theorem dX7_inVan_18 : decode cX7_inVan 18 = .ok (.istore 4, 2) := by decide +kernel
theorem dX7_inVan_20 : decode cX7_inVan 20 = .ok (.iload 4, 2) := by decide +kernel
theorem dX7_inVan_22 : decode cX7_inVan 22 = .ok (.aload_n 0, 1) := by decide +kernel
theorem dX7_inVan_23 : decode cX7_inVan 23 = .ok (.getfield 7, 3) := by decide +kernel
theorem dX7_inVan_26 : decode cX7_inVan 26 = .ok (.iconst 0, 1) := by decide +kernel
theorem dX7_inVan_27 : decode cX7_inVan 27 = .ok (.iaload, 1) := by decide +kernel
theorem dX7_inVan_28 : decode cX7_inVan 28 = .ok (.if_icmp .ge 30, 3) := by decide +kernel
theorem dX7_inVan_31 : decode cX7_inVan 31 = .ok (.aload_n 0, 1) := by decide +kernel
theorem dX7_inVan_32 : decode cX7_inVan 32 = .ok (.iload 4, 2) := by decide +kernel
theorem dX7_inVan_34 : decode cX7_inVan 34 = .ok (.iconst 2, 1) := by decide +kernel
theorem dX7_inVan_35 : decode cX7_inVan 35 = .ok (.iload_n 1, 1) := by decide +kernel
theorem dX7_inVan_36 : decode cX7_inVan 36 = .ok (.invokevirtual 30, 3) := by decide +kernel
theorem dX7_inVan_39 : decode cX7_inVan 39 = .ok (.ifCond .eq 13, 3) := by decide +kernel
theorem dX7_inVan_42 : decode cX7_inVan 42 = .ok (.iload_n 3, 1) := by decide +kernel
theorem dX7_inVan_43 : decode cX7_inVan 43 = .ok (.ifCond .ne 6, 3) := by decide +kernel
theorem dX7_inVan_46 : decode cX7_inVan 46 = .ok (.iload 4, 2) := by decide +kernel
theorem dX7_inVan_48 : decode cX7_inVan 48 = .ok (.ireturn, 1) := by decide +kernel
theorem dX7_inVan_49 : decode cX7_inVan 49 = .ok (.iinc 3 (-1), 3) := by decide +kernel
theorem dX7_inVan_52 : decode cX7_inVan 52 = .ok (.iinc 4 1, 3) := by decide +kernel
theorem dX7_inVan_55 : decode cX7_inVan 55 = .ok (.goto (-35), 3) := by decide +kernel
theorem dX7_inVan_58 : decode cX7_inVan 58 = .ok (.bipush (-9), 2) := by decide +kernel
theorem dX7_inVan_60 : decode cX7_inVan 60 = .ok (.ireturn, 1) := by decide +kernel
theorem dX7_feeIn_0 : decode cX7_feeIn 0 = .ok (.iload_n 1, 1) := by decide +kernel
theorem dX7_feeIn_1 : decode cX7_feeIn 1 = .ok (.invokestatic 65, 3) := by decide +kernel
theorem dX7_feeIn_4 : decode cX7_feeIn 4 = .ok (.ifCond .eq 23, 3) := by decide +kernel
theorem dX7_feeIn_7 : decode cX7_feeIn 7 = .ok (.iload_n 2, 1) := by decide +kernel
theorem dX7_feeIn_8 : decode cX7_feeIn 8 = .ok (.iconst 0, 1) := by decide +kernel
theorem dX7_feeIn_9 : decode cX7_feeIn 9 = .ok (.bipush 50, 2) := by decide +kernel
theorem dX7_feeIn_11 : decode cX7_feeIn 11 = .ok (.invokestatic 22, 3) := by decide +kernel
theorem dX7_feeIn_14 : decode cX7_feeIn 14 = .ok (.ifCond .eq 13, 3) := by decide +kernel
theorem dX7_feeIn_17 : decode cX7_feeIn 17 = .ok (.iload_n 3, 1) := by decide +kernel
theorem dX7_feeIn_18 : decode cX7_feeIn 18 = .ok (.iconst 0, 1) := by decide +kernel
theorem dX7_feeIn_19 : decode cX7_feeIn 19 = .ok (.bipush 9, 2) := by decide +kernel
theorem dX7_feeIn_21 : decode cX7_feeIn 21 = .ok (.invokestatic 22, 3) := by decide +kernel
theorem dX7_feeIn_24 : decode cX7_feeIn 24 = .ok (.ifCond .ne 5, 3) := by decide +kernel
theorem dX7_feeIn_27 : decode cX7_feeIn 27 = .ok (.iconst (-1), 1) := by decide +kernel
theorem dX7_feeIn_28 : decode cX7_feeIn 28 = .ok (.ireturn, 1) := by decide +kernel
theorem dX7_feeIn_29 : decode cX7_feeIn 29 = .ok (.aload_n 0, 1) := by decide +kernel
theorem dX7_feeIn_30 : decode cX7_feeIn 30 = .ok (.getfield 7, 3) := by decide +kernel
theorem dX7_feeIn_33 : decode cX7_feeIn 33 = .ok (.sipush 261, 3) := by decide +kernel
theorem dX7_feeIn_36 : decode cX7_feeIn 36 = .ok (.iload_n 1, 1) := by decide +kernel
theorem dX7_feeIn_37 : decode cX7_feeIn 37 = .ok (.iadd, 1) := by decide +kernel
theorem dX7_feeIn_38 : decode cX7_feeIn 38 = .ok (.iaload, 1) := by decide +kernel
theorem dX7_feeIn_39 : decode cX7_feeIn 39 = .ok (.istore 4, 2) := by decide +kernel
theorem dX7_feeIn_41 : decode cX7_feeIn 41 = .ok (.iload 4, 2) := by decide +kernel
theorem dX7_feeIn_43 : decode cX7_feeIn 43 = .ok (.ifCond .ge 6, 3) := by decide +kernel
theorem dX7_feeIn_46 : decode cX7_feeIn 46 = .ok (.bipush (-2), 2) := by decide +kernel
theorem dX7_feeIn_48 : decode cX7_feeIn 48 = .ok (.ireturn, 1) := by decide +kernel
theorem dX7_feeIn_49 : decode cX7_feeIn 49 = .ok (.aload_n 0, 1) := by decide +kernel
theorem dX7_feeIn_50 : decode cX7_feeIn 50 = .ok (.getfield 7, 3) := by decide +kernel
theorem dX7_feeIn_53 : decode cX7_feeIn 53 = .ok (.bipush 121, 2) := by decide +kernel
theorem dX7_feeIn_55 : decode cX7_feeIn 55 = .ok (.iload 4, 2) := by decide +kernel
theorem dX7_feeIn_57 : decode cX7_feeIn 57 = .ok (.iadd, 1) := by decide +kernel
theorem dX7_feeIn_58 : decode cX7_feeIn 58 = .ok (.iaload, 1) := by decide +kernel
theorem dX7_feeIn_59 : decode cX7_feeIn 59 = .ok (.istore 5, 2) := by decide +kernel
theorem dX7_feeIn_61 : decode cX7_feeIn 61 = .ok (.iload 5, 2) := by decide +kernel
theorem dX7_feeIn_63 : decode cX7_feeIn 63 = .ok (.bipush 32, 2) := by decide +kernel
theorem dX7_feeIn_65 : decode cX7_feeIn 65 = .ok (.if_icmp .lt 7, 3) := by decide +kernel
theorem dX7_feeIn_68 : decode cX7_feeIn 68 = .ok (.iconst 1, 1) := by decide +kernel
theorem dX7_feeIn_69 : decode cX7_feeIn 69 = .ok (.goto 4, 3) := by decide +kernel
theorem dX7_feeIn_72 : decode cX7_feeIn 72 = .ok (.iconst 0, 1) := by decide +kernel
theorem dX7_feeIn_73 : decode cX7_feeIn 73 = .ok (.istore 6, 2) := by decide +kernel
theorem dX7_feeIn_75 : decode cX7_feeIn 75 = .ok (.iconst 0, 1) := by decide +kernel
theorem dX7_feeIn_76 : decode cX7_feeIn 76 = .ok (.istore 7, 2) := by decide +kernel
theorem dX7_feeIn_78 : decode cX7_feeIn 78 = .ok (.iload 7, 2) := by decide +kernel
theorem dX7_feeIn_80 : decode cX7_feeIn 80 = .ok (.iload_n 2, 1) := by decide +kernel
theorem dX7_feeIn_81 : decode cX7_feeIn 81 = .ok (.if_icmp .ge 18, 3) := by decide +kernel
theorem dX7_feeIn_84 : decode cX7_feeIn 84 = .ok (.iload 5, 2) := by decide +kernel
theorem dX7_feeIn_86 : decode cX7_feeIn 86 = .ok (.iload_n 3, 1) := by decide +kernel
theorem dX7_feeIn_87 : decode cX7_feeIn 87 = .ok (.iconst 0, 1) := by decide +kernel
theorem dX7_feeIn_88 : decode cX7_feeIn 88 = .ok (.invokestatic 90, 3) := by decide +kernel
theorem dX7_feeIn_91 : decode cX7_feeIn 91 = .ok (.istore 5, 2) := by decide +kernel
theorem dX7_feeIn_93 : decode cX7_feeIn 93 = .ok (.iinc 7 1, 3) := by decide +kernel
theorem dX7_feeIn_96 : decode cX7_feeIn 96 = .ok (.goto (-18), 3) := by decide +kernel
theorem dX7_feeIn_99 : decode cX7_feeIn 99 = .ok (.iload 6, 2) := by decide +kernel
theorem dX7_feeIn_101 : decode cX7_feeIn 101 = .ok (.ifCond .ne 14, 3) := by decide +kernel
theorem dX7_feeIn_104 : decode cX7_feeIn 104 = .ok (.iload 5, 2) := by decide +kernel
theorem dX7_feeIn_106 : decode cX7_feeIn 106 = .ok (.bipush 32, 2) := by decide +kernel
theorem dX7_feeIn_108 : decode cX7_feeIn 108 = .ok (.if_icmp .lt 7, 3) := by decide +kernel
theorem dX7_feeIn_111 : decode cX7_feeIn 111 = .ok (.iconst 1, 1) := by decide +kernel
theorem dX7_feeIn_112 : decode cX7_feeIn 112 = .ok (.goto 4, 3) := by decide +kernel
theorem dX7_feeIn_115 : decode cX7_feeIn 115 = .ok (.iconst 0, 1) := by decide +kernel
theorem dX7_feeIn_116 : decode cX7_feeIn 116 = .ok (.istore 7, 2) := by decide +kernel
theorem dX7_feeIn_118 : decode cX7_feeIn 118 = .ok (.aload_n 0, 1) := by decide +kernel
theorem dX7_feeIn_119 : decode cX7_feeIn 119 = .ok (.aload_n 0, 1) := by decide +kernel
theorem dX7_feeIn_120 : decode cX7_feeIn 120 = .ok (.getfield 7, 3) := by decide +kernel
theorem dX7_feeIn_123 : decode cX7_feeIn 123 = .ok (.sipush 273, 3) := by decide +kernel
theorem dX7_feeIn_126 : decode cX7_feeIn 126 = .ok (.iload_n 1, 1) := by decide +kernel
theorem dX7_feeIn_127 : decode cX7_feeIn 127 = .ok (.iadd, 1) := by decide +kernel
theorem dX7_feeIn_128 : decode cX7_feeIn 128 = .ok (.iaload, 1) := by decide +kernel
theorem dX7_feeIn_129 : decode cX7_feeIn 129 = .ok (.iload_n 3, 1) := by decide +kernel
theorem dX7_feeIn_130 : decode cX7_feeIn 130 = .ok (.iconst 2, 1) := by decide +kernel
theorem dX7_feeIn_131 : decode cX7_feeIn 131 = .ok (.if_icmp .lt 7, 3) := by decide +kernel
theorem dX7_feeIn_134 : decode cX7_feeIn 134 = .ok (.iload_n 2, 1) := by decide +kernel
theorem dX7_feeIn_135 : decode cX7_feeIn 135 = .ok (.goto 4, 3) := by decide +kernel
theorem dX7_feeIn_138 : decode cX7_feeIn 138 = .ok (.iconst 0, 1) := by decide +kernel
theorem dX7_feeIn_139 : decode cX7_feeIn 139 = .ok (.iadd, 1) := by decide +kernel
theorem dX7_feeIn_140 : decode cX7_feeIn 140 = .ok (.iload 7, 2) := by decide +kernel
theorem dX7_feeIn_142 : decode cX7_feeIn 142 = .ok (.ifCond .ne 17, 3) := by decide +kernel
theorem dX7_feeIn_145 : decode cX7_feeIn 145 = .ok (.aload_n 0, 1) := by decide +kernel
theorem dX7_feeIn_146 : decode cX7_feeIn 146 = .ok (.getfield 7, 3) := by decide +kernel
theorem dX7_feeIn_149 : decode cX7_feeIn 149 = .ok (.sipush 285, 3) := by decide +kernel
theorem dX7_feeIn_152 : decode cX7_feeIn 152 = .ok (.iload_n 1, 1) := by decide +kernel
theorem dX7_feeIn_153 : decode cX7_feeIn 153 = .ok (.iadd, 1) := by decide +kernel
theorem dX7_feeIn_154 : decode cX7_feeIn 154 = .ok (.iaload, 1) := by decide +kernel
theorem dX7_feeIn_155 : decode cX7_feeIn 155 = .ok (.iconst 1, 1) := by decide +kernel
theorem dX7_feeIn_156 : decode cX7_feeIn 156 = .ok (.if_icmp .ne 7, 3) := by decide +kernel
theorem dX7_feeIn_159 : decode cX7_feeIn 159 = .ok (.iconst 1, 1) := by decide +kernel
theorem dX7_feeIn_160 : decode cX7_feeIn 160 = .ok (.goto 4, 3) := by decide +kernel
theorem dX7_feeIn_163 : decode cX7_feeIn 163 = .ok (.iconst 0, 1) := by decide +kernel
theorem dX7_feeIn_164 : decode cX7_feeIn 164 = .ok (.invokevirtual 80, 3) := by decide +kernel
theorem dX7_feeIn_167 : decode cX7_feeIn 167 = .ok (.ireturn, 1) := by decide +kernel
theorem dX7_breaksIn_0 : decode cX7_breaksIn 0 = .ok (.iload_n 1, 1) := by decide +kernel
theorem dX7_breaksIn_1 : decode cX7_breaksIn 1 = .ok (.invokestatic 65, 3) := by decide +kernel
theorem dX7_breaksIn_4 : decode cX7_breaksIn 4 = .ok (.ifCond .eq 22, 3) := by decide +kernel
theorem dX7_breaksIn_7 : decode cX7_breaksIn 7 = .ok (.iload_n 2, 1) := by decide +kernel
theorem dX7_breaksIn_8 : decode cX7_breaksIn 8 = .ok (.iconst 0, 1) := by decide +kernel
theorem dX7_breaksIn_9 : decode cX7_breaksIn 9 = .ok (.bipush 9, 2) := by decide +kernel
theorem dX7_breaksIn_11 : decode cX7_breaksIn 11 = .ok (.invokestatic 22, 3) := by decide +kernel
theorem dX7_breaksIn_14 : decode cX7_breaksIn 14 = .ok (.ifCond .eq 12, 3) := by decide +kernel
theorem dX7_breaksIn_17 : decode cX7_breaksIn 17 = .ok (.iload_n 3, 1) := by decide +kernel
theorem dX7_breaksIn_18 : decode cX7_breaksIn 18 = .ok (.iconst 0, 1) := by decide +kernel
theorem dX7_breaksIn_19 : decode cX7_breaksIn 19 = .ok (.iconst 3, 1) := by decide +kernel
theorem dX7_breaksIn_20 : decode cX7_breaksIn 20 = .ok (.invokestatic 22, 3) := by decide +kernel
theorem dX7_breaksIn_23 : decode cX7_breaksIn 23 = .ok (.ifCond .ne 5, 3) := by decide +kernel
theorem dX7_breaksIn_26 : decode cX7_breaksIn 26 = .ok (.iconst (-1), 1) := by decide +kernel
theorem dX7_breaksIn_27 : decode cX7_breaksIn 27 = .ok (.ireturn, 1) := by decide +kernel
theorem dX7_breaksIn_28 : decode cX7_breaksIn 28 = .ok (.aload_n 0, 1) := by decide +kernel
theorem dX7_breaksIn_29 : decode cX7_breaksIn 29 = .ok (.getfield 7, 3) := by decide +kernel
theorem dX7_breaksIn_32 : decode cX7_breaksIn 32 = .ok (.sipush 261, 3) := by decide +kernel
theorem dX7_breaksIn_35 : decode cX7_breaksIn 35 = .ok (.iload_n 1, 1) := by decide +kernel
theorem dX7_breaksIn_36 : decode cX7_breaksIn 36 = .ok (.iadd, 1) := by decide +kernel
theorem dX7_breaksIn_37 : decode cX7_breaksIn 37 = .ok (.iaload, 1) := by decide +kernel
theorem dX7_breaksIn_38 : decode cX7_breaksIn 38 = .ok (.istore 4, 2) := by decide +kernel
theorem dX7_breaksIn_40 : decode cX7_breaksIn 40 = .ok (.iload 4, 2) := by decide +kernel
theorem dX7_breaksIn_42 : decode cX7_breaksIn 42 = .ok (.ifCond .ge 6, 3) := by decide +kernel
theorem dX7_breaksIn_45 : decode cX7_breaksIn 45 = .ok (.bipush (-2), 2) := by decide +kernel
theorem dX7_breaksIn_47 : decode cX7_breaksIn 47 = .ok (.ireturn, 1) := by decide +kernel
theorem dX7_breaksIn_48 : decode cX7_breaksIn 48 = .ok (.aload_n 0, 1) := by decide +kernel
theorem dX7_breaksIn_49 : decode cX7_breaksIn 49 = .ok (.getfield 7, 3) := by decide +kernel
theorem dX7_breaksIn_52 : decode cX7_breaksIn 52 = .ok (.bipush 121, 2) := by decide +kernel
theorem dX7_breaksIn_54 : decode cX7_breaksIn 54 = .ok (.iload 4, 2) := by decide +kernel
theorem dX7_breaksIn_56 : decode cX7_breaksIn 56 = .ok (.iadd, 1) := by decide +kernel
theorem dX7_breaksIn_57 : decode cX7_breaksIn 57 = .ok (.iaload, 1) := by decide +kernel
theorem dX7_breaksIn_58 : decode cX7_breaksIn 58 = .ok (.istore 5, 2) := by decide +kernel
theorem dX7_breaksIn_60 : decode cX7_breaksIn 60 = .ok (.iconst 0, 1) := by decide +kernel
theorem dX7_breaksIn_61 : decode cX7_breaksIn 61 = .ok (.istore 6, 2) := by decide +kernel
theorem dX7_breaksIn_63 : decode cX7_breaksIn 63 = .ok (.iload 6, 2) := by decide +kernel
theorem dX7_breaksIn_65 : decode cX7_breaksIn 65 = .ok (.bipush 100, 2) := by decide +kernel
theorem dX7_breaksIn_67 : decode cX7_breaksIn 67 = .ok (.if_icmp .ge 25, 3) := by decide +kernel
theorem dX7_breaksIn_70 : decode cX7_breaksIn 70 = .ok (.iload 5, 2) := by decide +kernel
theorem dX7_breaksIn_72 : decode cX7_breaksIn 72 = .ok (.bipush 32, 2) := by decide +kernel
theorem dX7_breaksIn_74 : decode cX7_breaksIn 74 = .ok (.if_icmp .ge 18, 3) := by decide +kernel
theorem dX7_breaksIn_77 : decode cX7_breaksIn 77 = .ok (.iload 5, 2) := by decide +kernel
theorem dX7_breaksIn_79 : decode cX7_breaksIn 79 = .ok (.iload_n 2, 1) := by decide +kernel
theorem dX7_breaksIn_80 : decode cX7_breaksIn 80 = .ok (.iload_n 3, 1) := by decide +kernel
theorem dX7_breaksIn_81 : decode cX7_breaksIn 81 = .ok (.invokestatic 90, 3) := by decide +kernel
theorem dX7_breaksIn_84 : decode cX7_breaksIn 84 = .ok (.istore 5, 2) := by decide +kernel
theorem dX7_breaksIn_86 : decode cX7_breaksIn 86 = .ok (.iinc 6 1, 3) := by decide +kernel
theorem dX7_breaksIn_89 : decode cX7_breaksIn 89 = .ok (.goto (-26), 3) := by decide +kernel
theorem dX7_breaksIn_92 : decode cX7_breaksIn 92 = .ok (.iload 5, 2) := by decide +kernel
theorem dX7_breaksIn_94 : decode cX7_breaksIn 94 = .ok (.bipush 32, 2) := by decide +kernel
theorem dX7_breaksIn_96 : decode cX7_breaksIn 96 = .ok (.if_icmp .ge 8, 3) := by decide +kernel
theorem dX7_breaksIn_99 : decode cX7_breaksIn 99 = .ok (.bipush (-9), 2) := by decide +kernel
theorem dX7_breaksIn_101 : decode cX7_breaksIn 101 = .ok (.goto 5, 3) := by decide +kernel
theorem dX7_breaksIn_104 : decode cX7_breaksIn 104 = .ok (.iload 6, 2) := by decide +kernel
theorem dX7_breaksIn_106 : decode cX7_breaksIn 106 = .ok (.ireturn, 1) := by decide +kernel
theorem dX7_wanting_0 : decode cX7_wanting 0 = .ok (.iconst 0, 1) := by decide +kernel
theorem dX7_wanting_1 : decode cX7_wanting 1 = .ok (.istore_n 2, 1) := by decide +kernel
theorem dX7_wanting_2 : decode cX7_wanting 2 = .ok (.iconst 0, 1) := by decide +kernel
theorem dX7_wanting_3 : decode cX7_wanting 3 = .ok (.istore_n 3, 1) := by decide +kernel
theorem dX7_wanting_4 : decode cX7_wanting 4 = .ok (.iload_n 3, 1) := by decide +kernel
theorem dX7_wanting_5 : decode cX7_wanting 5 = .ok (.bipush 12, 2) := by decide +kernel
theorem dX7_wanting_7 : decode cX7_wanting 7 = .ok (.if_icmp .ge 39, 3) := by decide +kernel
theorem dX7_wanting_10 : decode cX7_wanting 10 = .ok (.iload_n 2, 1) := by decide +kernel
theorem dX7_wanting_11 : decode cX7_wanting 11 = .ok (.aload_n 0, 1) := by decide +kernel
theorem dX7_wanting_12 : decode cX7_wanting 12 = .ok (.getfield 7, 3) := by decide +kernel
theorem dX7_wanting_15 : decode cX7_wanting 15 = .ok (.sipush 297, 3) := by decide +kernel
theorem dX7_wanting_18 : decode cX7_wanting 18 = .ok (.iload_n 3, 1) := by decide +kernel
theorem dX7_wanting_19 : decode cX7_wanting 19 = .ok (.iadd, 1) := by decide +kernel
theorem dX7_wanting_20 : decode cX7_wanting 20 = .ok (.iaload, 1) := by decide +kernel
theorem dX7_wanting_21 : decode cX7_wanting 21 = .ok (.iload_n 1, 1) := by decide +kernel
theorem dX7_wanting_22 : decode cX7_wanting 22 = .ok (.if_icmp .ne 15, 3) := by decide +kernel
theorem dX7_wanting_25 : decode cX7_wanting 25 = .ok (.aload_n 0, 1) := by decide +kernel
theorem dX7_wanting_26 : decode cX7_wanting 26 = .ok (.iload_n 3, 1) := by decide +kernel
theorem dX7_wanting_27 : decode cX7_wanting 27 = .ok (.invokevirtual 68, 3) := by decide +kernel
theorem dX7_wanting_30 : decode cX7_wanting 30 = .ok (.ifCond .eq 7, 3) := by decide +kernel
theorem dX7_wanting_33 : decode cX7_wanting 33 = .ok (.iconst 1, 1) := by decide +kernel
theorem dX7_wanting_34 : decode cX7_wanting 34 = .ok (.goto 4, 3) := by decide +kernel
theorem dX7_wanting_37 : decode cX7_wanting 37 = .ok (.iconst 0, 1) := by decide +kernel
theorem dX7_wanting_38 : decode cX7_wanting 38 = .ok (.iadd, 1) := by decide +kernel
theorem dX7_wanting_39 : decode cX7_wanting 39 = .ok (.istore_n 2, 1) := by decide +kernel
theorem dX7_wanting_40 : decode cX7_wanting 40 = .ok (.iinc 3 1, 3) := by decide +kernel
theorem dX7_wanting_43 : decode cX7_wanting 43 = .ok (.goto (-39), 3) := by decide +kernel
theorem dX7_wanting_46 : decode cX7_wanting 46 = .ok (.iload_n 2, 1) := by decide +kernel
theorem dX7_wanting_47 : decode cX7_wanting 47 = .ok (.ireturn, 1) := by decide +kernel
theorem dX7_emptied_0 : decode cX7_emptied 0 = .ok (.iconst 0, 1) := by decide +kernel
theorem dX7_emptied_1 : decode cX7_emptied 1 = .ok (.istore_n 1, 1) := by decide +kernel
theorem dX7_emptied_2 : decode cX7_emptied 2 = .ok (.iload_n 1, 1) := by decide +kernel
theorem dX7_emptied_3 : decode cX7_emptied 3 = .ok (.sipush 328, 3) := by decide +kernel
theorem dX7_emptied_6 : decode cX7_emptied 6 = .ok (.if_icmp .ge 21, 3) := by decide +kernel
theorem dX7_emptied_9 : decode cX7_emptied 9 = .ok (.aload_n 0, 1) := by decide +kernel
theorem dX7_emptied_10 : decode cX7_emptied 10 = .ok (.getfield 16, 3) := by decide +kernel
theorem dX7_emptied_13 : decode cX7_emptied 13 = .ok (.iload_n 1, 1) := by decide +kernel
theorem dX7_emptied_14 : decode cX7_emptied 14 = .ok (.aload_n 0, 1) := by decide +kernel
theorem dX7_emptied_15 : decode cX7_emptied 15 = .ok (.getfield 7, 3) := by decide +kernel
theorem dX7_emptied_18 : decode cX7_emptied 18 = .ok (.iload_n 1, 1) := by decide +kernel
theorem dX7_emptied_19 : decode cX7_emptied 19 = .ok (.iaload, 1) := by decide +kernel
theorem dX7_emptied_20 : decode cX7_emptied 20 = .ok (.iastore, 1) := by decide +kernel
theorem dX7_emptied_21 : decode cX7_emptied 21 = .ok (.iinc 1 1, 3) := by decide +kernel
theorem dX7_emptied_24 : decode cX7_emptied 24 = .ok (.goto (-22), 3) := by decide +kernel
theorem dX7_emptied_27 : decode cX7_emptied 27 = .ok (.aload_n 0, 1) := by decide +kernel
theorem dX7_emptied_28 : decode cX7_emptied 28 = .ok (.iconst 5, 1) := by decide +kernel
theorem dX7_emptied_29 : decode cX7_emptied 29 = .ok (.iconst 0, 1) := by decide +kernel
theorem dX7_emptied_30 : decode cX7_emptied 30 = .ok (.invokevirtual 97, 3) := by decide +kernel
theorem dX7_emptied_33 : decode cX7_emptied 33 = .ok (.istore_n 1, 1) := by decide +kernel
theorem dX7_emptied_34 : decode cX7_emptied 34 = .ok (.iconst 0, 1) := by decide +kernel
theorem dX7_emptied_35 : decode cX7_emptied 35 = .ok (.istore_n 2, 1) := by decide +kernel
theorem dX7_emptied_36 : decode cX7_emptied 36 = .ok (.iconst 0, 1) := by decide +kernel
theorem dX7_emptied_37 : decode cX7_emptied 37 = .ok (.istore_n 3, 1) := by decide +kernel
theorem dX7_emptied_38 : decode cX7_emptied 38 = .ok (.iload_n 3, 1) := by decide +kernel
theorem dX7_emptied_39 : decode cX7_emptied 39 = .ok (.bipush 8, 2) := by decide +kernel
theorem dX7_emptied_41 : decode cX7_emptied 41 = .ok (.if_icmp .ge 27, 3) := by decide +kernel
theorem dX7_emptied_44 : decode cX7_emptied 44 = .ok (.iload_n 2, 1) := by decide +kernel
theorem dX7_emptied_45 : decode cX7_emptied 45 = .ok (.aload_n 0, 1) := by decide +kernel
theorem dX7_emptied_46 : decode cX7_emptied 46 = .ok (.iload_n 3, 1) := by decide +kernel
theorem dX7_emptied_47 : decode cX7_emptied 47 = .ok (.invokevirtual 71, 3) := by decide +kernel
theorem dX7_emptied_50 : decode cX7_emptied 50 = .ok (.ifCond .ge 9, 3) := by decide +kernel
theorem dX7_emptied_53 : decode cX7_emptied 53 = .ok (.iconst 1, 1) := by decide +kernel
theorem dX7_emptied_54 : decode cX7_emptied 54 = .ok (.iload_n 3, 1) := by decide +kernel
theorem dX7_emptied_55 : decode cX7_emptied 55 = .ok (.ishl, 1) := by decide +kernel
theorem dX7_emptied_56 : decode cX7_emptied 56 = .ok (.goto 4, 3) := by decide +kernel
theorem dX7_emptied_59 : decode cX7_emptied 59 = .ok (.iconst 0, 1) := by decide +kernel
theorem dX7_emptied_60 : decode cX7_emptied 60 = .ok (.ior, 1) := by decide +kernel
theorem dX7_emptied_61 : decode cX7_emptied 61 = .ok (.istore_n 2, 1) := by decide +kernel
theorem dX7_emptied_62 : decode cX7_emptied 62 = .ok (.iinc 3 1, 3) := by decide +kernel
theorem dX7_emptied_65 : decode cX7_emptied 65 = .ok (.goto (-27), 3) := by decide +kernel
theorem dX7_emptied_68 : decode cX7_emptied 68 = .ok (.iconst 0, 1) := by decide +kernel
theorem dX7_emptied_69 : decode cX7_emptied 69 = .ok (.istore_n 3, 1) := by decide +kernel
theorem dX7_emptied_70 : decode cX7_emptied 70 = .ok (.iload_n 3, 1) := by decide +kernel
theorem dX7_emptied_71 : decode cX7_emptied 71 = .ok (.sipush 328, 3) := by decide +kernel
theorem dX7_emptied_74 : decode cX7_emptied 74 = .ok (.if_icmp .ge 21, 3) := by decide +kernel
theorem dX7_emptied_77 : decode cX7_emptied 77 = .ok (.aload_n 0, 1) := by decide +kernel
theorem dX7_emptied_78 : decode cX7_emptied 78 = .ok (.getfield 7, 3) := by decide +kernel
theorem dX7_emptied_81 : decode cX7_emptied 81 = .ok (.iload_n 3, 1) := by decide +kernel
theorem dX7_emptied_82 : decode cX7_emptied 82 = .ok (.aload_n 0, 1) := by decide +kernel
theorem dX7_emptied_83 : decode cX7_emptied 83 = .ok (.getfield 16, 3) := by decide +kernel
theorem dX7_emptied_86 : decode cX7_emptied 86 = .ok (.iload_n 3, 1) := by decide +kernel
theorem dX7_emptied_87 : decode cX7_emptied 87 = .ok (.iaload, 1) := by decide +kernel
theorem dX7_emptied_88 : decode cX7_emptied 88 = .ok (.iastore, 1) := by decide +kernel
theorem dX7_emptied_89 : decode cX7_emptied 89 = .ok (.iinc 3 1, 3) := by decide +kernel
theorem dX7_emptied_92 : decode cX7_emptied 92 = .ok (.goto (-22), 3) := by decide +kernel
theorem dX7_emptied_95 : decode cX7_emptied 95 = .ok (.iload_n 2, 1) := by decide +kernel
theorem dX7_emptied_96 : decode cX7_emptied 96 = .ok (.ireturn, 1) := by decide +kernel
theorem dX7_shortest_0 : decode cX7_shortest 0 = .ok (.iload_n 1, 1) := by decide +kernel
theorem dX7_shortest_1 : decode cX7_shortest 1 = .ok (.iconst 0, 1) := by decide +kernel
theorem dX7_shortest_2 : decode cX7_shortest 2 = .ok (.iconst 1, 1) := by decide +kernel
theorem dX7_shortest_3 : decode cX7_shortest 3 = .ok (.invokestatic 22, 3) := by decide +kernel
theorem dX7_shortest_6 : decode cX7_shortest 6 = .ok (.ifCond .ne 5, 3) := by decide +kernel
theorem dX7_shortest_9 : decode cX7_shortest 9 = .ok (.iconst (-1), 1) := by decide +kernel
theorem dX7_shortest_10 : decode cX7_shortest 10 = .ok (.ireturn, 1) := by decide +kernel
theorem dX7_shortest_11 : decode cX7_shortest 11 = .ok (.bipush (-9), 2) := by decide +kernel
theorem dX7_shortest_13 : decode cX7_shortest 13 = .ok (.istore_n 2, 1) := by decide +kernel
theorem dX7_shortest_14 : decode cX7_shortest 14 = .ok (.bipush (-9), 2) := by decide +kernel
theorem dX7_shortest_16 : decode cX7_shortest 16 = .ok (.istore_n 3, 1) := by decide +kernel
theorem dX7_shortest_17 : decode cX7_shortest 17 = .ok (.iconst 0, 1) := by decide +kernel
theorem dX7_shortest_18 : decode cX7_shortest 18 = .ok (.istore 4, 2) := by decide +kernel
theorem dX7_shortest_20 : decode cX7_shortest 20 = .ok (.iload 4, 2) := by decide +kernel
theorem dX7_shortest_22 : decode cX7_shortest 22 = .ok (.bipush 8, 2) := by decide +kernel
theorem dX7_shortest_24 : decode cX7_shortest 24 = .ok (.if_icmp .ge 79, 3) := by decide +kernel
theorem dX7_shortest_27 : decode cX7_shortest 27 = .ok (.aload_n 0, 1) := by decide +kernel
theorem dX7_shortest_28 : decode cX7_shortest 28 = .ok (.iload 4, 2) := by decide +kernel
theorem dX7_shortest_30 : decode cX7_shortest 30 = .ok (.invokevirtual 164, 3) := by decide +kernel
theorem dX7_shortest_33 : decode cX7_shortest 33 = .ok (.aload_n 0, 1) := by decide +kernel
theorem dX7_shortest_34 : decode cX7_shortest 34 = .ok (.iconst 0, 1) := by decide +kernel
theorem dX7_shortest_35 : decode cX7_shortest 35 = .ok (.iload 4, 2) := by decide +kernel
theorem dX7_shortest_37 : decode cX7_shortest 37 = .ok (.invokevirtual 37, 3) := by decide +kernel
theorem dX7_shortest_40 : decode cX7_shortest 40 = .ok (.isub, 1) := by decide +kernel
theorem dX7_shortest_41 : decode cX7_shortest 41 = .ok (.aload_n 0, 1) := by decide +kernel
theorem dX7_shortest_42 : decode cX7_shortest 42 = .ok (.iconst 0, 1) := by decide +kernel
theorem dX7_shortest_43 : decode cX7_shortest 43 = .ok (.iload 4, 2) := by decide +kernel
theorem dX7_shortest_45 : decode cX7_shortest 45 = .ok (.invokevirtual 106, 3) := by decide +kernel
theorem dX7_shortest_48 : decode cX7_shortest 48 = .ok (.iadd, 1) := by decide +kernel
theorem dX7_shortest_49 : decode cX7_shortest 49 = .ok (.istore 5, 2) := by decide +kernel
theorem dX7_shortest_51 : decode cX7_shortest 51 = .ok (.iload 5, 2) := by decide +kernel
theorem dX7_shortest_53 : decode cX7_shortest 53 = .ok (.ifCond .le 17, 3) := by decide +kernel
theorem dX7_shortest_56 : decode cX7_shortest 56 = .ok (.iload_n 2, 1) := by decide +kernel
theorem dX7_shortest_57 : decode cX7_shortest 57 = .ok (.ifCond .lt 9, 3) := by decide +kernel
theorem dX7_shortest_60 : decode cX7_shortest 60 = .ok (.iload 5, 2) := by decide +kernel
theorem dX7_shortest_62 : decode cX7_shortest 62 = .ok (.iload_n 3, 1) := by decide +kernel
theorem dX7_shortest_63 : decode cX7_shortest 63 = .ok (.if_icmp .ge 7, 3) := by decide +kernel
theorem dX7_shortest_66 : decode cX7_shortest 66 = .ok (.iconst 1, 1) := by decide +kernel
theorem dX7_shortest_67 : decode cX7_shortest 67 = .ok (.goto 4, 3) := by decide +kernel
theorem dX7_shortest_70 : decode cX7_shortest 70 = .ok (.iconst 0, 1) := by decide +kernel
theorem dX7_shortest_71 : decode cX7_shortest 71 = .ok (.istore 6, 2) := by decide +kernel
theorem dX7_shortest_73 : decode cX7_shortest 73 = .ok (.iload 6, 2) := by decide +kernel
theorem dX7_shortest_75 : decode cX7_shortest 75 = .ok (.ifCond .eq 8, 3) := by decide +kernel
theorem dX7_shortest_78 : decode cX7_shortest 78 = .ok (.iload 4, 2) := by decide +kernel
theorem dX7_shortest_80 : decode cX7_shortest 80 = .ok (.goto 4, 3) := by decide +kernel
theorem dX7_shortest_83 : decode cX7_shortest 83 = .ok (.iload_n 2, 1) := by decide +kernel
theorem dX7_shortest_84 : decode cX7_shortest 84 = .ok (.istore_n 2, 1) := by decide +kernel
theorem dX7_shortest_85 : decode cX7_shortest 85 = .ok (.iload 6, 2) := by decide +kernel
theorem dX7_shortest_87 : decode cX7_shortest 87 = .ok (.ifCond .eq 8, 3) := by decide +kernel
theorem dX7_shortest_90 : decode cX7_shortest 90 = .ok (.iload 5, 2) := by decide +kernel
theorem dX7_shortest_92 : decode cX7_shortest 92 = .ok (.goto 4, 3) := by decide +kernel
theorem dX7_shortest_95 : decode cX7_shortest 95 = .ok (.iload_n 3, 1) := by decide +kernel
theorem dX7_shortest_96 : decode cX7_shortest 96 = .ok (.istore_n 3, 1) := by decide +kernel
theorem dX7_shortest_97 : decode cX7_shortest 97 = .ok (.iinc 4 1, 3) := by decide +kernel
theorem dX7_shortest_100 : decode cX7_shortest 100 = .ok (.goto (-80), 3) := by decide +kernel
theorem dX7_shortest_103 : decode cX7_shortest 103 = .ok (.iload_n 1, 1) := by decide +kernel
theorem dX7_shortest_104 : decode cX7_shortest 104 = .ok (.ifCond .ne 7, 3) := by decide +kernel
theorem dX7_shortest_107 : decode cX7_shortest 107 = .ok (.iload_n 2, 1) := by decide +kernel
theorem dX7_shortest_108 : decode cX7_shortest 108 = .ok (.goto 4, 3) := by decide +kernel
theorem dX7_shortest_111 : decode cX7_shortest 111 = .ok (.iload_n 3, 1) := by decide +kernel
theorem dX7_shortest_112 : decode cX7_shortest 112 = .ok (.ireturn, 1) := by decide +kernel
end
section

/-! the walk over pure data: a state of a body is a list of cells, a list of locals, a place, a stack -/
abbrev KG : Type := Program × Launch × Env × Room × State × MethodId × Array Value × List Frame × Method × Code × (State → Prop) × va_G × List (ClassId × FieldType) × (Nat → Prop) × (Nat → Prop) × Heap × Nat
def KW (Γ : KG) (cells slots : Nat) (ws : va_W) (lo : List (Nat × Value)) (pc : Nat) (st : List Value) : Prop :=
  match Γ with
  | (p, l, e, R, s, m, args, below, meth, c, Q, D, _, AD, A, H0, nL) => ∀ (H : Heap) (locs : List Loc) (ls : Array Slot), va_P D vwCl ws H → va_D AD ws → va_S A H0 H locs → lv_has ls nL lo → W p l e R s m args below meth c H locs cells slots Q (F0 m pc ls st)
/-- what the start gives of the machine's tables -/
def SK (D : va_G) (ty : List (ClassId × FieldType)) (U : State) : Prop := va_K D vwCl ty U ∧ (∀ w ∈ NWL, va_Nw w U) ∧ va_AO RX3 U
theorem SK.moved {D : va_G} {ty : List (ClassId × FieldType)} {u U : State} (hW : u.WarmedH U.vm) (h : SK D ty u) : SK D ty U := by
  refine ⟨va_K.moved hW.alike h.1, fun w hw => ?_, va_AO.moved hW.alike h.2.2⟩
  have h2 := h.2.1 w hw
  rcases nwl_kind w hw with ⟨a, i, b, n, d, g, rfl⟩ | ⟨a, i, x, g, rfl⟩
  · exact va_Nw.warmF hW h2
  · exact va_Nw.warmM hW h2
theorem SK.calling {D : va_G} {ty : List (ClassId × FieldType)} {U : State} (h : SK D ty U) (g : JFrame) (mk : MethodId) (a : Array Value) : SK D ty (U.calling g mk a) := by
  refine ⟨va_K.moved (u := U) (U := U.calling g mk a) (Vm.Alike.refl U.vm) h.1, fun w hw => ?_, va_AO.moved (u := U) (U := U.calling g mk a) (Vm.Alike.refl U.vm) h.2.2⟩
  have h2 := h.2.1 w hw
  rcases nwl_kind w hw with ⟨a1, i, b, n, d, g1, rfl⟩ | ⟨a1, i, x, g1, rfl⟩
  · exact va_Nw.same (u := U) (U := U.calling g mk a) rfl rfl h2
  · exact va_Nw.same (u := U) (U := U.calling g mk a) rfl rfl h2
def KX (Γ : KG) (l : Launch) (rm : Room) (D : va_G) (ty : List (ClassId × FieldType)) (cc : ByteArray) (nL : Nat) (own : String) (w0 : Cond) : Prop :=
  match Γ with
  | (p, l', _, R, s, m, args, _, _, c, _, D', ty', _, _, _, nL') => l' = l ∧ R = rm ∧ D' = D ∧ ty' = ty ∧ nL' = nL ∧ CallFix p m c cc nL' s args (w0 :: GW) own ∧ SK D' ty' s
def KE (Γ : KG) : Prop :=
  match Γ with
  | (_, _, _, _, _, _, _, _, _, _, _, _, _, AD, A, H0, _) => AD = A ∧ ∀ q : Nat, H0.size ≤ q → A q
def KN (Γ : KG) : Prop :=
  match Γ with
  | (_, _, _, _, _, _, _, _, meth, _, _, _, _, _, _, _, _) => meth.name = "<init>"
theorem gw_good : ∀ w ∈ GW, (w.onTables && w.keeps) = true ∨ ∃ ty, w = .arrayClass ty := fun w h => good_of_word (List.mem_filter.mp h).2
theorem gw_all {w : Cond} {w0 : Cond} {args : Array Value} {s : State} (hts : ∀ w ∈ (w0 :: GW), w.before args s = true) (h : w ∈ GW) : w.before args s = true := hts w (List.mem_cons_of_mem _ h)
/-! contracts -/
def MPi (l : Launch) (y : MethodName) (cc : ByteArray) (ml : Nat) (ret : Option FieldType) (rm : Room) (D : va_G) (ty : List (ClassId × FieldType)) (av : List Value) (W0 : va_W) (r : Value) : Prop :=
  Met l y (mws y cc ml ret) rm (va_Pc av (fun U => va_P D vwCl W0 U.heap ∧ SK D ty U ∧ va_D (fun _ => True) W0)) (fun _ st oc t => oc = .returned (some r) ∧ va_F (fun _ => False) st t) 0 0 (fun _ => False)
def MEq (l : Launch) (y : MethodName) (cc : ByteArray) (ml : Nat) (ret : Option FieldType) (rm : Room) (D : va_G) (ty : List (ClassId × FieldType)) (av : List Value) (W0 : va_W) (W1 : va_W) (r : Option Value) : Prop :=
  ∀ sz : Nat, Met l y (mws y cc ml ret) rm (va_Pc av (fun U => U.heap.size = sz ∧ va_P D vwCl W0 U.heap ∧ SK D ty U ∧ va_D (fun _ => True) W0)) (fun _ st oc t => (oc = .returned r ∧ va_P D vwCl W1 t.heap ∧ va_D (va_A W0 sz) W1) ∧ va_F (va_A W0 sz) st t) 0 0 (va_A W0 sz)
/-- a method that makes cells: its world behind it is one of a family -/
def MNq (l : Launch) (y : MethodName) (cc : ByteArray) (ml : Nat) (ret : Option FieldType) (rm : Room) (D : va_G) (ty : List (ClassId × FieldType)) (av : List Value) (W0 : va_W) (W1 : (Nat → Nat) → va_W) (mc ms : Nat) : Prop :=
  ∀ sz : Nat, Met l y (mws y cc ml ret) rm (va_Pc av (fun U => U.heap.size = sz ∧ va_P D vwCl W0 U.heap ∧ SK D ty U ∧ va_D (fun _ => True) W0)) (fun _ st oc t => (oc = .returned none ∧ ∃ a : Nat → Nat, va_P D vwCl (W1 a) t.heap ∧ va_D (va_A W0 sz) (W1 a)) ∧ va_F (va_A W0 sz) st t) mc ms (va_A W0 sz)
theorem me_p {l : Launch} {D : va_G} {ty : List (ClassId × FieldType)} {y : MethodName} {cc : ByteArray} {ml : Nat} {rt : FieldType} {rm : Room} {av : List Value} {W0 : va_W} {lo : List (Nat × Value)} {r : Int32} (hy : plainName y.cls = true) (hlen : (lg_sl av).length ≤ ml) (hlo : lv_args 0 av = lo)
    (k : ∀ Γ : KG, KX Γ l rm D ty cc ml y.cls (.code y cc ml (some rt)) → (∀ ws lo pc, narrow rt (.int r) = .int r → decode cc pc = .ok (.ireturn, 1) → KW Γ 0 0 ws lo pc [.int r]) → KW Γ 0 0 W0 lo 0 []) : MPi l y cc ml (some rt) rm D ty av W0 (.int r) := by
  refine Met.ofW (cc := cc) (maxL := ml) (ret := some rt) hy rfl ?_
  intro p e s m args below meth c s₁ B hml hv
  obtain ⟨rfl, hP, hSK, hD0⟩ := hv
  have hl := lv_entry av (n := ml) hlen
  rw [hlo] at hl
  rw [lg_entry_eq]
  refine k (p, l, e, rm, s, m, av.toArray, below, meth, c, _, D, ty, (fun _ => True), (fun _ => False), s.heap, ml) ⟨rfl, rfl, rfl, rfl, rfl, ⟨B.exec, B.bytes, hml, findClass_of_methodNamed B.named, atoms_spec (ws := mws y cc ml (some rt)) B.pre⟩, hSK⟩ ?_ s.heap [] _ hP hD0 va_S.rf hl
  intro ws lo pc hn d H locs ls hP hD hS hl
  exact W.zret B.exec B.bytes B.returns hn (fun t ht hW => ⟨rfl, hS.F ht⟩) hS.2.2 d B.notSynchronized
theorem me_pa {l : Launch} {D : va_G} {ty : List (ClassId × FieldType)} {y : MethodName} {cc : ByteArray} {ml : Nat} {rn : String} {rm : Room} {av : List Value} {W0 : va_W} {lo : List (Nat × Value)} {r : Nat} (hy : plainName y.cls = true) (hlen : (lg_sl av).length ≤ ml) (hlo : lv_args 0 av = lo)
    (k : ∀ Γ : KG, KX Γ l rm D ty cc ml y.cls (.code y cc ml (some (.object rn))) → (∀ ws lo pc, decode cc pc = .ok (.areturn, 1) → KW Γ 0 0 ws lo pc [.ref r]) → KW Γ 0 0 W0 lo 0 []) : MPi l y cc ml (some (.object rn)) rm D ty av W0 (.ref r) := by
  refine Met.ofW (cc := cc) (maxL := ml) (ret := some (.object rn)) hy rfl ?_
  intro p e s m args below meth c s₁ B hml hv
  obtain ⟨rfl, hP, hSK, hD0⟩ := hv
  have hl := lv_entry av (n := ml) hlen
  rw [hlo] at hl
  rw [lg_entry_eq]
  refine k (p, l, e, rm, s, m, av.toArray, below, meth, c, _, D, ty, (fun _ => True), (fun _ => False), s.heap, ml) ⟨rfl, rfl, rfl, rfl, rfl, ⟨B.exec, B.bytes, hml, findClass_of_methodNamed B.named, atoms_spec (ws := mws y cc ml (some (.object rn))) B.pre⟩, hSK⟩ ?_ s.heap [] _ hP hD0 va_S.rf hl
  intro ws lo pc d H locs ls hP hD hS hl
  exact W.aret B.exec B.bytes B.returns (Or.inl ⟨_, rfl⟩) (Or.inr ⟨_, rfl⟩) (fun t ht hW => ⟨rfl, hS.F ht⟩) hS.2.2 d B.notSynchronized
theorem me_e {l : Launch} {D : va_G} {ty : List (ClassId × FieldType)} {y : MethodName} {cc : ByteArray} {ml : Nat} {rt : FieldType} {rm : Room} {av : List Value} {W0 W1 : va_W} {lo : List (Nat × Value)} {r : Int32} (hy : plainName y.cls = true) (hlen : (lg_sl av).length ≤ ml) (hlo : lv_args 0 av = lo)
    (k : ∀ Γ : KG, KX Γ l rm D ty cc ml y.cls (.code y cc ml (some rt)) → KE Γ → (∀ lo pc, narrow rt (.int r) = .int r → decode cc pc = .ok (.ireturn, 1) → KW Γ 0 0 W1 lo pc [.int r]) → KW Γ 0 0 W0 lo 0 []) : MEq l y cc ml (some rt) rm D ty av W0 W1 (some (.int r)) := by
  intro sz
  refine Met.ofW (cc := cc) (maxL := ml) (ret := some rt) hy rfl ?_
  intro p e s m args below meth c s₁ B hml hv
  obtain ⟨rfl, hsz, hP, hSK, hD0⟩ := hv
  subst hsz
  have hl := lv_entry av (n := ml) hlen
  rw [hlo] at hl
  rw [lg_entry_eq]
  refine k (p, l, e, rm, s, m, av.toArray, below, meth, c, _, D, ty, va_A W0 s.heap.size, va_A W0 s.heap.size, s.heap, ml) ⟨rfl, rfl, rfl, rfl, rfl, ⟨B.exec, B.bytes, hml, findClass_of_methodNamed B.named, atoms_spec (ws := mws y cc ml (some rt)) B.pre⟩, hSK⟩ ⟨rfl, fun q h => Or.inr h⟩ ?_ s.heap [] _ hP hD0.self va_S.rf hl
  intro lo pc hn d H locs ls hP hD hS hl
  exact W.zret B.exec B.bytes B.returns hn (fun t ht hW => ⟨⟨rfl, by rw [ht]; exact hP, hD⟩, hS.F ht⟩) hS.2.2 d B.notSynchronized
theorem me_v {l : Launch} {D : va_G} {ty : List (ClassId × FieldType)} {y : MethodName} {cc : ByteArray} {ml : Nat} {rm : Room} {av : List Value} {W0 W1 : va_W} {lo : List (Nat × Value)} (hy : plainName y.cls = true) (hlen : (lg_sl av).length ≤ ml) (hlo : lv_args 0 av = lo)
    (k : ∀ Γ : KG, KX Γ l rm D ty cc ml y.cls (.code y cc ml none) → KE Γ → (∀ lo pc, decode cc pc = .ok (.return_, 1) → KW Γ 0 0 W1 lo pc []) → KW Γ 0 0 W0 lo 0 []) : MEq l y cc ml none rm D ty av W0 W1 none := by
  intro sz
  refine Met.ofW (cc := cc) (maxL := ml) (ret := none) hy rfl ?_
  intro p e s m args below meth c s₁ B hml hv
  obtain ⟨rfl, hsz, hP, hSK, hD0⟩ := hv
  subst hsz
  have hl := lv_entry av (n := ml) hlen
  rw [hlo] at hl
  rw [lg_entry_eq]
  refine k (p, l, e, rm, s, m, av.toArray, below, meth, c, _, D, ty, va_A W0 s.heap.size, va_A W0 s.heap.size, s.heap, ml) ⟨rfl, rfl, rfl, rfl, rfl, ⟨B.exec, B.bytes, hml, findClass_of_methodNamed B.named, atoms_spec (ws := mws y cc ml none) B.pre⟩, hSK⟩ ⟨rfl, fun q h => Or.inr h⟩ ?_ s.heap [] _ hP hD0.self va_S.rf hl
  intro lo pc d H locs ls hP hD hS hl
  exact W.vret B.exec B.bytes B.returns (fun t ht hW => ⟨⟨rfl, by rw [ht]; exact hP, hD⟩, hS.F ht⟩) hS.2.2 d B.notSynchronized
theorem me_n {l : Launch} {D : va_G} {ty : List (ClassId × FieldType)} {y : MethodName} {cc : ByteArray} {ml : Nat} {rm : Room} {av : List Value} {W0 : va_W} {W1 : (Nat → Nat) → va_W} {mc ms : Nat} {lo : List (Nat × Value)} (hy : plainName y.cls = true) (hyn : y.name = "<init>") (hlen : (lg_sl av).length ≤ ml) (hlo : lv_args 0 av = lo)
    (k : ∀ Γ : KG, KX Γ l rm D ty cc ml y.cls (.code y cc ml none) → KE Γ → KN Γ → (∀ a lo pc, decode cc pc = .ok (.return_, 1) → KW Γ mc ms (W1 a) lo pc []) → KW Γ 0 0 W0 lo 0 []) : MNq l y cc ml none rm D ty av W0 W1 mc ms := by
  intro sz
  refine Met.ofW (cc := cc) (maxL := ml) (ret := none) hy rfl ?_
  intro p e s m args below meth c s₁ B hml hv
  obtain ⟨rfl, hsz, hP, hSK, hD0⟩ := hv
  subst hsz
  have hl := lv_entry av (n := ml) hlen
  rw [hlo] at hl
  rw [lg_entry_eq]
  have hin : meth.name = "<init>" := (name_of_methodNamed B.named B.method).1.trans hyn
  refine k (p, l, e, rm, s, m, av.toArray, below, meth, c, _, D, ty, va_A W0 s.heap.size, va_A W0 s.heap.size, s.heap, ml) ⟨rfl, rfl, rfl, rfl, rfl, ⟨B.exec, B.bytes, hml, findClass_of_methodNamed B.named, atoms_spec (ws := mws y cc ml none) B.pre⟩, hSK⟩ ⟨rfl, fun q h => Or.inr h⟩ hin ?_ s.heap [] _ hP hD0.self va_S.rf hl
  intro a lo pc d H locs ls hP hD hS hl
  exact W.vret B.exec B.bytes B.returns (fun t ht hW => ⟨⟨rfl, a, by rw [ht]; exact hP, hD⟩, hS.F ht⟩) hS.2.2 d B.notSynchronized
def imin (x y : Int32) : Int32 := if y < x then y else x
def imax (x y : Int32) : Int32 := if x < y then y else x
section KR
variable {Γ : KG} {l : Launch} {rm : Room} {D : va_G} {ty : List (ClassId × FieldType)} {cc : ByteArray} {nL : Nat} {own : String} {w0 : Cond}
variable {n z pc tgt : Nat} {ws ws' : va_W} {lo lo' : List (Nat × Value)} {st : List Value}
theorem kw_iconst (X : KX Γ l rm D ty cc nL own w0) {k : Int} {v : Int32} (d : decode cc pc = .ok (.iconst k, 1)) (hv : Int32.ofInt k = v)
    (kk : KW Γ n z ws lo (pc + 1) (.int v :: st)) : KW Γ n z ws lo pc (st) := by
  obtain ⟨p, l', e, R, s, m, args, below, meth, c, Q, D', ty', AD, A, H0, nL'⟩ := Γ
  obtain ⟨rfl, rfl, rfl, rfl, rfl, ⟨hx, hb, hml, hown, hts⟩, hSK⟩ := X
  intro H locs ls hP hD hS hl
  exact lv_iconst hx hb d hv (kk H locs ls hP hD hS hl)
theorem kw_bipush (X : KX Γ l rm D ty cc nL own w0) {k : Int} {v : Int32} (d : decode cc pc = .ok (.bipush k, 2)) (hv : (Int8.ofInt k).toInt32 = v)
    (kk : KW Γ n z ws lo (pc + 2) (.int v :: st)) : KW Γ n z ws lo pc (st) := by
  obtain ⟨p, l', e, R, s, m, args, below, meth, c, Q, D', ty', AD, A, H0, nL'⟩ := Γ
  obtain ⟨rfl, rfl, rfl, rfl, rfl, ⟨hx, hb, hml, hown, hts⟩, hSK⟩ := X
  intro H locs ls hP hD hS hl
  exact lv_bipush hx hb d hv (kk H locs ls hP hD hS hl)
theorem kw_sipush (X : KX Γ l rm D ty cc nL own w0) {k : Int} {v : Int32} (d : decode cc pc = .ok (.sipush k, 3)) (hv : (Int16.ofInt k).toInt32 = v)
    (kk : KW Γ n z ws lo (pc + 3) (.int v :: st)) : KW Γ n z ws lo pc (st) := by
  obtain ⟨p, l', e, R, s, m, args, below, meth, c, Q, D', ty', AD, A, H0, nL'⟩ := Γ
  obtain ⟨rfl, rfl, rfl, rfl, rfl, ⟨hx, hb, hml, hown, hts⟩, hSK⟩ := X
  intro H locs ls hP hD hS hl
  exact lv_sipush hx hb d hv (kk H locs ls hP hD hS hl)
theorem kw_ldc (X : KX Γ l rm D ty cc nL own w0) {idx : Nat} {v : Int32} (d : decode cc pc = .ok (.ldc idx, 2)) (hw : Cond.constant own idx v ∈ GW)
    (kk : KW Γ n z ws lo (pc + 2) (.int v :: st)) : KW Γ n z ws lo pc (st) := by
  obtain ⟨p, l', e, R, s, m, args, below, meth, c, Q, D', ty', AD, A, H0, nL'⟩ := Γ
  obtain ⟨rfl, rfl, rfl, rfl, rfl, ⟨hx, hb, hml, hown, hts⟩, hSK⟩ := X
  intro H locs ls hP hD hS hl
  exact lv_ldc hx hb hown (gw_all hts hw) d (kk H locs ls hP hD hS hl)
theorem kw_iload_n (X : KX Γ l rm D ty cc nL own w0) {k : Fin 4} {i : Nat} {x : Int32} (d : decode cc pc = .ok (.iload_n k, 1)) (hi : (k : Nat) = i) (j : Nat) (hj : lo[j]? = some (i, .int x))
    (kk : KW Γ n z ws lo (pc + 1) (.int x :: st)) : KW Γ n z ws lo pc (st) := by
  obtain ⟨p, l', e, R, s, m, args, below, meth, c, Q, D', ty', AD, A, H0, nL'⟩ := Γ
  obtain ⟨rfl, rfl, rfl, rfl, rfl, ⟨hx, hb, hml, hown, hts⟩, hSK⟩ := X
  intro H locs ls hP hD hS hl
  exact lv_iload_n hx hb d hi (lv_at hl j hj) (kk H locs ls hP hD hS hl)
theorem kw_iload (X : KX Γ l rm D ty cc nL own w0) {i : Nat} {x : Int32} (d : decode cc pc = .ok (.iload i, 2)) (j : Nat) (hj : lo[j]? = some (i, .int x))
    (kk : KW Γ n z ws lo (pc + 2) (.int x :: st)) : KW Γ n z ws lo pc (st) := by
  obtain ⟨p, l', e, R, s, m, args, below, meth, c, Q, D', ty', AD, A, H0, nL'⟩ := Γ
  obtain ⟨rfl, rfl, rfl, rfl, rfl, ⟨hx, hb, hml, hown, hts⟩, hSK⟩ := X
  intro H locs ls hP hD hS hl
  exact lv_iload hx hb d (lv_at hl j hj) (kk H locs ls hP hD hS hl)
theorem kw_aload_n (X : KX Γ l rm D ty cc nL own w0) {k : Fin 4} {i : Nat} {x : Nat} (d : decode cc pc = .ok (.aload_n k, 1)) (hi : (k : Nat) = i) (j : Nat) (hj : lo[j]? = some (i, .ref x))
    (kk : KW Γ n z ws lo (pc + 1) (.ref x :: st)) : KW Γ n z ws lo pc (st) := by
  obtain ⟨p, l', e, R, s, m, args, below, meth, c, Q, D', ty', AD, A, H0, nL'⟩ := Γ
  obtain ⟨rfl, rfl, rfl, rfl, rfl, ⟨hx, hb, hml, hown, hts⟩, hSK⟩ := X
  intro H locs ls hP hD hS hl
  exact lv_aload_n hx hb d hi (lv_at hl j hj) (kk H locs ls hP hD hS hl)
theorem kw_aload (X : KX Γ l rm D ty cc nL own w0) {i : Nat} {x : Nat} (d : decode cc pc = .ok (.aload i, 2)) (j : Nat) (hj : lo[j]? = some (i, .ref x))
    (kk : KW Γ n z ws lo (pc + 2) (.ref x :: st)) : KW Γ n z ws lo pc (st) := by
  obtain ⟨p, l', e, R, s, m, args, below, meth, c, Q, D', ty', AD, A, H0, nL'⟩ := Γ
  obtain ⟨rfl, rfl, rfl, rfl, rfl, ⟨hx, hb, hml, hown, hts⟩, hSK⟩ := X
  intro H locs ls hP hD hS hl
  exact lv_aload hx hb d (lv_at hl j hj) (kk H locs ls hP hD hS hl)
theorem kw_istore_n (X : KX Γ l rm D ty cc nL own w0) {k : Fin 4} {i : Nat} {x : Int32} (d : decode cc pc = .ok (.istore_n k, 1)) (hi : (k : Nat) = i) (hn : i < nL) (ks : List Nat) (hk : lv_pick ((i, Value.int x) :: lo.filter (fun q => !(q.1 == i) && !(q.1 + 1 == i && q.2.category == 2))) ks = lo')
    (kk : KW Γ n z ws lo' (pc + 1) st) : KW Γ n z ws lo pc (.int x :: st) := by
  obtain ⟨p, l', e, R, s, m, args, below, meth, c, Q, D', ty', AD, A, H0, nL'⟩ := Γ
  obtain ⟨rfl, rfl, rfl, rfl, rfl, ⟨hx, hb, hml, hown, hts⟩, hSK⟩ := X
  intro H locs ls hP hD hS hl
  exact lv_istore_n hx hb d hi hl hn rfl (fun ls' hl' => kk H locs ls' hP hD hS (lv_sub hl' ks hk))
theorem kw_istore (X : KX Γ l rm D ty cc nL own w0) {i : Nat} {x : Int32} (d : decode cc pc = .ok (.istore i, 2)) (hn : i < nL) (ks : List Nat) (hk : lv_pick ((i, Value.int x) :: lo.filter (fun q => !(q.1 == i) && !(q.1 + 1 == i && q.2.category == 2))) ks = lo')
    (kk : KW Γ n z ws lo' (pc + 2) st) : KW Γ n z ws lo pc (.int x :: st) := by
  obtain ⟨p, l', e, R, s, m, args, below, meth, c, Q, D', ty', AD, A, H0, nL'⟩ := Γ
  obtain ⟨rfl, rfl, rfl, rfl, rfl, ⟨hx, hb, hml, hown, hts⟩, hSK⟩ := X
  intro H locs ls hP hD hS hl
  exact lv_istore hx hb d hl hn rfl (fun ls' hl' => kk H locs ls' hP hD hS (lv_sub hl' ks hk))
theorem kw_astore_n (X : KX Γ l rm D ty cc nL own w0) {k : Fin 4} {i : Nat} {x : Nat} (d : decode cc pc = .ok (.astore_n k, 1)) (hi : (k : Nat) = i) (hn : i < nL) (ks : List Nat) (hk : lv_pick ((i, Value.ref x) :: lo.filter (fun q => !(q.1 == i) && !(q.1 + 1 == i && q.2.category == 2))) ks = lo')
    (kk : KW Γ n z ws lo' (pc + 1) st) : KW Γ n z ws lo pc (.ref x :: st) := by
  obtain ⟨p, l', e, R, s, m, args, below, meth, c, Q, D', ty', AD, A, H0, nL'⟩ := Γ
  obtain ⟨rfl, rfl, rfl, rfl, rfl, ⟨hx, hb, hml, hown, hts⟩, hSK⟩ := X
  intro H locs ls hP hD hS hl
  exact lv_astore_n hx hb d hi hl hn rfl (fun ls' hl' => kk H locs ls' hP hD hS (lv_sub hl' ks hk))
theorem kw_astore (X : KX Γ l rm D ty cc nL own w0) {i : Nat} {x : Nat} (d : decode cc pc = .ok (.astore i, 2)) (hn : i < nL) (ks : List Nat) (hk : lv_pick ((i, Value.ref x) :: lo.filter (fun q => !(q.1 == i) && !(q.1 + 1 == i && q.2.category == 2))) ks = lo')
    (kk : KW Γ n z ws lo' (pc + 2) st) : KW Γ n z ws lo pc (.ref x :: st) := by
  obtain ⟨p, l', e, R, s, m, args, below, meth, c, Q, D', ty', AD, A, H0, nL'⟩ := Γ
  obtain ⟨rfl, rfl, rfl, rfl, rfl, ⟨hx, hb, hml, hown, hts⟩, hSK⟩ := X
  intro H locs ls hP hD hS hl
  exact lv_astore hx hb d hl hn rfl (fun ls' hl' => kk H locs ls' hP hD hS (lv_sub hl' ks hk))
theorem kw_iinc (X : KX Γ l rm D ty cc nL own w0) {i : Nat} {q : Int} {x v : Int32} (d : decode cc pc = .ok (.iinc i q, 3)) (j : Nat) (hj : lo[j]? = some (i, .int x)) (hv : x + Int32.ofInt q = v) (hn : i < nL) (ks : List Nat) (hk : lv_pick ((i, Value.int v) :: lo.filter (fun q => !(q.1 == i) && !(q.1 + 1 == i && q.2.category == 2))) ks = lo')
    (kk : KW Γ n z ws lo' (pc + 3) st) : KW Γ n z ws lo pc (st) := by
  obtain ⟨p, l', e, R, s, m, args, below, meth, c, Q, D', ty', AD, A, H0, nL'⟩ := Γ
  obtain ⟨rfl, rfl, rfl, rfl, rfl, ⟨hx, hb, hml, hown, hts⟩, hSK⟩ := X
  intro H locs ls hP hD hS hl
  exact lv_iinc hx hb d hl hj hv hn rfl (fun ls' hl' => kk H locs ls' hP hD hS (lv_sub hl' ks hk))
theorem kw_loc (ks : List Nat) (hk : lv_pick lo ks = lo') (kk : KW Γ n z ws lo' pc st) : KW Γ n z ws lo pc st := by
  obtain ⟨p, l', e, R, s, m, args, below, meth, c, Q, D', ty', AD, A, H0, nL'⟩ := Γ
  intro H locs ls hP hD hS hl
  exact kk H locs ls hP hD hS (lv_sub hl ks hk)
theorem kw_sub (is : List Nat) (hn : va_nd is = true) (hk : is.map (fun i => ws[i]?) = ws'.map some) (kk : KW Γ n z ws' lo pc st) : KW Γ n z ws lo pc st := by
  obtain ⟨p, l', e, R, s, m, args, below, meth, c, Q, D', ty', AD, A, H0, nL'⟩ := Γ
  intro H locs ls hP hD hS hl
  have hk2 : is.filterMap (fun i => ws[i]?) = ws' := by
    have h := congrArg (fun l => l.filterMap id) hk
    simpa [List.filterMap_map, Function.comp_def] using h
  exact kk H locs ls (hP.sub is hk2) (hD.sub is hn hk) hS hl
theorem kw_widen {n' z' : Nat} (h1 : n ≤ n') (h2 : z ≤ z') (kk : KW Γ n' z' ws lo pc st) : KW Γ n z ws lo pc st := by
  obtain ⟨p, l', e, R, s, m, args, below, meth, c, Q, D', ty', AD, A, H0, nL'⟩ := Γ
  intro H locs ls hP hD hS hl
  exact W.widen h1 h2 (kk H locs ls hP hD hS hl)
theorem kw_iadd (X : KX Γ l rm D ty cc nL own w0) {x y : Int32} (d : decode cc pc = .ok (.iadd, 1))
    (kk : KW Γ n z ws lo (pc + 1) (.int (x + y) :: st)) : KW Γ n z ws lo pc (.int y :: .int x :: st) := by
  obtain ⟨p, l', e, R, s, m, args, below, meth, c, Q, D', ty', AD, A, H0, nL'⟩ := Γ
  obtain ⟨rfl, rfl, rfl, rfl, rfl, ⟨hx, hb, hml, hown, hts⟩, hSK⟩ := X
  intro H locs ls hP hD hS hl
  exact lv_iadd hx hb d (kk H locs ls hP hD hS hl)
theorem kw_isub (X : KX Γ l rm D ty cc nL own w0) {x y : Int32} (d : decode cc pc = .ok (.isub, 1))
    (kk : KW Γ n z ws lo (pc + 1) (.int (x - y) :: st)) : KW Γ n z ws lo pc (.int y :: .int x :: st) := by
  obtain ⟨p, l', e, R, s, m, args, below, meth, c, Q, D', ty', AD, A, H0, nL'⟩ := Γ
  obtain ⟨rfl, rfl, rfl, rfl, rfl, ⟨hx, hb, hml, hown, hts⟩, hSK⟩ := X
  intro H locs ls hP hD hS hl
  exact lv_isub hx hb d (kk H locs ls hP hD hS hl)
theorem kw_imul (X : KX Γ l rm D ty cc nL own w0) {x y : Int32} (d : decode cc pc = .ok (.imul, 1))
    (kk : KW Γ n z ws lo (pc + 1) (.int (x * y) :: st)) : KW Γ n z ws lo pc (.int y :: .int x :: st) := by
  obtain ⟨p, l', e, R, s, m, args, below, meth, c, Q, D', ty', AD, A, H0, nL'⟩ := Γ
  obtain ⟨rfl, rfl, rfl, rfl, rfl, ⟨hx, hb, hml, hown, hts⟩, hSK⟩ := X
  intro H locs ls hP hD hS hl
  exact lv_imul hx hb d (kk H locs ls hP hD hS hl)
theorem kw_iand (X : KX Γ l rm D ty cc nL own w0) {x y : Int32} (d : decode cc pc = .ok (.iand, 1))
    (kk : KW Γ n z ws lo (pc + 1) (.int (x &&& y) :: st)) : KW Γ n z ws lo pc (.int y :: .int x :: st) := by
  obtain ⟨p, l', e, R, s, m, args, below, meth, c, Q, D', ty', AD, A, H0, nL'⟩ := Γ
  obtain ⟨rfl, rfl, rfl, rfl, rfl, ⟨hx, hb, hml, hown, hts⟩, hSK⟩ := X
  intro H locs ls hP hD hS hl
  exact lv_iand hx hb d (kk H locs ls hP hD hS hl)
theorem kw_ior (X : KX Γ l rm D ty cc nL own w0) {x y : Int32} (d : decode cc pc = .ok (.ior, 1))
    (kk : KW Γ n z ws lo (pc + 1) (.int (x ||| y) :: st)) : KW Γ n z ws lo pc (.int y :: .int x :: st) := by
  obtain ⟨p, l', e, R, s, m, args, below, meth, c, Q, D', ty', AD, A, H0, nL'⟩ := Γ
  obtain ⟨rfl, rfl, rfl, rfl, rfl, ⟨hx, hb, hml, hown, hts⟩, hSK⟩ := X
  intro H locs ls hP hD hS hl
  exact lv_ior hx hb d (kk H locs ls hP hD hS hl)
theorem kw_ishl (X : KX Γ l rm D ty cc nL own w0) {x y : Int32} (d : decode cc pc = .ok (.ishl, 1))
    (kk : KW Γ n z ws lo (pc + 1) (.int (x <<< (y &&& 31)) :: st)) : KW Γ n z ws lo pc (.int y :: .int x :: st) := by
  obtain ⟨p, l', e, R, s, m, args, below, meth, c, Q, D', ty', AD, A, H0, nL'⟩ := Γ
  obtain ⟨rfl, rfl, rfl, rfl, rfl, ⟨hx, hb, hml, hown, hts⟩, hSK⟩ := X
  intro H locs ls hP hD hS hl
  exact lv_ishl hx hb d (kk H locs ls hP hD hS hl)
theorem kw_idiv (X : KX Γ l rm D ty cc nL own w0) {x y : Int32} (d : decode cc pc = .ok (.idiv, 1)) (hne : ¬ y = 0)
    (kk : KW Γ n z ws lo (pc + 1) (.int (x / y) :: st)) : KW Γ n z ws lo pc (.int y :: .int x :: st) := by
  obtain ⟨p, l', e, R, s, m, args, below, meth, c, Q, D', ty', AD, A, H0, nL'⟩ := Γ
  obtain ⟨rfl, rfl, rfl, rfl, rfl, ⟨hx, hb, hml, hown, hts⟩, hSK⟩ := X
  intro H locs ls hP hD hS hl
  exact lv_idiv hx hb d hne (kk H locs ls hP hD hS hl)
theorem kw_irem (X : KX Γ l rm D ty cc nL own w0) {x y : Int32} (d : decode cc pc = .ok (.irem, 1)) (hne : ¬ y = 0)
    (kk : KW Γ n z ws lo (pc + 1) (.int (x - x / y * y) :: st)) : KW Γ n z ws lo pc (.int y :: .int x :: st) := by
  obtain ⟨p, l', e, R, s, m, args, below, meth, c, Q, D', ty', AD, A, H0, nL'⟩ := Γ
  obtain ⟨rfl, rfl, rfl, rfl, rfl, ⟨hx, hb, hml, hown, hts⟩, hSK⟩ := X
  intro H locs ls hP hD hS hl
  exact lv_irem hx hb d hne (kk H locs ls hP hD hS hl)
theorem kw_i2c (X : KX Γ l rm D ty cc nL own w0) {x v : Int32} (d : decode cc pc = .ok (.i2c, 1)) (hv : (x.toUInt32 % 65536).toInt32 = v)
    (kk : KW Γ n z ws lo (pc + 1) (.int v :: st)) : KW Γ n z ws lo pc (.int x :: st) := by
  obtain ⟨p, l', e, R, s, m, args, below, meth, c, Q, D', ty', AD, A, H0, nL'⟩ := Γ
  obtain ⟨rfl, rfl, rfl, rfl, rfl, ⟨hx, hb, hml, hown, hts⟩, hSK⟩ := X
  intro H locs ls hP hD hS hl
  exact lv_i2c hx hb d hv (kk H locs ls hP hD hS hl)
theorem kw_dup (X : KX Γ l rm D ty cc nL own w0) {v : Value} (d : decode cc pc = .ok (.dup, 1)) (hv : v.category = 1)
    (kk : KW Γ n z ws lo (pc + 1) (v :: v :: st)) : KW Γ n z ws lo pc (v :: st) := by
  obtain ⟨p, l', e, R, s, m, args, below, meth, c, Q, D', ty', AD, A, H0, nL'⟩ := Γ
  obtain ⟨rfl, rfl, rfl, rfl, rfl, ⟨hx, hb, hml, hown, hts⟩, hSK⟩ := X
  intro H locs ls hP hD hS hl
  exact lv_dup hx hb d hv (kk H locs ls hP hD hS hl)
theorem kw_dup2 (X : KX Γ l rm D ty cc nL own w0) {v w : Value} (d : decode cc pc = .ok (.dup2, 1)) (hv : v.category = 1) (hw : w.category = 1)
    (kk : KW Γ n z ws lo (pc + 1) (v :: w :: v :: w :: st)) : KW Γ n z ws lo pc (v :: w :: st) := by
  obtain ⟨p, l', e, R, s, m, args, below, meth, c, Q, D', ty', AD, A, H0, nL'⟩ := Γ
  obtain ⟨rfl, rfl, rfl, rfl, rfl, ⟨hx, hb, hml, hown, hts⟩, hSK⟩ := X
  intro H locs ls hP hD hS hl
  exact lv_dup2_11 hx hb d hv hw (kk H locs ls hP hD hS hl)
theorem kw_pop (X : KX Γ l rm D ty cc nL own w0) {v : Value} (d : decode cc pc = .ok (.pop, 1)) (hv : v.category = 1)
    (kk : KW Γ n z ws lo (pc + 1) st) : KW Γ n z ws lo pc (v :: st) := by
  obtain ⟨p, l', e, R, s, m, args, below, meth, c, Q, D', ty', AD, A, H0, nL'⟩ := Γ
  obtain ⟨rfl, rfl, rfl, rfl, rfl, ⟨hx, hb, hml, hown, hts⟩, hSK⟩ := X
  intro H locs ls hP hD hS hl
  exact lv_pop hx hb d hv (kk H locs ls hP hD hS hl)
theorem kw_null (X : KX Γ l rm D ty cc nL own w0) (d : decode cc pc = .ok (.aconst_null, 1))
    (kk : KW Γ n z ws lo (pc + 1) (.null :: st)) : KW Γ n z ws lo pc (st) := by
  obtain ⟨p, l', e, R, s, m, args, below, meth, c, Q, D', ty', AD, A, H0, nL'⟩ := Γ
  obtain ⟨rfl, rfl, rfl, rfl, rfl, ⟨hx, hb, hml, hown, hts⟩, hSK⟩ := X
  intro H locs ls hP hD hS hl
  exact lv_null hx hb d (kk H locs ls hP hD hS hl)
theorem kw_icmp_eq (X : KX Γ l rm D ty cc nL own w0) {x y : Int32} {off : Int} (tgt : Nat) (d : decode cc pc = .ok (.if_icmp .eq off, 3)) (ht : (pc : Int) + off = (tgt : Int)) (kt : (x = y) → KW Γ n z ws lo tgt st) (kf : ¬ (x = y) → KW Γ n z ws lo (pc + 3) st)
     : KW Γ n z ws lo pc (.int y :: .int x :: st) := by
  obtain ⟨p, l', e, R, s, m, args, below, meth, c, Q, D', ty', AD, A, H0, nL'⟩ := Γ
  obtain ⟨rfl, rfl, rfl, rfl, rfl, ⟨hx, hb, hml, hown, hts⟩, hSK⟩ := X
  intro H locs ls hP hD hS hl
  exact lv_icmp_eq hx hb d ht (fun q => kt q H locs ls hP hD hS hl) (fun q => kf q H locs ls hP hD hS hl)
theorem kw_if_eq (X : KX Γ l rm D ty cc nL own w0) {x : Int32} {off : Int} (tgt : Nat) (d : decode cc pc = .ok (.ifCond .eq off, 3)) (ht : (pc : Int) + off = (tgt : Int)) (kt : (x = 0) → KW Γ n z ws lo tgt st) (kf : ¬ (x = 0) → KW Γ n z ws lo (pc + 3) st)
     : KW Γ n z ws lo pc (.int x :: st) := by
  obtain ⟨p, l', e, R, s, m, args, below, meth, c, Q, D', ty', AD, A, H0, nL'⟩ := Γ
  obtain ⟨rfl, rfl, rfl, rfl, rfl, ⟨hx, hb, hml, hown, hts⟩, hSK⟩ := X
  intro H locs ls hP hD hS hl
  exact lv_if_eq hx hb d ht (fun q => kt q H locs ls hP hD hS hl) (fun q => kf q H locs ls hP hD hS hl)
theorem kw_icmp_ne (X : KX Γ l rm D ty cc nL own w0) {x y : Int32} {off : Int} (tgt : Nat) (d : decode cc pc = .ok (.if_icmp .ne off, 3)) (ht : (pc : Int) + off = (tgt : Int)) (kt : ¬ (x = y) → KW Γ n z ws lo tgt st) (kf : (x = y) → KW Γ n z ws lo (pc + 3) st)
     : KW Γ n z ws lo pc (.int y :: .int x :: st) := by
  obtain ⟨p, l', e, R, s, m, args, below, meth, c, Q, D', ty', AD, A, H0, nL'⟩ := Γ
  obtain ⟨rfl, rfl, rfl, rfl, rfl, ⟨hx, hb, hml, hown, hts⟩, hSK⟩ := X
  intro H locs ls hP hD hS hl
  exact lv_icmp_ne hx hb d ht (fun q => kt q H locs ls hP hD hS hl) (fun q => kf q H locs ls hP hD hS hl)
theorem kw_if_ne (X : KX Γ l rm D ty cc nL own w0) {x : Int32} {off : Int} (tgt : Nat) (d : decode cc pc = .ok (.ifCond .ne off, 3)) (ht : (pc : Int) + off = (tgt : Int)) (kt : ¬ (x = 0) → KW Γ n z ws lo tgt st) (kf : (x = 0) → KW Γ n z ws lo (pc + 3) st)
     : KW Γ n z ws lo pc (.int x :: st) := by
  obtain ⟨p, l', e, R, s, m, args, below, meth, c, Q, D', ty', AD, A, H0, nL'⟩ := Γ
  obtain ⟨rfl, rfl, rfl, rfl, rfl, ⟨hx, hb, hml, hown, hts⟩, hSK⟩ := X
  intro H locs ls hP hD hS hl
  exact lv_if_ne hx hb d ht (fun q => kt q H locs ls hP hD hS hl) (fun q => kf q H locs ls hP hD hS hl)
theorem kw_icmp_lt (X : KX Γ l rm D ty cc nL own w0) {x y : Int32} {off : Int} (tgt : Nat) (d : decode cc pc = .ok (.if_icmp .lt off, 3)) (ht : (pc : Int) + off = (tgt : Int)) (kt : (x < y) → KW Γ n z ws lo tgt st) (kf : ¬ (x < y) → KW Γ n z ws lo (pc + 3) st)
     : KW Γ n z ws lo pc (.int y :: .int x :: st) := by
  obtain ⟨p, l', e, R, s, m, args, below, meth, c, Q, D', ty', AD, A, H0, nL'⟩ := Γ
  obtain ⟨rfl, rfl, rfl, rfl, rfl, ⟨hx, hb, hml, hown, hts⟩, hSK⟩ := X
  intro H locs ls hP hD hS hl
  exact lv_icmp_lt hx hb d ht (fun q => kt q H locs ls hP hD hS hl) (fun q => kf q H locs ls hP hD hS hl)
theorem kw_if_lt (X : KX Γ l rm D ty cc nL own w0) {x : Int32} {off : Int} (tgt : Nat) (d : decode cc pc = .ok (.ifCond .lt off, 3)) (ht : (pc : Int) + off = (tgt : Int)) (kt : (x < 0) → KW Γ n z ws lo tgt st) (kf : ¬ (x < 0) → KW Γ n z ws lo (pc + 3) st)
     : KW Γ n z ws lo pc (.int x :: st) := by
  obtain ⟨p, l', e, R, s, m, args, below, meth, c, Q, D', ty', AD, A, H0, nL'⟩ := Γ
  obtain ⟨rfl, rfl, rfl, rfl, rfl, ⟨hx, hb, hml, hown, hts⟩, hSK⟩ := X
  intro H locs ls hP hD hS hl
  exact lv_if_lt hx hb d ht (fun q => kt q H locs ls hP hD hS hl) (fun q => kf q H locs ls hP hD hS hl)
theorem kw_icmp_ge (X : KX Γ l rm D ty cc nL own w0) {x y : Int32} {off : Int} (tgt : Nat) (d : decode cc pc = .ok (.if_icmp .ge off, 3)) (ht : (pc : Int) + off = (tgt : Int)) (kt : ¬ (x < y) → KW Γ n z ws lo tgt st) (kf : (x < y) → KW Γ n z ws lo (pc + 3) st)
     : KW Γ n z ws lo pc (.int y :: .int x :: st) := by
  obtain ⟨p, l', e, R, s, m, args, below, meth, c, Q, D', ty', AD, A, H0, nL'⟩ := Γ
  obtain ⟨rfl, rfl, rfl, rfl, rfl, ⟨hx, hb, hml, hown, hts⟩, hSK⟩ := X
  intro H locs ls hP hD hS hl
  exact lv_icmp_ge hx hb d ht (fun q => kt (Int32.not_lt.mpr q) H locs ls hP hD hS hl) (fun q => kf (Int32.not_le.mp q) H locs ls hP hD hS hl)
theorem kw_if_ge (X : KX Γ l rm D ty cc nL own w0) {x : Int32} {off : Int} (tgt : Nat) (d : decode cc pc = .ok (.ifCond .ge off, 3)) (ht : (pc : Int) + off = (tgt : Int)) (kt : ¬ (x < 0) → KW Γ n z ws lo tgt st) (kf : (x < 0) → KW Γ n z ws lo (pc + 3) st)
     : KW Γ n z ws lo pc (.int x :: st) := by
  obtain ⟨p, l', e, R, s, m, args, below, meth, c, Q, D', ty', AD, A, H0, nL'⟩ := Γ
  obtain ⟨rfl, rfl, rfl, rfl, rfl, ⟨hx, hb, hml, hown, hts⟩, hSK⟩ := X
  intro H locs ls hP hD hS hl
  exact lv_if_ge hx hb d ht (fun q => kt (Int32.not_lt.mpr q) H locs ls hP hD hS hl) (fun q => kf (Int32.not_le.mp q) H locs ls hP hD hS hl)
theorem kw_icmp_gt (X : KX Γ l rm D ty cc nL own w0) {x y : Int32} {off : Int} (tgt : Nat) (d : decode cc pc = .ok (.if_icmp .gt off, 3)) (ht : (pc : Int) + off = (tgt : Int)) (kt : (y < x) → KW Γ n z ws lo tgt st) (kf : ¬ (y < x) → KW Γ n z ws lo (pc + 3) st)
     : KW Γ n z ws lo pc (.int y :: .int x :: st) := by
  obtain ⟨p, l', e, R, s, m, args, below, meth, c, Q, D', ty', AD, A, H0, nL'⟩ := Γ
  obtain ⟨rfl, rfl, rfl, rfl, rfl, ⟨hx, hb, hml, hown, hts⟩, hSK⟩ := X
  intro H locs ls hP hD hS hl
  exact lv_icmp_gt hx hb d ht (fun q => kt q H locs ls hP hD hS hl) (fun q => kf q H locs ls hP hD hS hl)
theorem kw_if_gt (X : KX Γ l rm D ty cc nL own w0) {x : Int32} {off : Int} (tgt : Nat) (d : decode cc pc = .ok (.ifCond .gt off, 3)) (ht : (pc : Int) + off = (tgt : Int)) (kt : (0 < x) → KW Γ n z ws lo tgt st) (kf : ¬ (0 < x) → KW Γ n z ws lo (pc + 3) st)
     : KW Γ n z ws lo pc (.int x :: st) := by
  obtain ⟨p, l', e, R, s, m, args, below, meth, c, Q, D', ty', AD, A, H0, nL'⟩ := Γ
  obtain ⟨rfl, rfl, rfl, rfl, rfl, ⟨hx, hb, hml, hown, hts⟩, hSK⟩ := X
  intro H locs ls hP hD hS hl
  exact lv_if_gt hx hb d ht (fun q => kt q H locs ls hP hD hS hl) (fun q => kf q H locs ls hP hD hS hl)
theorem kw_icmp_le (X : KX Γ l rm D ty cc nL own w0) {x y : Int32} {off : Int} (tgt : Nat) (d : decode cc pc = .ok (.if_icmp .le off, 3)) (ht : (pc : Int) + off = (tgt : Int)) (kt : ¬ (y < x) → KW Γ n z ws lo tgt st) (kf : (y < x) → KW Γ n z ws lo (pc + 3) st)
     : KW Γ n z ws lo pc (.int y :: .int x :: st) := by
  obtain ⟨p, l', e, R, s, m, args, below, meth, c, Q, D', ty', AD, A, H0, nL'⟩ := Γ
  obtain ⟨rfl, rfl, rfl, rfl, rfl, ⟨hx, hb, hml, hown, hts⟩, hSK⟩ := X
  intro H locs ls hP hD hS hl
  exact lv_icmp_le hx hb d ht (fun q => kt (Int32.not_lt.mpr q) H locs ls hP hD hS hl) (fun q => kf (Int32.not_le.mp q) H locs ls hP hD hS hl)
theorem kw_if_le (X : KX Γ l rm D ty cc nL own w0) {x : Int32} {off : Int} (tgt : Nat) (d : decode cc pc = .ok (.ifCond .le off, 3)) (ht : (pc : Int) + off = (tgt : Int)) (kt : ¬ (0 < x) → KW Γ n z ws lo tgt st) (kf : (0 < x) → KW Γ n z ws lo (pc + 3) st)
     : KW Γ n z ws lo pc (.int x :: st) := by
  obtain ⟨p, l', e, R, s, m, args, below, meth, c, Q, D', ty', AD, A, H0, nL'⟩ := Γ
  obtain ⟨rfl, rfl, rfl, rfl, rfl, ⟨hx, hb, hml, hown, hts⟩, hSK⟩ := X
  intro H locs ls hP hD hS hl
  exact lv_if_le hx hb d ht (fun q => kt (Int32.not_lt.mpr q) H locs ls hP hD hS hl) (fun q => kf (Int32.not_le.mp q) H locs ls hP hD hS hl)
theorem kw_goto (X : KX Γ l rm D ty cc nL own w0) {off : Int} (tgt : Nat) (d : decode cc pc = .ok (.goto off, 3)) (ht : (pc : Int) + off = (tgt : Int))
    (kk : KW Γ n z ws lo tgt st) : KW Γ n z ws lo pc (st) := by
  obtain ⟨p, l', e, R, s, m, args, below, meth, c, Q, D', ty', AD, A, H0, nL'⟩ := Γ
  obtain ⟨rfl, rfl, rfl, rfl, rfl, ⟨hx, hb, hml, hown, hts⟩, hSK⟩ := X
  intro H locs ls hP hD hS hl
  exact lv_goto hx hb d ht (kk H locs ls hP hD hS hl)
theorem kw_ifnull (X : KX Γ l rm D ty cc nL own w0) {x : Nat} {off : Int} (d : decode cc pc = .ok (.ifnull off, 3))
    (kk : KW Γ n z ws lo (pc + 3) st) : KW Γ n z ws lo pc (.ref x :: st) := by
  obtain ⟨p, l', e, R, s, m, args, below, meth, c, Q, D', ty', AD, A, H0, nL'⟩ := Γ
  obtain ⟨rfl, rfl, rfl, rfl, rfl, ⟨hx, hb, hml, hown, hts⟩, hSK⟩ := X
  intro H locs ls hP hD hS hl
  exact lv_ifnull hx hb d (kk H locs ls hP hD hS hl)
theorem kw_ifnullN (X : KX Γ l rm D ty cc nL own w0) {off : Int} (tgt : Nat) (d : decode cc pc = .ok (.ifnull off, 3)) (ht : (pc : Int) + off = (tgt : Int))
    (kk : KW Γ n z ws lo tgt st) : KW Γ n z ws lo pc (.null :: st) := by
  obtain ⟨p, l', e, R, s, m, args, below, meth, c, Q, D', ty', AD, A, H0, nL'⟩ := Γ
  obtain ⟨rfl, rfl, rfl, rfl, rfl, ⟨hx, hb, hml, hown, hts⟩, hSK⟩ := X
  intro H locs ls hP hD hS hl
  exact lv_ifnullN hx hb d ht (kk H locs ls hP hD hS hl)
theorem kw_tblOut (X : KX Γ l rm D ty cc nL own w0) {dflt lo1 hi : Int} {offs : Array Int} {len : Nat} {x : Int32} (tgt : Nat) (d : decode cc pc = .ok (.tableswitch dflt lo1 hi offs, len)) (h : x.toInt < lo1 ∨ hi < x.toInt) (ht : (pc : Int) + dflt = (tgt : Int))
    (kk : KW Γ n z ws lo tgt st) : KW Γ n z ws lo pc (.int x :: st) := by
  obtain ⟨p, l', e, R, s, m, args, below, meth, c, Q, D', ty', AD, A, H0, nL'⟩ := Γ
  obtain ⟨rfl, rfl, rfl, rfl, rfl, ⟨hx, hb, hml, hown, hts⟩, hSK⟩ := X
  intro H locs ls hP hD hS hl
  exact lv_tableOut hx hb d h ht (kk H locs ls hP hD hS hl)
theorem kw_tblIn (X : KX Γ l rm D ty cc nL own w0) {dflt lo1 hi : Int} {offs : Array Int} {len : Nat} {x : Int32} {off : Int} (tgt : Nat) (d : decode cc pc = .ok (.tableswitch dflt lo1 hi offs, len)) (h1 : ¬ x.toInt < lo1) (h2 : ¬ hi < x.toInt) (ho : offs[(x.toInt - lo1).toNat]? = some off) (ht : (pc : Int) + off = (tgt : Int))
    (kk : KW Γ n z ws lo tgt st) : KW Γ n z ws lo pc (.int x :: st) := by
  obtain ⟨p, l', e, R, s, m, args, below, meth, c, Q, D', ty', AD, A, H0, nL'⟩ := Γ
  obtain ⟨rfl, rfl, rfl, rfl, rfl, ⟨hx, hb, hml, hown, hts⟩, hSK⟩ := X
  intro H locs ls hP hD hS hl
  exact lv_tableIn hx hb d h1 h2 ho ht (kk H locs ls hP hD hS hl)
theorem kw_lookup (X : KX Γ l rm D ty cc nL own w0) {dflt : Int} {ps : Array (Int × Int)} {len : Nat} {x : Int32} {off : Int} (tgt : Nat) (d : decode cc pc = .ok (.lookupswitch dflt ps, len)) (hp : (ps.toList.zip (ps.toList.drop 1)).all (fun (a, next) => a.1 < next.1) = true) (ho : Op.lookupswitch.offset ps.toList dflt x.toInt = off) (ht : (pc : Int) + off = (tgt : Int))
    (kk : KW Γ n z ws lo tgt st) : KW Γ n z ws lo pc (.int x :: st) := by
  obtain ⟨p, l', e, R, s, m, args, below, meth, c, Q, D', ty', AD, A, H0, nL'⟩ := Γ
  obtain ⟨rfl, rfl, rfl, rfl, rfl, ⟨hx, hb, hml, hown, hts⟩, hSK⟩ := X
  intro H locs ls hP hD hS hl
  exact lv_lookup hx hb d hp ho ht (kk H locs ls hP hD hS hl)
theorem kw_mmin (X : KX Γ l rm D ty cc nL own w0) {x y : Int32} {idx : Nat} (hlk : Cond.methodLink own idx Lib.Math.min.name ∈ GW) (hst : Cond.static Lib.Math.min.name ∈ GW) (hin : Cond.initialized "java/lang/Math" ∈ GW) (hcd : Cond.code Lib.Math.min.name Lib.Math.min.code 2 (some .int) ∈ GW) (hR : 1 ≤ rm.frames ∧ (st.map fun v => v.category).sum + 13 ≤ rm.locals) (hnz : n ≤ rm.cells ∧ z ≤ rm.slots) (d : decode cc pc = .ok (.invokestatic idx, 3))
    (kk : KW Γ n z ws lo (pc + 3) (.int (imin x y) :: st)) : KW Γ n z ws lo pc (.int y :: .int x :: st) := by
  obtain ⟨p, l', e, R, s, m, args, below, meth, c, Q, D', ty', AD, A, H0, nL'⟩ := Γ
  obtain ⟨rfl, rfl, rfl, rfl, rfl, ⟨hx, hb, hml, hown, hts⟩, hSK⟩ := X
  intro H locs ls hP hD hS hl
  exact va_mmin hx hb (hml.trans hl.1.symm) hown (gw_all hts hlk) (gw_all hts hst) (gw_all hts hin) (gw_all hts hcd) hR.1 hR.2 hnz.1 hnz.2 d (kk H locs ls hP hD hS hl)
theorem kw_mmax (X : KX Γ l rm D ty cc nL own w0) {x y : Int32} {idx : Nat} (hlk : Cond.methodLink own idx Lib.Math.max.name ∈ GW) (hst : Cond.static Lib.Math.max.name ∈ GW) (hin : Cond.initialized "java/lang/Math" ∈ GW) (hcd : Cond.code Lib.Math.max.name Lib.Math.max.code 2 (some .int) ∈ GW) (hR : 1 ≤ rm.frames ∧ (st.map fun v => v.category).sum + 13 ≤ rm.locals) (hnz : n ≤ rm.cells ∧ z ≤ rm.slots) (d : decode cc pc = .ok (.invokestatic idx, 3))
    (kk : KW Γ n z ws lo (pc + 3) (.int (imax x y) :: st)) : KW Γ n z ws lo pc (.int y :: .int x :: st) := by
  obtain ⟨p, l', e, R, s, m, args, below, meth, c, Q, D', ty', AD, A, H0, nL'⟩ := Γ
  obtain ⟨rfl, rfl, rfl, rfl, rfl, ⟨hx, hb, hml, hown, hts⟩, hSK⟩ := X
  intro H locs ls hP hD hS hl
  exact va_mmax hx hb (hml.trans hl.1.symm) hown (gw_all hts hlk) (gw_all hts hst) (gw_all hts hin) (gw_all hts hcd) hR.1 hR.2 hnz.1 hnz.2 d (kk H locs ls hP hD hS hl)
theorem kw_get (X : KX Γ l rm D ty cc nL own w0) {C : String} {F : u_T} {N ci idx a : Nat} {fs : List Value} {v : Value} (hin : ∀ w ∈ u_ws C F N, w ∈ GW) (q0 : Nat) (he : ws[q0]? = some (a, .inr (ci, fs))) (hc : vwCl[ci]? = some (C, F, N)) (k : Nat) (hk : k < N) (hCk : (F k).1 = C) (hlink : Cond.fieldLink own idx C (F k).2.1 (F k).2.2.1 ∈ GW) (hv : fs[k]? = some v) (d : decode cc pc = .ok (.getfield idx, 3))
    (kk : KW Γ n z ws lo (pc + 3) (v :: st)) : KW Γ n z ws lo pc (.ref a :: st) := by
  obtain ⟨p, l', e, R, s, m, args, below, meth, c, Q, D', ty', AD, A, H0, nL'⟩ := Γ
  obtain ⟨rfl, rfl, rfl, rfl, rfl, ⟨hx, hb, hml, hown, hts⟩, hSK⟩ := X
  intro H locs ls hP hD hS hl
  exact va_get hx hb (T := F) hts (fun w h => List.mem_cons_of_mem _ (hin w h)) hown hSK.1 hP q0 he hc k hk (gw_all hts hlink) (fun _ h => hCk ▸ h) hv d (kk H locs ls hP hD hS hl)
theorem kw_getN (X : KX Γ l rm D ty cc nL own w0) {C : String} {F : u_T} {N ci idx a : Nat} {fs : List Value} {host : String} {v : Value} (hin : ∀ w ∈ u_ws C F N, w ∈ GW) (q0 : Nat) (he : ws[q0]? = some (a, .inr (ci, fs))) (hc : vwCl[ci]? = some (C, F, N)) (k : Nat) (hk : k < N) (hCk : (F k).1 = C) (hlink : Cond.fieldLinkNest own idx C (F k).2.1 (F k).2.2.1 host ∈ NWL) (hv : fs[k]? = some v) (d : decode cc pc = .ok (.getfield idx, 3))
    (kk : KW Γ n z ws lo (pc + 3) (v :: st)) : KW Γ n z ws lo pc (.ref a :: st) := by
  obtain ⟨p, l', e, R, s, m, args, below, meth, c, Q, D', ty', AD, A, H0, nL'⟩ := Γ
  obtain ⟨rfl, rfl, rfl, rfl, rfl, ⟨hx, hb, hml, hown, hts⟩, hSK⟩ := X
  intro H locs ls hP hD hS hl
  exact va_getN hx hb (T := F) hts (fun w h => List.mem_cons_of_mem _ (hin w h)) hown hSK.1 hP q0 he hc k hk (va_Nw.use rfl (hSK.2.1 _ hlink)) (fun _ h => hCk ▸ h) hv d (kk H locs ls hP hD hS hl)
theorem kw_put (X : KX Γ l rm D ty cc nL own w0) {C : String} {F : u_T} {N ci idx a : Nat} {fs : List Value} {t : FieldType} {v : Value} (E : KE Γ) (hin : ∀ w ∈ u_ws C F N, w ∈ GW) (ty0 : Nat → FieldType) (hty : ∀ k, k < N → parseFieldDescriptor (F k).2.2.1 = some (ty0 k)) (hnm : ∀ a, a < N → ∀ b, b < N → a ≠ b → (F a).2.1 ≠ (F b).2.1) (q0 : Nat) (he : ws[q0]? = some (a, .inr (ci, fs))) (hc : vwCl[ci]? = some (C, F, N)) (k : Nat) (hk : k < N) (hCk : (F k).1 = C) (hlink : Cond.fieldLink own idx C (F k).2.1 (F k).2.2.1 ∈ GW) (hfin : (F k).2.2.2 = false) (hd : parseFieldDescriptor (F k).2.2.1 = some t) (hn : narrow t v = v) (hfit : fits t v = true) (hlen : k < fs.length) (hws : ws.set q0 (a, .inr (ci, fs.set k v)) = ws') (d : decode cc pc = .ok (.putfield idx, 3))
    (kk : KW Γ n z ws' lo (pc + 3) st) : KW Γ n z ws lo pc (v :: .ref a :: st) := by
  obtain ⟨p, l', e, R, s, m, args, below, meth, c, Q, D', ty', AD, A, H0, nL'⟩ := Γ
  obtain ⟨rfl, rfl, rfl, rfl, rfl, ⟨hx, hb, hml, hown, hts⟩, hSK⟩ := X
  intro H locs ls hP hD hS hl
  obtain ⟨rfl, hA⟩ := E
  subst hws
  exact va_put hx hb (T := F) hts (fun w h => List.mem_cons_of_mem _ (hin w h)) ty0 hty hnm hown hSK.1 hP hD hS q0 he hc k hk (gw_all hts hlink) (fun _ h => hCk ▸ h) hfin  hd hn hfit hlen d (fun H1 locs1 hP1 hD1 hS1 => kk H1 locs1 ls hP1 hD1 hS1 hl)
theorem kw_putN (X : KX Γ l rm D ty cc nL own w0) {C : String} {F : u_T} {N ci idx a : Nat} {fs : List Value} {host : String} {t : FieldType} {v : Value} (E : KE Γ) (hin : ∀ w ∈ u_ws C F N, w ∈ GW) (ty0 : Nat → FieldType) (hty : ∀ k, k < N → parseFieldDescriptor (F k).2.2.1 = some (ty0 k)) (hnm : ∀ a, a < N → ∀ b, b < N → a ≠ b → (F a).2.1 ≠ (F b).2.1) (q0 : Nat) (he : ws[q0]? = some (a, .inr (ci, fs))) (hc : vwCl[ci]? = some (C, F, N)) (k : Nat) (hk : k < N) (hCk : (F k).1 = C) (hlink : Cond.fieldLinkNest own idx C (F k).2.1 (F k).2.2.1 host ∈ NWL) (hfin : (F k).2.2.2 = false) (hd : parseFieldDescriptor (F k).2.2.1 = some t) (hn : narrow t v = v) (hfit : fits t v = true) (hlen : k < fs.length) (hws : ws.set q0 (a, .inr (ci, fs.set k v)) = ws') (d : decode cc pc = .ok (.putfield idx, 3))
    (kk : KW Γ n z ws' lo (pc + 3) st) : KW Γ n z ws lo pc (v :: .ref a :: st) := by
  obtain ⟨p, l', e, R, s, m, args, below, meth, c, Q, D', ty', AD, A, H0, nL'⟩ := Γ
  obtain ⟨rfl, rfl, rfl, rfl, rfl, ⟨hx, hb, hml, hown, hts⟩, hSK⟩ := X
  intro H locs ls hP hD hS hl
  obtain ⟨rfl, hA⟩ := E
  subst hws
  exact va_putN hx hb (T := F) hts (fun w h => List.mem_cons_of_mem _ (hin w h)) ty0 hty hnm hown hSK.1 hP hD hS q0 he hc k hk (va_Nw.use rfl (hSK.2.1 _ hlink)) (fun _ h => hCk ▸ h) hfin  hd hn hfit hlen d (fun H1 locs1 hP1 hD1 hS1 => kk H1 locs1 ls hP1 hD1 hS1 hl)
theorem kw_putF (X : KX Γ l rm D ty cc nL own w0) {C : String} {F : u_T} {N ci idx a : Nat} {fs : List Value} {t : FieldType} {v : Value} (E : KE Γ) (hin : ∀ w ∈ u_ws C F N, w ∈ GW) (ty0 : Nat → FieldType) (hty : ∀ k, k < N → parseFieldDescriptor (F k).2.2.1 = some (ty0 k)) (hnm : ∀ a, a < N → ∀ b, b < N → a ≠ b → (F a).2.1 ≠ (F b).2.1) (q0 : Nat) (he : ws[q0]? = some (a, .inr (ci, fs))) (hc : vwCl[ci]? = some (C, F, N)) (k : Nat) (hk : k < N) (hCk : (F k).1 = C) (hN : KN Γ) (hown0 : C = own) (hlink : Cond.fieldLink own idx C (F k).2.1 (F k).2.2.1 ∈ GW) (hfin : (F k).2.2.2 = true) (hd : parseFieldDescriptor (F k).2.2.1 = some t) (hn : narrow t v = v) (hfit : fits t v = true) (hlen : k < fs.length) (hws : ws.set q0 (a, .inr (ci, fs.set k v)) = ws') (d : decode cc pc = .ok (.putfield idx, 3))
    (kk : KW Γ n z ws' lo (pc + 3) st) : KW Γ n z ws lo pc (v :: .ref a :: st) := by
  obtain ⟨p, l', e, R, s, m, args, below, meth, c, Q, D', ty', AD, A, H0, nL'⟩ := Γ
  obtain ⟨rfl, rfl, rfl, rfl, rfl, ⟨hx, hb, hml, hown, hts⟩, hSK⟩ := X
  intro H locs ls hP hD hS hl
  obtain ⟨rfl, hA⟩ := E
  subst hws
  exact va_putF hx hb (T := F) hts (fun w h => List.mem_cons_of_mem _ (hin w h)) ty0 hty hnm hown hSK.1 hP hD hS q0 he hc k hk (gw_all hts hlink) (fun _ h => hCk ▸ h) hfin hN (hCk.trans hown0) hd hn hfit hlen d (fun H1 locs1 hP1 hD1 hS1 => kk H1 locs1 ls hP1 hD1 hS1 hl)
theorem kw_iald (X : KX Γ l rm D ty cc nL own w0) {a : Nat} {cA : ClassId} {N : Nat} {f : Nat → Int32} {i v : Int32} (q0 t0 : Nat) (ha : ws[q0]? = some (a, .inl (cA, N, .inl f))) (ht : ty[t0]? = some (cA, .int)) (hin : vp_in i N) (hv : f i.toNatClampNeg = v) (d : decode cc pc = .ok (.iaload, 1))
    (kk : KW Γ n z ws lo (pc + 1) (.int v :: st)) : KW Γ n z ws lo pc (.int i :: .ref a :: st) := by
  obtain ⟨p, l', e, R, s, m, args, below, meth, c, Q, D', ty', AD, A, H0, nL'⟩ := Γ
  obtain ⟨rfl, rfl, rfl, rfl, rfl, ⟨hx, hb, hml, hown, hts⟩, hSK⟩ := X
  intro H locs ls hP hD hS hl
  subst hv
  exact va_iald hx hb hSK.1 hP q0 t0 ha ht hin d (kk H locs ls hP hD hS hl)
theorem kw_cald (X : KX Γ l rm D ty cc nL own w0) {a : Nat} {cA : ClassId} {N : Nat} {f : Nat → Int32} {i v : Int32} (q0 t0 : Nat) (ha : ws[q0]? = some (a, .inl (cA, N, .inl f))) (ht : ty[t0]? = some (cA, .char)) (hin : vp_in i N) (hv : f i.toNatClampNeg = v) (d : decode cc pc = .ok (.caload, 1))
    (kk : KW Γ n z ws lo (pc + 1) (.int v :: st)) : KW Γ n z ws lo pc (.int i :: .ref a :: st) := by
  obtain ⟨p, l', e, R, s, m, args, below, meth, c, Q, D', ty', AD, A, H0, nL'⟩ := Γ
  obtain ⟨rfl, rfl, rfl, rfl, rfl, ⟨hx, hb, hml, hown, hts⟩, hSK⟩ := X
  intro H locs ls hP hD hS hl
  subst hv
  exact va_cald hx hb hSK.1 hP q0 t0 ha ht hin d (kk H locs ls hP hD hS hl)
theorem kw_aald (X : KX Γ l rm D ty cc nL own w0) {a : Nat} {cA : ClassId} {C : String} {N : Nat} {f : Nat → Option Nat} {i : Int32} (q0 t0 : Nat) (ha : ws[q0]? = some (a, .inl (cA, N, .inr (.inr (.inr (.inr f)))))) (ht : ty[t0]? = some (cA, .object C)) (hin : vp_in i N) (d : decode cc pc = .ok (.aaload, 1))
    (kk : KW Γ n z ws lo (pc + 1) (va_rf (f i.toNatClampNeg) :: st)) : KW Γ n z ws lo pc (.int i :: .ref a :: st) := by
  obtain ⟨p, l', e, R, s, m, args, below, meth, c, Q, D', ty', AD, A, H0, nL'⟩ := Γ
  obtain ⟨rfl, rfl, rfl, rfl, rfl, ⟨hx, hb, hml, hown, hts⟩, hSK⟩ := X
  intro H locs ls hP hD hS hl
  exact va_aldq hx hb hSK.1 hP q0 t0 ha ht hin d (kk H locs ls hP hD hS hl)
theorem kw_iast (X : KX Γ l rm D ty cc nL own w0) {a : Nat} {cA : ClassId} {N : Nat} {f : Nat → Int32} {i x : Int32} (E : KE Γ) (q0 t0 : Nat) (ha : ws[q0]? = some (a, .inl (cA, N, .inl f))) (ht : ty[t0]? = some (cA, .int)) (hin : vp_in i N) (hws : ws.set q0 (a, .inl (cA, N, .inl (upd f i.toNatClampNeg x))) = ws') (d : decode cc pc = .ok (.iastore, 1))
    (kk : KW Γ n z ws' lo (pc + 1) st) : KW Γ n z ws lo pc (.int x :: .int i :: .ref a :: st) := by
  obtain ⟨p, l', e, R, s, m, args, below, meth, c, Q, D', ty', AD, A, H0, nL'⟩ := Γ
  obtain ⟨rfl, rfl, rfl, rfl, rfl, ⟨hx, hb, hml, hown, hts⟩, hSK⟩ := X
  intro H locs ls hP hD hS hl
  obtain ⟨rfl, hA⟩ := E
  subst hws
  exact va_iast hx hb hSK.1 hP hD hS q0 t0 ha ht hin d (fun H1 locs1 hP1 hD1 hS1 => kk H1 locs1 ls hP1 hD1 hS1 hl)
theorem kw_cast (X : KX Γ l rm D ty cc nL own w0) {a : Nat} {cA : ClassId} {N : Nat} {f : Nat → Int32} {i x : Int32} (E : KE Γ) (q0 t0 : Nat) (ha : ws[q0]? = some (a, .inl (cA, N, .inl f))) (ht : ty[t0]? = some (cA, .char)) (hin : vp_in i N) (hws : ws.set q0 (a, .inl (cA, N, .inl (upd f i.toNatClampNeg (vp_nar .char x)))) = ws') (d : decode cc pc = .ok (.castore, 1))
    (kk : KW Γ n z ws' lo (pc + 1) st) : KW Γ n z ws lo pc (.int x :: .int i :: .ref a :: st) := by
  obtain ⟨p, l', e, R, s, m, args, below, meth, c, Q, D', ty', AD, A, H0, nL'⟩ := Γ
  obtain ⟨rfl, rfl, rfl, rfl, rfl, ⟨hx, hb, hml, hown, hts⟩, hSK⟩ := X
  intro H locs ls hP hD hS hl
  obtain ⟨rfl, hA⟩ := E
  subst hws
  exact va_cast hx hb hSK.1 hP hD hS q0 t0 ha ht hin d (fun H1 locs1 hP1 hD1 hS1 => kk H1 locs1 ls hP1 hD1 hS1 hl)
theorem kw_aast (X : KX Γ l rm D ty cc nL own w0) {a v : Nat} {cA : ClassId} {r : vw_C} {N ci : Nat} {vs : List Value} {f : Nat → Option Nat} {i : Int32} (E : KE Γ) (q0 t0 qk : Nat) (ha : ws[q0]? = some (a, .inl (cA, N, .inr (.inr (.inr (.inr f)))))) (ht : ty[t0]? = some (cA, .object r.1)) (hv : ws[qk]? = some (v, .inr (ci, vs))) (hc : vwCl[ci]? = some r) (hin : vp_in i N) (hws : ws.set q0 (a, .inl (cA, N, .inr (.inr (.inr (.inr (va_up f i.toNatClampNeg (some v))))))) = ws') (d : decode cc pc = .ok (.aastore, 1))
    (kk : KW Γ n z ws' lo (pc + 1) st) : KW Γ n z ws lo pc (.ref v :: .int i :: .ref a :: st) := by
  obtain ⟨p, l', e, R, s, m, args, below, meth, c, Q, D', ty', AD, A, H0, nL'⟩ := Γ
  obtain ⟨rfl, rfl, rfl, rfl, rfl, ⟨hx, hb, hml, hown, hts⟩, hSK⟩ := X
  intro H locs ls hP hD hS hl
  obtain ⟨rfl, hA⟩ := E
  subst hws
  exact va_astq hx hb hSK.1 hP hD hS q0 t0 qk ci ha ht hv hc hin d (fun H1 locs1 hP1 hD1 hS1 => kk H1 locs1 ls hP1 hD1 hS1 hl)
theorem kw_alen (X : KX Γ l rm D ty cc nL own w0) {a : Nat} {cA : ClassId} {x : vp_A} {v : Int32} {t : FieldType} (q0 t0 : Nat) (ha : ws[q0]? = some (a, .inl (cA, x))) (ht : ty[t0]? = some (cA, t)) (hv : Int32.ofNat x.1 = v) (d : decode cc pc = .ok (.arraylength, 1))
    (kk : KW Γ n z ws lo (pc + 1) (.int v :: st)) : KW Γ n z ws lo pc (.ref a :: st) := by
  obtain ⟨p, l', e, R, s, m, args, below, meth, c, Q, D', ty', AD, A, H0, nL'⟩ := Γ
  obtain ⟨rfl, rfl, rfl, rfl, rfl, ⟨hx, hb, hml, hown, hts⟩, hSK⟩ := X
  intro H locs ls hP hD hS hl
  exact va_alen hx hb hSK.1 hP q0 t0 ha ht hv d (kk H locs ls hP hD hS hl)
theorem gw_sub {w1 : Cond} (h : w1 ∈ GW) : GoodIn (w0 :: GW) (w1 :: GW) := by
  intro w hw
  rcases List.mem_cons.mp hw with rfl | hw
  · exact ⟨List.mem_cons_of_mem _ h, gw_good _ h⟩
  · exact ⟨List.mem_cons_of_mem _ hw, gw_good _ hw⟩
def VL (own : String) (idx : Nat) (C : String) (y : MethodName) (cy : ByteArray) (my : Nat) (ry : Option FieldType) : Prop := (Cond.methodLink own idx y ∈ GW ∧ Cond.instanceMethod y ∈ GW ∧ Cond.selects C y y ∈ GW ∧ Cond.initialized C ∈ GW) ∧ Cond.code y cy my ry ∈ GW
def SL (own : String) (idx : Nat) (y : MethodName) (cy : ByteArray) (my : Nat) (ry : Option FieldType) : Prop := (Cond.methodLink own idx y ∈ GW ∧ Cond.static y ∈ GW ∧ Cond.initialized own ∈ GW) ∧ Cond.code y cy my ry ∈ GW
theorem gw_V {idx my : Nat} {C : String} {y : MethodName} {cy : ByteArray} {ry : Option FieldType} (h : VL own idx C y cy my ry) : GoodIn (w0 :: GW) (wsV own idx C y (mws y cy my ry)) := by
  intro w hw
  rcases List.mem_append.mp hw with hw | hw
  · simp only [List.mem_cons, List.mem_nil_iff, or_false, List.not_mem_nil] at hw
    rcases hw with rfl | rfl | rfl | rfl
    · exact ⟨List.mem_cons_of_mem _ h.1.1, gw_good _ h.1.1⟩
    · exact ⟨List.mem_cons_of_mem _ h.1.2.1, gw_good _ h.1.2.1⟩
    · exact ⟨List.mem_cons_of_mem _ h.1.2.2.1, gw_good _ h.1.2.2.1⟩
    · exact ⟨List.mem_cons_of_mem _ h.1.2.2.2, gw_good _ h.1.2.2.2⟩
  · exact gw_sub h.2 w hw
theorem gw_S {idx my : Nat} {y : MethodName} {cy : ByteArray} {ry : Option FieldType} (h : SL own idx y cy my ry) : GoodIn (w0 :: GW) (wsS own idx y (mws y cy my ry)) := by
  intro w hw
  rcases List.mem_append.mp hw with hw | hw
  · simp only [List.mem_cons, List.mem_nil_iff, or_false, List.not_mem_nil] at hw
    rcases hw with rfl | rfl | rfl
    · exact ⟨List.mem_cons_of_mem _ h.1.1, gw_good _ h.1.1⟩
    · exact ⟨List.mem_cons_of_mem _ h.1.2.1, gw_good _ h.1.2.1⟩
    · exact ⟨List.mem_cons_of_mem _ h.1.2.2, gw_good _ h.1.2.2⟩
  · exact gw_sub h.2 w hw
def YV (y : MethodName) (C : String) (n : Nat) : Prop := y.cls = C ∧ y.cls ≠ "java/lang/invoke/MethodHandle" ∧ y.cls ≠ "java/lang/invoke/VarHandle" ∧ (parseMethodDescriptor y.desc).map (fun d => d.parameters.length) = some n
/-- cells put back at their places -/
def wput : va_W → List Nat → va_W → va_W
  | ws, i :: is, x :: xs => wput (ws.set i x) is xs
  | ws, _, _ => ws
theorem wput_fst : ∀ (is : List Nat) (xs ws : va_W), (∀ (k i : Nat) (x : Nat × va_E), is[k]? = some i → xs[k]? = some x → (ws[i]?).map (·.1) = some x.1) → (wput ws is xs).map (·.1) = ws.map (·.1)
  | [], xs, ws, _ => by cases xs <;> rfl
  | i :: is, [], ws, _ => rfl
  | i :: is, x :: xs, ws, h => by
    have h0 := h 0 i x rfl rfl
    have e : (ws.set i x).map (·.1) = ws.map (·.1) := by
      apply List.ext_getElem?
      intro j
      rw [List.getElem?_map, List.getElem?_map, List.getElem?_set]
      by_cases hj : i = j
      · subst hj
        by_cases hl : i < ws.length
        · rw [if_pos rfl, if_pos hl, h0]; rfl
        · rw [if_pos rfl, if_neg hl, List.getElem?_eq_none (by omega)]
      · rw [if_neg hj]
    show (wput (ws.set i x) is xs).map (·.1) = _
    rw [wput_fst is xs (ws.set i x) ?_, e]
    intro k i' x' h1 h2
    have h3 := h (k + 1) i' x' h1 h2
    rw [← List.getElem?_map] at h3 ⊢
    rw [e]
    exact h3
theorem wput_get : ∀ (is : List Nat) (xs ws : va_W), va_nd is = true → ∀ (j : Nat) (q : Nat × va_E), (wput ws is xs)[j]? = some q → (∃ k : Nat, is[k]? = some j ∧ xs[k]? = some q) ∨ ((j ∉ is ∨ xs.length < is.length) ∧ ws[j]? = some q)
  | [], xs, ws, _, j, q, h => by cases xs <;> exact Or.inr ⟨Or.inl (by simp), h⟩
  | i :: is, [], ws, _, j, q, h => Or.inr ⟨Or.inr (by simp), h⟩
  | i :: is, x :: xs, ws, hn, j, q, h => by
    simp only [va_nd, Bool.and_eq_true, decide_eq_true_eq] at hn
    rcases wput_get is xs (ws.set i x) hn.2 j q h with ⟨k, h1, h2⟩ | ⟨h1, h2⟩
    · exact Or.inl ⟨k + 1, h1, h2⟩
    · rw [List.getElem?_set] at h2
      by_cases hj : i = j
      · subst hj
        rw [if_pos rfl] at h2
        by_cases hl : i < ws.length
        · rw [if_pos hl] at h2
          exact Or.inl ⟨0, rfl, h2⟩
        · rw [if_neg hl] at h2; cases h2
      · rw [if_neg hj] at h2
        refine Or.inr ⟨?_, h2⟩
        rcases h1 with h1 | h1
        · left; intro hm; rcases List.mem_cons.mp hm with rfl | hm
          · exact hj rfl
          · exact h1 hm
        · right; simp only [List.length_cons]; omega
theorem va_D_fst {A : Nat → Prop} {w1 w2 : va_W} (h : w1.map (·.1) = w2.map (·.1)) (hD : va_D A w1) : va_D A w2 := by
  have key : ∀ (k : Nat) (q : Nat × va_E), w2[k]? = some q → ∃ q', w1[k]? = some q' ∧ q'.1 = q.1 := by
    intro k q hq
    have h1 : (w1.map (·.1))[k]? = some q.1 := by rw [h, List.getElem?_map, hq]; rfl
    rw [List.getElem?_map] at h1
    cases hw : w1[k]? with
    | none => rw [hw] at h1; cases h1
    | some q' => rw [hw] at h1; exact ⟨q', rfl, Option.some.inj h1⟩
  refine ⟨fun i j p q hi hj hpq => ?_, fun k q hk => ?_⟩
  · obtain ⟨p', h1, h2⟩ := key i p hi
    obtain ⟨q', h3, h4⟩ := key j q hj
    exact hD.1 i j p' q' h1 h3 (h2.trans (hpq.trans h4.symm))
  · obtain ⟨q', h1, h2⟩ := key k q hk
    rw [← h2]; exact hD.2 k q' h1
/-- behind a call: what came back, at its places, beside the rest -/
theorem wput_join {A0 : Nat → Prop} {D : va_G} {cl : List vw_C} {ws wc w1 : va_W} {H H1 : Heap} (hP : va_P D cl ws H) (hD : va_D A0 ws) (isC : List Nat) (hC : isC.map (fun i => ws[i]?) = wc.map some) (hn : va_nd isC = true) (hf : w1.map (·.1) = wc.map (·.1))
    (hk : ∀ q : Nat, q < H.size → ¬ va_A wc H.size q → H1[q]? = H[q]?) (hP1 : va_P D cl w1 H1) : va_P D cl (wput ws isC w1) H1 ∧ va_D A0 (wput ws isC w1) := by
  have at' : ∀ (k : Nat) (q : Nat × va_E), wc[k]? = some q → ∃ i, isC[k]? = some i ∧ ws[i]? = some q := by
    intro k q hq
    have h1 : (isC.map (fun i => ws[i]?))[k]? = some (some q) := by rw [hC, List.getElem?_map, hq]; rfl
    rw [List.getElem?_map] at h1
    cases hi : isC[k]? with
    | none => rw [hi] at h1; cases h1
    | some i => rw [hi] at h1; exact ⟨i, rfl, Option.some.inj h1⟩
  have hlen : w1.length = isC.length := by
    have h1 := congrArg List.length hf
    have h2 := congrArg List.length hC
    simp only [List.length_map] at h1 h2
    omega
  refine ⟨fun j q hq => ?_, ?_⟩
  · rcases wput_get isC w1 ws hn j q hq with ⟨k, h1, h2⟩ | ⟨h1, h2⟩
    · exact hP1 k q h2
    · have hj : j ∉ isC := by
        rcases h1 with h1 | h1
        · exact h1
        · omega
      refine (hP j q h2).kept (hk q.1 (hP j q h2).lt ?_)
      intro hA
      rcases hA with ⟨k, e, hA⟩ | hA
      · obtain ⟨i, h3, h4⟩ := at' k (q.1, e) hA
        have := hD.1 j i q (q.1, e) h2 h4 rfl
        subst this
        exact hj (List.mem_of_getElem? h3)
      · have := (hP j q h2).lt
        omega
  · refine va_D_fst (w1 := ws) ?_ hD
    rw [wput_fst isC w1 ws ?_]
    intro k i x h1 h2
    have h3 : (wc.map (·.1))[k]? = some x.1 := by rw [← hf, List.getElem?_map, h2]; rfl
    rw [List.getElem?_map] at h3
    cases hw : wc[k]? with
    | none => rw [hw] at h3; cases h3
    | some q =>
      rw [hw] at h3
      obtain ⟨i', h4, h5⟩ := at' k q hw
      rw [h1] at h4; cases h4
      rw [h5]; exact h3
/-- behind a call that changes nothing -/
theorem kw_backP {p : Program} {l : Launch} {e : Env} {R : Room} {s : State} {m : MethodId} {args : Array Value} {below : List Frame} {meth : Method} {c : Code} {H : Heap} {locs : List Loc} {cells slots : Nat} {Q : State → Prop} {A : Nat → Prop} {H0 : Heap} {D : va_G} {ls : Array Slot} {stk : List Value} {v : Value}
    (hr : va_Run p l e R s m args below meth c H locs cells slots 0 0 (F0 m pc ls stk) st (fun st oc t => oc = .returned (some v) ∧ va_F (fun _ => False) st t) (fun _ => False)) (hP : va_P D vwCl ws H) (hS : va_S A H0 H locs)
    (kk : ∀ (H1 : Heap) (locs1 : List Loc), va_P D vwCl ws H1 → va_S A H0 H1 locs1 → W p l e R s m args below meth c H1 locs1 cells slots Q (F0 m (pc + 3) ls (v :: st))) : W p l e R s m args below meth c H locs cells slots Q (F0 m pc ls stk) := by
  intro T hT X
  obtain ⟨v', st₀, t, T', L, h0, X', hL, e1, e2, ⟨hv, hz, hk⟩, stp⟩ := hr T hT X
  cases hv
  rw [h0] at hz hk
  have hk' : ∀ q : Nat, q < H.size → T'.heap[q]? = H[q]? := fun q h => by rw [e1]; exact hk q h (fun h => h)
  have hz' : H.size ≤ T'.heap.size := by rw [e1]; exact hz
  obtain ⟨t2, a1, b1⟩ := kk T'.heap (locs ++ L) (hP.kept (fun k q hq => hk' q.1 (hP k q hq).lt)) ⟨Nat.le_trans hS.1 hz', fun q h1 h2 => (hk' q (Nat.lt_of_lt_of_le h1 hS.1)).trans (hS.2.1 q h1 h2), fun q hq => by
    rcases List.mem_append.mp hq with h | h
    · exact hS.2.2 q h
    · exact (hL q h).elim⟩ T' rfl X'
  exact ⟨t2, stp t2 a1, b1⟩
/-- behind a call that changes its own cells alone -/
theorem kw_backE {p : Program} {l : Launch} {e : Env} {R : Room} {s : State} {m : MethodId} {args : Array Value} {below : List Frame} {meth : Method} {c : Code} {H : Heap} {locs : List Loc} {cells slots mc ms : Nat} {Q : State → Prop} {A : Nat → Prop} {H0 : Heap} {ls : Array Slot} {stk : List Value} {v : Option Value} {wc : va_W} {P1 : State → Prop}
    (hr : va_Run p l e R s m args below meth c H locs cells slots mc ms (F0 m pc ls stk) st (fun st oc t => (oc = .returned v ∧ P1 t) ∧ va_F (va_A wc H.size) st t) (va_A wc H.size)) (hS : va_S A H0 H locs) (hF : ∀ q, va_A wc H.size q → A q)
    (kk : ∀ (t : State) (H1 : Heap) (locs1 : List Loc), t.heap = H1 → P1 t → H.size ≤ H1.size → (∀ q : Nat, q < H.size → ¬ va_A wc H.size q → H1[q]? = H[q]?) → va_S A H0 H1 locs1 → W p l e R s m args below meth c H1 locs1 (cells + mc) (slots + ms) Q (F0 m (pc + 3) ls (v.toList ++ st))) : W p l e R s m args below meth c H locs cells slots Q (F0 m pc ls stk) := by
  intro T hT X
  obtain ⟨v', st₀, t, T', L, h0, X', hL, e1, e2, ⟨⟨hv, hp⟩, hz, hk⟩, stp⟩ := hr T hT X
  cases hv
  rw [h0] at hz hk
  have hz' : H.size ≤ T'.heap.size := by rw [e1]; exact hz
  have hk' : ∀ q : Nat, q < H.size → ¬ va_A wc H.size q → T'.heap[q]? = H[q]? := fun q h h2 => by rw [e1]; exact hk q h h2
  obtain ⟨t2, a1, b1⟩ := kk t T'.heap (locs ++ L) e1.symm hp hz' hk' ⟨Nat.le_trans hS.1 hz', fun q h1 h2 => (hk' q (Nat.lt_of_lt_of_le h1 hS.1) (fun z => h2 (hF q z))).trans (hS.2.1 q h1 h2), fun q hq => by
    rcases List.mem_append.mp hq with h | h
    · exact hS.2.2 q h
    · exact hF _ (hL q h)⟩ T' rfl X'
  exact ⟨t2, stp t2 a1, b1⟩
theorem kw_vp (X : KX Γ l rm D ty cc nL own w0) {y : MethodName} {cy : ByteArray} {my idx b ci k : Nat} {ry : Option FieldType} {rc : Room} {C : String} {F : u_T} {N : Nat} {fs : List Value} {As stk : List Value} {wc : va_W} {r : Value} (hM : MPi l y cy my ry rc D ty (.ref b :: As) wc r) (vl : VL own idx C y cy my ry) (hd : YV y C k) (hR : rc.frames + 1 ≤ rm.frames ∧ 8 + (my + 11) + rc.locals ≤ rm.locals) (hR0 : rc.cells = 0 ∧ rc.slots = 0) (hnz : n ≤ rm.cells ∧ z ≤ rm.slots) (q0 : Nat) (he : ws[q0]? = some (b, .inr (ci, fs))) (hc : vwCl[ci]? = some (C, F, N)) (isC : List Nat) (hn : va_nd isC = true) (hC : isC.map (fun i => ws[i]?) = wc.map some) (hst : stk = As.reverse ++ .ref b :: st) (hAs : As.length = k) (hcat : (st.map fun v => v.category).sum ≤ 8) (d : decode cc pc = .ok (.invokevirtual idx, 3))
    (kk : KW Γ n z ws lo (pc + 3) (r :: st)) : KW Γ n z ws lo pc stk := by
  obtain ⟨p, l', e, R, s, m, args, below, meth, c, Q, D', ty', AD, A, H0, nL'⟩ := Γ
  obtain ⟨rfl, rfl, rfl, rfl, rfl, ⟨hx, hb, hml, hown, hts⟩, hSK⟩ := X
  intro H locs ls hP hD hS hl
  subst hst
  have hC2 : isC.filterMap (fun i => ws[i]?) = wc := by
    have h := congrArg (fun l => l.filterMap id) hC
    simpa [List.filterMap_map, Function.comp_def] using h
  have hPc := hP.sub isC hC2
  have hDc : va_D (fun _ => True) wc := (hD.sub isC hn hC).weaken (fun _ _ _ _ => trivial)
  exact kw_backP (va_runV (As := As) (rest := st) ⟨hx, hb, hml, hown, hts⟩ (hM) (cwV k hts (gw_V vl) rfl hR0.1 hR0.2 hd hR) ⟨fun a U g mk q => by obtain ⟨q0, q1, q2, q3⟩ := q; exact ⟨q0, q1, q2.calling g mk a, q3⟩, va_recv hSK.1 hP hc he, fun U hU hW => ⟨rfl, by rw [hU]; exact hPc, hSK.moved hW, hDc⟩⟩ rfl hAs hl.1 rfl (lv_room hcat) d ⟨hnz.1, hnz.2⟩) hP hS (fun H1 locs1 hP1 hS1 => kk H1 locs1 ls hP1 hD hS1 hl)
theorem kw_sp (X : KX Γ l rm D ty cc nL own w0) {y : MethodName} {cy : ByteArray} {my idx k : Nat} {ry : Option FieldType} {rc : Room} {As stk : List Value} {wc : va_W} {r : Value} (hM : MPi l y cy my ry rc D ty As wc r) (vl : SL own idx y cy my ry) (hd : YV y own k) (hR : rc.frames + 1 ≤ rm.frames ∧ 8 + (my + 11) + rc.locals ≤ rm.locals) (hR0 : rc.cells = 0 ∧ rc.slots = 0) (hnz : n ≤ rm.cells ∧ z ≤ rm.slots) (isC : List Nat) (hn : va_nd isC = true) (hC : isC.map (fun i => ws[i]?) = wc.map some) (hst : stk = As.reverse ++ st) (hAs : As.length = k) (hcat : (st.map fun v => v.category).sum ≤ 8) (d : decode cc pc = .ok (.invokestatic idx, 3))
    (kk : KW Γ n z ws lo (pc + 3) (r :: st)) : KW Γ n z ws lo pc stk := by
  obtain ⟨p, l', e, R, s, m, args, below, meth, c, Q, D', ty', AD, A, H0, nL'⟩ := Γ
  obtain ⟨rfl, rfl, rfl, rfl, rfl, ⟨hx, hb, hml, hown, hts⟩, hSK⟩ := X
  intro H locs ls hP hD hS hl
  subst hst
  have hC2 : isC.filterMap (fun i => ws[i]?) = wc := by
    have h := congrArg (fun l => l.filterMap id) hC
    simpa [List.filterMap_map, Function.comp_def] using h
  have hPc := hP.sub isC hC2
  have hDc : va_D (fun _ => True) wc := (hD.sub isC hn hC).weaken (fun _ _ _ _ => trivial)
  exact kw_backP (va_runS (As := As) (rest := st) ⟨hx, hb, hml, hown, hts⟩ (hM) (cwS k hts (gw_S vl) rfl hR0.1 hR0.2 hd hR) ⟨fun a U g mk q => by obtain ⟨q0, q1, q2, q3⟩ := q; exact ⟨q0, q1, q2.calling g mk a, q3⟩, fun U hU hW => ⟨rfl, by rw [hU]; exact hPc, hSK.moved hW, hDc⟩⟩ rfl hAs hl.1 rfl (lv_room hcat) d ⟨hnz.1, hnz.2⟩) hP hS (fun H1 locs1 hP1 hS1 => kk H1 locs1 ls hP1 hD hS1 hl)
theorem kw_snp (X : KX Γ l rm D ty cc nL own w0) {y : MethodName} {cy : ByteArray} {my idx k : Nat} {ry : Option FieldType} {rc : Room} {As stk : List Value} {wc : va_W} {host : String} {r : Value} (hM : MPi l y cy my ry rc D ty As wc r) (hlk : Cond.methodLinkNest own idx y host ∈ NWL) (vl : (Cond.static y ∈ GW ∧ Cond.initialized y.cls ∈ GW) ∧ Cond.code y cy my ry ∈ GW) (hd : YV y y.cls k) (hR : rc.frames + 1 ≤ rm.frames ∧ 8 + (my + 11) + rc.locals ≤ rm.locals) (hR0 : rc.cells = 0 ∧ rc.slots = 0) (hnz : n ≤ rm.cells ∧ z ≤ rm.slots) (isC : List Nat) (hn : va_nd isC = true) (hC : isC.map (fun i => ws[i]?) = wc.map some) (hst : stk = As.reverse ++ st) (hAs : As.length = k) (hcat : (st.map fun v => v.category).sum ≤ 8) (d : decode cc pc = .ok (.invokestatic idx, 3))
    (kk : KW Γ n z ws lo (pc + 3) (r :: st)) : KW Γ n z ws lo pc stk := by
  obtain ⟨p, l', e, R, s, m, args, below, meth, c, Q, D', ty', AD, A, H0, nL'⟩ := Γ
  obtain ⟨rfl, rfl, rfl, rfl, rfl, ⟨hx, hb, hml, hown, hts⟩, hSK⟩ := X
  intro H locs ls hP hD hS hl
  subst hst
  have hC2 : isC.filterMap (fun i => ws[i]?) = wc := by
    have h := congrArg (fun l => l.filterMap id) hC
    simpa [List.filterMap_map, Function.comp_def] using h
  have hPc := hP.sub isC hC2
  have hDc : va_D (fun _ => True) wc := (hD.sub isC hn hC).weaken (fun _ _ _ _ => trivial)
  exact kw_backP (va_runSN (As := As) (rest := st) ⟨hx, hb, hml, hown, hts⟩ (hM) ⟨va_cnB k hts (gw_sub vl.2) rfl hR0.1 hR0.2 (hSK.2.1 _ hlk) (gw_all hts vl.1.2) hd.2 hR, gw_all hts vl.1.1, trivial⟩ ⟨fun a U g mk q => by obtain ⟨q0, q1, q2, q3⟩ := q; exact ⟨q0, q1, q2.calling g mk a, q3⟩, fun U hU hW => ⟨rfl, by rw [hU]; exact hPc, hSK.moved hW, hDc⟩⟩ rfl hAs hl.1 rfl (lv_room hcat) d ⟨hnz.1, hnz.2⟩) hP hS (fun H1 locs1 hP1 hS1 => kk H1 locs1 ls hP1 hD hS1 hl)
theorem kw_vei (X : KX Γ l rm D ty cc nL own w0) {y : MethodName} {cy : ByteArray} {my idx b ci k : Nat} {ry : Option FieldType} {rc : Room} {C : String} {F : u_T} {N : Nat} {fs : List Value} {As stk : List Value} {wc : va_W} {w1 : va_W} {r : Value} (E : KE Γ) (hM : MEq l y cy my ry rc D ty (.ref b :: As) wc w1 (some r)) (vl : VL own idx C y cy my ry) (hd : YV y C k) (hR : rc.frames + 1 ≤ rm.frames ∧ 8 + (my + 11) + rc.locals ≤ rm.locals) (hR0 : rc.cells = 0 ∧ rc.slots = 0) (hnz : n ≤ rm.cells ∧ z ≤ rm.slots) (q0 : Nat) (he : ws[q0]? = some (b, .inr (ci, fs))) (hc : vwCl[ci]? = some (C, F, N)) (isC : List Nat) (hn : va_nd isC = true) (hC : isC.map (fun i => ws[i]?) = wc.map some) (hst : stk = As.reverse ++ .ref b :: st) (hAs : As.length = k) (hcat : (st.map fun v => v.category).sum ≤ 8) (d : decode cc pc = .ok (.invokevirtual idx, 3)) (as : List Nat) (hf1 : w1.map (·.1) = as) (hf2 : wc.map (·.1) = as) (hws : wput ws isC w1 = ws')
    (kk : KW Γ n z ws' lo (pc + 3) (r :: st)) : KW Γ n z ws lo pc stk := by
  obtain ⟨p, l', e, R, s, m, args, below, meth, c, Q, D', ty', AD, A, H0, nL'⟩ := Γ
  obtain ⟨rfl, rfl, rfl, rfl, rfl, ⟨hx, hb, hml, hown, hts⟩, hSK⟩ := X
  intro H locs ls hP hD hS hl
  obtain ⟨rfl, hA⟩ := E
  subst hst
  have hC2 : isC.filterMap (fun i => ws[i]?) = wc := by
    have h := congrArg (fun l => l.filterMap id) hC
    simpa [List.filterMap_map, Function.comp_def] using h
  have hPc := hP.sub isC hC2
  have hDc : va_D (fun _ => True) wc := (hD.sub isC hn hC).weaken (fun _ _ _ _ => trivial)
  have hF := va_free (wc := wc) hD hS hA isC hC
  exact kw_backE (mc := 0) (ms := 0) (va_runV (As := As) (rest := st) ⟨hx, hb, hml, hown, hts⟩ (hM H.size) (cwV k hts (gw_V vl) rfl hR0.1 hR0.2 hd hR) ⟨fun a U g mk q => by obtain ⟨q0, q4, q1, q2, q3⟩ := q; exact ⟨q0, q4, q1, q2.calling g mk a, q3⟩, va_recv hSK.1 hP hc he, fun U hU hW => ⟨rfl, by rw [hU], by rw [hU]; exact hPc, hSK.moved hW, hDc⟩⟩ rfl hAs hl.1 rfl (lv_room hcat) d ⟨hnz.1, hnz.2⟩) hS hF (fun t H1 locs1 ht hB hz hk hS1 => by
    obtain ⟨hP1, hD1⟩ := hB
    rw [ht] at hP1
    obtain ⟨hP2, hD2⟩ := wput_join hP hD isC hC hn (hf1.trans hf2.symm) hk hP1
    rw [hws] at hP2 hD2
    exact kk H1 locs1 ls hP2 hD2 hS1 hl)
theorem kw_vev (X : KX Γ l rm D ty cc nL own w0) {y : MethodName} {cy : ByteArray} {my idx b ci k : Nat} {ry : Option FieldType} {rc : Room} {C : String} {F : u_T} {N : Nat} {fs : List Value} {As stk : List Value} {wc : va_W} {w1 : va_W} (E : KE Γ) (hM : MEq l y cy my ry rc D ty (.ref b :: As) wc w1 none) (vl : VL own idx C y cy my ry) (hd : YV y C k) (hR : rc.frames + 1 ≤ rm.frames ∧ 8 + (my + 11) + rc.locals ≤ rm.locals) (hR0 : rc.cells = 0 ∧ rc.slots = 0) (hnz : n ≤ rm.cells ∧ z ≤ rm.slots) (q0 : Nat) (he : ws[q0]? = some (b, .inr (ci, fs))) (hc : vwCl[ci]? = some (C, F, N)) (isC : List Nat) (hn : va_nd isC = true) (hC : isC.map (fun i => ws[i]?) = wc.map some) (hst : stk = As.reverse ++ .ref b :: st) (hAs : As.length = k) (hcat : (st.map fun v => v.category).sum ≤ 8) (d : decode cc pc = .ok (.invokevirtual idx, 3)) (as : List Nat) (hf1 : w1.map (·.1) = as) (hf2 : wc.map (·.1) = as) (hws : wput ws isC w1 = ws')
    (kk : KW Γ n z ws' lo (pc + 3) st) : KW Γ n z ws lo pc stk := by
  obtain ⟨p, l', e, R, s, m, args, below, meth, c, Q, D', ty', AD, A, H0, nL'⟩ := Γ
  obtain ⟨rfl, rfl, rfl, rfl, rfl, ⟨hx, hb, hml, hown, hts⟩, hSK⟩ := X
  intro H locs ls hP hD hS hl
  obtain ⟨rfl, hA⟩ := E
  subst hst
  have hC2 : isC.filterMap (fun i => ws[i]?) = wc := by
    have h := congrArg (fun l => l.filterMap id) hC
    simpa [List.filterMap_map, Function.comp_def] using h
  have hPc := hP.sub isC hC2
  have hDc : va_D (fun _ => True) wc := (hD.sub isC hn hC).weaken (fun _ _ _ _ => trivial)
  have hF := va_free (wc := wc) hD hS hA isC hC
  exact kw_backE (mc := 0) (ms := 0) (va_runV (As := As) (rest := st) ⟨hx, hb, hml, hown, hts⟩ (hM H.size) (cwV k hts (gw_V vl) rfl hR0.1 hR0.2 hd hR) ⟨fun a U g mk q => by obtain ⟨q0, q4, q1, q2, q3⟩ := q; exact ⟨q0, q4, q1, q2.calling g mk a, q3⟩, va_recv hSK.1 hP hc he, fun U hU hW => ⟨rfl, by rw [hU], by rw [hU]; exact hPc, hSK.moved hW, hDc⟩⟩ rfl hAs hl.1 rfl (lv_room hcat) d ⟨hnz.1, hnz.2⟩) hS hF (fun t H1 locs1 ht hB hz hk hS1 => by
    obtain ⟨hP1, hD1⟩ := hB
    rw [ht] at hP1
    obtain ⟨hP2, hD2⟩ := wput_join hP hD isC hC hn (hf1.trans hf2.symm) hk hP1
    rw [hws] at hP2 hD2
    exact kk H1 locs1 ls hP2 hD2 hS1 hl)
end KR
def pl1 {t1 : Type} {g : Type} (a : t1) (k : t1 → g) : g := k a
theorem pl1_ex {t1 : Type} {g : Type} {a : t1} {k : t1 → g} {r : g} (h : pl1 a k = r) : ∃ x1, a = x1 ∧ k x1 = r := ⟨a, rfl, h⟩
def ob1 {t1 : Type} {g : Type} (a : Option (t1)) (k : t1 → Option g) : Option g := a.bind (fun v => k v)
theorem ob1_ex {t1 : Type} {g : Type} {a : Option (t1)} {k : t1 → Option g} {r : g} (h : ob1 a k = some r) : ∃ x1, a = some x1 ∧ k x1 = some r := by
  unfold ob1 at h
  cases a with
  | none => cases h
  | some v => exact ⟨v, rfl, h⟩
def pl2 {t1 : Type} {t2 : Type} {g : Type} (a : t1 × t2) (k : t1 → t2 → g) : g := k a.1 a.2
theorem pl2_ex {t1 : Type} {t2 : Type} {g : Type} {a : t1 × t2} {k : t1 → t2 → g} {r : g} (h : pl2 a k = r) : ∃ x1 x2, a = (x1, x2) ∧ k x1 x2 = r := ⟨a.1, a.2, rfl, h⟩
def ob2 {t1 : Type} {t2 : Type} {g : Type} (a : Option (t1 × t2)) (k : t1 → t2 → Option g) : Option g := a.bind (fun v => k v.1 v.2)
theorem ob2_ex {t1 : Type} {t2 : Type} {g : Type} {a : Option (t1 × t2)} {k : t1 → t2 → Option g} {r : g} (h : ob2 a k = some r) : ∃ x1 x2, a = some (x1, x2) ∧ k x1 x2 = some r := by
  unfold ob2 at h
  cases a with
  | none => cases h
  | some v => exact ⟨v.1, v.2, rfl, h⟩
def pl3 {t1 : Type} {t2 : Type} {t3 : Type} {g : Type} (a : t1 × t2 × t3) (k : t1 → t2 → t3 → g) : g := k a.1 a.2.1 a.2.2
theorem pl3_ex {t1 : Type} {t2 : Type} {t3 : Type} {g : Type} {a : t1 × t2 × t3} {k : t1 → t2 → t3 → g} {r : g} (h : pl3 a k = r) : ∃ x1 x2 x3, a = (x1, x2, x3) ∧ k x1 x2 x3 = r := ⟨a.1, a.2.1, a.2.2, rfl, h⟩
def ob3 {t1 : Type} {t2 : Type} {t3 : Type} {g : Type} (a : Option (t1 × t2 × t3)) (k : t1 → t2 → t3 → Option g) : Option g := a.bind (fun v => k v.1 v.2.1 v.2.2)
theorem ob3_ex {t1 : Type} {t2 : Type} {t3 : Type} {g : Type} {a : Option (t1 × t2 × t3)} {k : t1 → t2 → t3 → Option g} {r : g} (h : ob3 a k = some r) : ∃ x1 x2 x3, a = some (x1, x2, x3) ∧ k x1 x2 x3 = some r := by
  unfold ob3 at h
  cases a with
  | none => cases h
  | some v => exact ⟨v.1, v.2.1, v.2.2, rfl, h⟩
def pl4 {t1 : Type} {t2 : Type} {t3 : Type} {t4 : Type} {g : Type} (a : t1 × t2 × t3 × t4) (k : t1 → t2 → t3 → t4 → g) : g := k a.1 a.2.1 a.2.2.1 a.2.2.2
theorem pl4_ex {t1 : Type} {t2 : Type} {t3 : Type} {t4 : Type} {g : Type} {a : t1 × t2 × t3 × t4} {k : t1 → t2 → t3 → t4 → g} {r : g} (h : pl4 a k = r) : ∃ x1 x2 x3 x4, a = (x1, x2, x3, x4) ∧ k x1 x2 x3 x4 = r := ⟨a.1, a.2.1, a.2.2.1, a.2.2.2, rfl, h⟩
def ob4 {t1 : Type} {t2 : Type} {t3 : Type} {t4 : Type} {g : Type} (a : Option (t1 × t2 × t3 × t4)) (k : t1 → t2 → t3 → t4 → Option g) : Option g := a.bind (fun v => k v.1 v.2.1 v.2.2.1 v.2.2.2)
theorem ob4_ex {t1 : Type} {t2 : Type} {t3 : Type} {t4 : Type} {g : Type} {a : Option (t1 × t2 × t3 × t4)} {k : t1 → t2 → t3 → t4 → Option g} {r : g} (h : ob4 a k = some r) : ∃ x1 x2 x3 x4, a = some (x1, x2, x3, x4) ∧ k x1 x2 x3 x4 = some r := by
  unfold ob4 at h
  cases a with
  | none => cases h
  | some v => exact ⟨v.1, v.2.1, v.2.2.1, v.2.2.2, rfl, h⟩
def pl5 {t1 : Type} {t2 : Type} {t3 : Type} {t4 : Type} {t5 : Type} {g : Type} (a : t1 × t2 × t3 × t4 × t5) (k : t1 → t2 → t3 → t4 → t5 → g) : g := k a.1 a.2.1 a.2.2.1 a.2.2.2.1 a.2.2.2.2
theorem pl5_ex {t1 : Type} {t2 : Type} {t3 : Type} {t4 : Type} {t5 : Type} {g : Type} {a : t1 × t2 × t3 × t4 × t5} {k : t1 → t2 → t3 → t4 → t5 → g} {r : g} (h : pl5 a k = r) : ∃ x1 x2 x3 x4 x5, a = (x1, x2, x3, x4, x5) ∧ k x1 x2 x3 x4 x5 = r := ⟨a.1, a.2.1, a.2.2.1, a.2.2.2.1, a.2.2.2.2, rfl, h⟩
def ob5 {t1 : Type} {t2 : Type} {t3 : Type} {t4 : Type} {t5 : Type} {g : Type} (a : Option (t1 × t2 × t3 × t4 × t5)) (k : t1 → t2 → t3 → t4 → t5 → Option g) : Option g := a.bind (fun v => k v.1 v.2.1 v.2.2.1 v.2.2.2.1 v.2.2.2.2)
theorem ob5_ex {t1 : Type} {t2 : Type} {t3 : Type} {t4 : Type} {t5 : Type} {g : Type} {a : Option (t1 × t2 × t3 × t4 × t5)} {k : t1 → t2 → t3 → t4 → t5 → Option g} {r : g} (h : ob5 a k = some r) : ∃ x1 x2 x3 x4 x5, a = some (x1, x2, x3, x4, x5) ∧ k x1 x2 x3 x4 x5 = some r := by
  unfold ob5 at h
  cases a with
  | none => cases h
  | some v => exact ⟨v.1, v.2.1, v.2.2.1, v.2.2.2.1, v.2.2.2.2, rfl, h⟩
def pl6 {t1 : Type} {t2 : Type} {t3 : Type} {t4 : Type} {t5 : Type} {t6 : Type} {g : Type} (a : t1 × t2 × t3 × t4 × t5 × t6) (k : t1 → t2 → t3 → t4 → t5 → t6 → g) : g := k a.1 a.2.1 a.2.2.1 a.2.2.2.1 a.2.2.2.2.1 a.2.2.2.2.2
theorem pl6_ex {t1 : Type} {t2 : Type} {t3 : Type} {t4 : Type} {t5 : Type} {t6 : Type} {g : Type} {a : t1 × t2 × t3 × t4 × t5 × t6} {k : t1 → t2 → t3 → t4 → t5 → t6 → g} {r : g} (h : pl6 a k = r) : ∃ x1 x2 x3 x4 x5 x6, a = (x1, x2, x3, x4, x5, x6) ∧ k x1 x2 x3 x4 x5 x6 = r := ⟨a.1, a.2.1, a.2.2.1, a.2.2.2.1, a.2.2.2.2.1, a.2.2.2.2.2, rfl, h⟩
def ob6 {t1 : Type} {t2 : Type} {t3 : Type} {t4 : Type} {t5 : Type} {t6 : Type} {g : Type} (a : Option (t1 × t2 × t3 × t4 × t5 × t6)) (k : t1 → t2 → t3 → t4 → t5 → t6 → Option g) : Option g := a.bind (fun v => k v.1 v.2.1 v.2.2.1 v.2.2.2.1 v.2.2.2.2.1 v.2.2.2.2.2)
theorem ob6_ex {t1 : Type} {t2 : Type} {t3 : Type} {t4 : Type} {t5 : Type} {t6 : Type} {g : Type} {a : Option (t1 × t2 × t3 × t4 × t5 × t6)} {k : t1 → t2 → t3 → t4 → t5 → t6 → Option g} {r : g} (h : ob6 a k = some r) : ∃ x1 x2 x3 x4 x5 x6, a = some (x1, x2, x3, x4, x5, x6) ∧ k x1 x2 x3 x4 x5 x6 = some r := by
  unfold ob6 at h
  cases a with
  | none => cases h
  | some v => exact ⟨v.1, v.2.1, v.2.2.1, v.2.2.2.1, v.2.2.2.2.1, v.2.2.2.2.2, rfl, h⟩
def pl7 {t1 : Type} {t2 : Type} {t3 : Type} {t4 : Type} {t5 : Type} {t6 : Type} {t7 : Type} {g : Type} (a : t1 × t2 × t3 × t4 × t5 × t6 × t7) (k : t1 → t2 → t3 → t4 → t5 → t6 → t7 → g) : g := k a.1 a.2.1 a.2.2.1 a.2.2.2.1 a.2.2.2.2.1 a.2.2.2.2.2.1 a.2.2.2.2.2.2
theorem pl7_ex {t1 : Type} {t2 : Type} {t3 : Type} {t4 : Type} {t5 : Type} {t6 : Type} {t7 : Type} {g : Type} {a : t1 × t2 × t3 × t4 × t5 × t6 × t7} {k : t1 → t2 → t3 → t4 → t5 → t6 → t7 → g} {r : g} (h : pl7 a k = r) : ∃ x1 x2 x3 x4 x5 x6 x7, a = (x1, x2, x3, x4, x5, x6, x7) ∧ k x1 x2 x3 x4 x5 x6 x7 = r := ⟨a.1, a.2.1, a.2.2.1, a.2.2.2.1, a.2.2.2.2.1, a.2.2.2.2.2.1, a.2.2.2.2.2.2, rfl, h⟩
def ob7 {t1 : Type} {t2 : Type} {t3 : Type} {t4 : Type} {t5 : Type} {t6 : Type} {t7 : Type} {g : Type} (a : Option (t1 × t2 × t3 × t4 × t5 × t6 × t7)) (k : t1 → t2 → t3 → t4 → t5 → t6 → t7 → Option g) : Option g := a.bind (fun v => k v.1 v.2.1 v.2.2.1 v.2.2.2.1 v.2.2.2.2.1 v.2.2.2.2.2.1 v.2.2.2.2.2.2)
theorem ob7_ex {t1 : Type} {t2 : Type} {t3 : Type} {t4 : Type} {t5 : Type} {t6 : Type} {t7 : Type} {g : Type} {a : Option (t1 × t2 × t3 × t4 × t5 × t6 × t7)} {k : t1 → t2 → t3 → t4 → t5 → t6 → t7 → Option g} {r : g} (h : ob7 a k = some r) : ∃ x1 x2 x3 x4 x5 x6 x7, a = some (x1, x2, x3, x4, x5, x6, x7) ∧ k x1 x2 x3 x4 x5 x6 x7 = some r := by
  unfold ob7 at h
  cases a with
  | none => cases h
  | some v => exact ⟨v.1, v.2.1, v.2.2.1, v.2.2.2.1, v.2.2.2.2.1, v.2.2.2.2.2.1, v.2.2.2.2.2.2, rfl, h⟩
def pl8 {t1 : Type} {t2 : Type} {t3 : Type} {t4 : Type} {t5 : Type} {t6 : Type} {t7 : Type} {t8 : Type} {g : Type} (a : t1 × t2 × t3 × t4 × t5 × t6 × t7 × t8) (k : t1 → t2 → t3 → t4 → t5 → t6 → t7 → t8 → g) : g := k a.1 a.2.1 a.2.2.1 a.2.2.2.1 a.2.2.2.2.1 a.2.2.2.2.2.1 a.2.2.2.2.2.2.1 a.2.2.2.2.2.2.2
theorem pl8_ex {t1 : Type} {t2 : Type} {t3 : Type} {t4 : Type} {t5 : Type} {t6 : Type} {t7 : Type} {t8 : Type} {g : Type} {a : t1 × t2 × t3 × t4 × t5 × t6 × t7 × t8} {k : t1 → t2 → t3 → t4 → t5 → t6 → t7 → t8 → g} {r : g} (h : pl8 a k = r) : ∃ x1 x2 x3 x4 x5 x6 x7 x8, a = (x1, x2, x3, x4, x5, x6, x7, x8) ∧ k x1 x2 x3 x4 x5 x6 x7 x8 = r := ⟨a.1, a.2.1, a.2.2.1, a.2.2.2.1, a.2.2.2.2.1, a.2.2.2.2.2.1, a.2.2.2.2.2.2.1, a.2.2.2.2.2.2.2, rfl, h⟩
def ob8 {t1 : Type} {t2 : Type} {t3 : Type} {t4 : Type} {t5 : Type} {t6 : Type} {t7 : Type} {t8 : Type} {g : Type} (a : Option (t1 × t2 × t3 × t4 × t5 × t6 × t7 × t8)) (k : t1 → t2 → t3 → t4 → t5 → t6 → t7 → t8 → Option g) : Option g := a.bind (fun v => k v.1 v.2.1 v.2.2.1 v.2.2.2.1 v.2.2.2.2.1 v.2.2.2.2.2.1 v.2.2.2.2.2.2.1 v.2.2.2.2.2.2.2)
theorem ob8_ex {t1 : Type} {t2 : Type} {t3 : Type} {t4 : Type} {t5 : Type} {t6 : Type} {t7 : Type} {t8 : Type} {g : Type} {a : Option (t1 × t2 × t3 × t4 × t5 × t6 × t7 × t8)} {k : t1 → t2 → t3 → t4 → t5 → t6 → t7 → t8 → Option g} {r : g} (h : ob8 a k = some r) : ∃ x1 x2 x3 x4 x5 x6 x7 x8, a = some (x1, x2, x3, x4, x5, x6, x7, x8) ∧ k x1 x2 x3 x4 x5 x6 x7 x8 = some r := by
  unfold ob8 at h
  cases a with
  | none => cases h
  | some v => exact ⟨v.1, v.2.1, v.2.2.1, v.2.2.2.1, v.2.2.2.2.1, v.2.2.2.2.2.1, v.2.2.2.2.2.2.1, v.2.2.2.2.2.2.2, rfl, h⟩
def pl9 {t1 : Type} {t2 : Type} {t3 : Type} {t4 : Type} {t5 : Type} {t6 : Type} {t7 : Type} {t8 : Type} {t9 : Type} {g : Type} (a : t1 × t2 × t3 × t4 × t5 × t6 × t7 × t8 × t9) (k : t1 → t2 → t3 → t4 → t5 → t6 → t7 → t8 → t9 → g) : g := k a.1 a.2.1 a.2.2.1 a.2.2.2.1 a.2.2.2.2.1 a.2.2.2.2.2.1 a.2.2.2.2.2.2.1 a.2.2.2.2.2.2.2.1 a.2.2.2.2.2.2.2.2
theorem pl9_ex {t1 : Type} {t2 : Type} {t3 : Type} {t4 : Type} {t5 : Type} {t6 : Type} {t7 : Type} {t8 : Type} {t9 : Type} {g : Type} {a : t1 × t2 × t3 × t4 × t5 × t6 × t7 × t8 × t9} {k : t1 → t2 → t3 → t4 → t5 → t6 → t7 → t8 → t9 → g} {r : g} (h : pl9 a k = r) : ∃ x1 x2 x3 x4 x5 x6 x7 x8 x9, a = (x1, x2, x3, x4, x5, x6, x7, x8, x9) ∧ k x1 x2 x3 x4 x5 x6 x7 x8 x9 = r := ⟨a.1, a.2.1, a.2.2.1, a.2.2.2.1, a.2.2.2.2.1, a.2.2.2.2.2.1, a.2.2.2.2.2.2.1, a.2.2.2.2.2.2.2.1, a.2.2.2.2.2.2.2.2, rfl, h⟩
def ob9 {t1 : Type} {t2 : Type} {t3 : Type} {t4 : Type} {t5 : Type} {t6 : Type} {t7 : Type} {t8 : Type} {t9 : Type} {g : Type} (a : Option (t1 × t2 × t3 × t4 × t5 × t6 × t7 × t8 × t9)) (k : t1 → t2 → t3 → t4 → t5 → t6 → t7 → t8 → t9 → Option g) : Option g := a.bind (fun v => k v.1 v.2.1 v.2.2.1 v.2.2.2.1 v.2.2.2.2.1 v.2.2.2.2.2.1 v.2.2.2.2.2.2.1 v.2.2.2.2.2.2.2.1 v.2.2.2.2.2.2.2.2)
theorem ob9_ex {t1 : Type} {t2 : Type} {t3 : Type} {t4 : Type} {t5 : Type} {t6 : Type} {t7 : Type} {t8 : Type} {t9 : Type} {g : Type} {a : Option (t1 × t2 × t3 × t4 × t5 × t6 × t7 × t8 × t9)} {k : t1 → t2 → t3 → t4 → t5 → t6 → t7 → t8 → t9 → Option g} {r : g} (h : ob9 a k = some r) : ∃ x1 x2 x3 x4 x5 x6 x7 x8 x9, a = some (x1, x2, x3, x4, x5, x6, x7, x8, x9) ∧ k x1 x2 x3 x4 x5 x6 x7 x8 x9 = some r := by
  unfold ob9 at h
  cases a with
  | none => cases h
  | some v => exact ⟨v.1, v.2.1, v.2.2.1, v.2.2.2.1, v.2.2.2.2.1, v.2.2.2.2.2.1, v.2.2.2.2.2.2.1, v.2.2.2.2.2.2.2.1, v.2.2.2.2.2.2.2.2, rfl, h⟩
theorem none_some {a : Type} {v : a} {P : Prop} (h : none = some v) : P := by cases h
def aget (N : Nat) (f : Nat → Int32) (i : Int32) : Option Int32 := if i < 0 ∨ N ≤ i.toNatClampNeg then none else some (f i.toNatClampNeg)
def aset (N : Nat) (f : Nat → Int32) (i x : Int32) : Option (Nat → Int32) := if i < 0 ∨ N ≤ i.toNatClampNeg then none else some (upd f i.toNatClampNeg x)
def odiv (x y : Int32) : Option Int32 := if y = 0 then none else some (x / y)
theorem aget_ex {N : Nat} {f : Nat → Int32} {i v : Int32} (h : aget N f i = some v) : vp_in i N ∧ f i.toNatClampNeg = v := by
  unfold aget at h
  split at h
  · cases h
  · next q => exact ⟨q, Option.some.inj h⟩
theorem aset_ex {N : Nat} {f f' : Nat → Int32} {i x : Int32} (h : aset N f i x = some f') : vp_in i N ∧ upd f i.toNatClampNeg x = f' := by
  unfold aset at h
  split at h
  · cases h
  · next q => exact ⟨q, Option.some.inj h⟩
theorem odiv_ex {x y v : Int32} (h : odiv x y = some v) : ¬ y = 0 ∧ x / y = v := by
  unfold odiv at h
  split at h
  · cases h
  · next q => exact ⟨q, Option.some.inj h⟩
theorem vp_ok {i : Int32} {N : Nat} (h0 : ¬ i < 0) (h1 : i < nI N) (hN : N < 2 ^ 31) : vp_in i N := by
  rw [vp_in_iff]
  have e1 := Int32.not_lt.mp h0
  rw [Int32.le_iff_toInt_le] at e1
  rw [Int32.lt_iff_toInt_lt, nI_toInt hN] at h1
  exact ⟨by simpa using e1, h1⟩
theorem ne_toInt {x k : Int32} {n : Int} (h : ¬ x = k) (hk : k.toInt = n) : x.toInt ≠ n := fun e => h (Int32.toInt_inj.mp (e.trans hk.symm))
end
section
def IL (own : String) (idx : Nat) (C : String) (y : MethodName) (cy : ByteArray) (my : Nat) : Prop := (Cond.methodLink own idx y ∈ GW ∧ Cond.instanceMethod y ∈ GW ∧ Cond.initialized C ∈ GW) ∧ Cond.code y cy my none ∈ GW
theorem ci_m1 : Int32.ofInt (-1) = (-1) := by decide
theorem ci_0 : Int32.ofInt (0) = 0 := by decide
theorem ci_1 : Int32.ofInt (1) = 1 := by decide
theorem ci_2 : Int32.ofInt (2) = 2 := by decide
theorem ci_3 : Int32.ofInt (3) = 3 := by decide
theorem ci_4 : Int32.ofInt (4) = 4 := by decide
theorem ci_5 : Int32.ofInt (5) = 5 := by decide
theorem cb_m10 : (Int8.ofInt (-10)).toInt32 = (-10) := by decide
theorem cb_m9 : (Int8.ofInt (-9)).toInt32 = (-9) := by decide
theorem cb_m3 : (Int8.ofInt (-3)).toInt32 = (-3) := by decide
theorem cb_m2 : (Int8.ofInt (-2)).toInt32 = (-2) := by decide
theorem cb_7 : (Int8.ofInt (7)).toInt32 = 7 := by decide
theorem cb_8 : (Int8.ofInt (8)).toInt32 = 8 := by decide
theorem cb_9 : (Int8.ofInt (9)).toInt32 = 9 := by decide
theorem cb_10 : (Int8.ofInt (10)).toInt32 = 10 := by decide
theorem cb_11 : (Int8.ofInt (11)).toInt32 = 11 := by decide
theorem cb_12 : (Int8.ofInt (12)).toInt32 = 12 := by decide
theorem cb_16 : (Int8.ofInt (16)).toInt32 = 16 := by decide
theorem cb_20 : (Int8.ofInt (20)).toInt32 = 20 := by decide
theorem cb_22 : (Int8.ofInt (22)).toInt32 = 22 := by decide
theorem cb_23 : (Int8.ofInt (23)).toInt32 = 23 := by decide
theorem cb_24 : (Int8.ofInt (24)).toInt32 = 24 := by decide
theorem cb_31 : (Int8.ofInt (31)).toInt32 = 31 := by decide
theorem cb_32 : (Int8.ofInt (32)).toInt32 = 32 := by decide
theorem cb_40 : (Int8.ofInt (40)).toInt32 = 40 := by decide
theorem cb_44 : (Int8.ofInt (44)).toInt32 = 44 := by decide
theorem cb_48 : (Int8.ofInt (48)).toInt32 = 48 := by decide
theorem cb_50 : (Int8.ofInt (50)).toInt32 = 50 := by decide
theorem cb_57 : (Int8.ofInt (57)).toInt32 = 57 := by decide
theorem cb_59 : (Int8.ofInt (59)).toInt32 = 59 := by decide
theorem cb_60 : (Int8.ofInt (60)).toInt32 = 60 := by decide
theorem cb_61 : (Int8.ofInt (61)).toInt32 = 61 := by decide
theorem cb_64 : (Int8.ofInt (64)).toInt32 = 64 := by decide
theorem cb_80 : (Int8.ofInt (80)).toInt32 = 80 := by decide
theorem cb_98 : (Int8.ofInt (98)).toInt32 = 98 := by decide
theorem cb_100 : (Int8.ofInt (100)).toInt32 = 100 := by decide
theorem cb_104 : (Int8.ofInt (104)).toInt32 = 104 := by decide
theorem cb_108 : (Int8.ofInt (108)).toInt32 = 108 := by decide
theorem cb_114 : (Int8.ofInt (114)).toInt32 = 114 := by decide
theorem cb_121 : (Int8.ofInt (121)).toInt32 = 121 := by decide
theorem cs_m1000 : (Int16.ofInt (-1000)).toInt32 = (-1000) := by decide
theorem cs_181 : (Int16.ofInt (181)).toInt32 = 181 := by decide
theorem cs_241 : (Int16.ofInt (241)).toInt32 = 241 := by decide
theorem cs_249 : (Int16.ofInt (249)).toInt32 = 249 := by decide
theorem cs_255 : (Int16.ofInt (255)).toInt32 = 255 := by decide
theorem cs_261 : (Int16.ofInt (261)).toInt32 = 261 := by decide
theorem cs_273 : (Int16.ofInt (273)).toInt32 = 273 := by decide
theorem cs_285 : (Int16.ofInt (285)).toInt32 = 285 := by decide
theorem cs_297 : (Int16.ofInt (297)).toInt32 = 297 := by decide
theorem cs_309 : (Int16.ofInt (309)).toInt32 = 309 := by decide
theorem cs_321 : (Int16.ofInt (321)).toInt32 = 321 := by decide
theorem cs_322 : (Int16.ofInt (322)).toInt32 = 322 := by decide
theorem cs_323 : (Int16.ofInt (323)).toInt32 = 323 := by decide
theorem cs_324 : (Int16.ofInt (324)).toInt32 = 324 := by decide
theorem cs_325 : (Int16.ofInt (325)).toInt32 = 325 := by decide
theorem cs_326 : (Int16.ofInt (326)).toInt32 = 326 := by decide
theorem cs_327 : (Int16.ofInt (327)).toInt32 = 327 := by decide
theorem cs_328 : (Int16.ofInt (328)).toInt32 = 328 := by decide
theorem cs_329 : (Int16.ofInt (329)).toInt32 = 329 := by decide
theorem cs_500 : (Int16.ofInt (500)).toInt32 = 500 := by decide
theorem cs_657 : (Int16.ofInt (657)).toInt32 = 657 := by decide
theorem cs_986 : (Int16.ofInt (986)).toInt32 = 986 := by decide
theorem cs_3944 : (Int16.ofInt (3944)).toInt32 = 3944 := by decide
theorem cs_4930 : (Int16.ofInt (4930)).toInt32 = 4930 := by decide
theorem cn_5 : nI 5 = 5 := by decide
theorem cn_8 : nI 8 = 8 := by decide
theorem cn_12 : nI 12 = 12 := by decide
theorem cn_24 : nI 24 = 24 := by decide
theorem cn_60 : nI 60 = 60 := by decide
theorem cn_80 : nI 80 = 80 := by decide
theorem cn_328 : nI 328 = 328 := by decide
theorem cn_986 : nI 986 = 986 := by decide
theorem cn_4930 : nI 4930 = 4930 := by decide
theorem pfd_I : parseFieldDescriptor "I" = some .int := by decide +kernel
theorem pfd_Z : parseFieldDescriptor "Z" = some .boolean := by decide +kernel
theorem nw_0 : Cond.methodLinkNest RX6 11 yX3_init RX6 ∈ NWL := List.mem_of_getElem? (i := 0) rfl
theorem nw_1 : Cond.methodLinkNest RX0 11 yX5_init RX6 ∈ NWL := List.mem_of_getElem? (i := 1) rfl
theorem nw_2 : Cond.fieldLinkNest RX6 203 RX5 "spots" "LRibbedLoans$Row;" RX6 ∈ NWL := List.mem_of_getElem? (i := 2) rfl
theorem nw_3 : Cond.fieldLinkNest RX0 152 RX5 "spots" "LRibbedLoans$Row;" RX6 ∈ NWL := List.mem_of_getElem? (i := 3) rfl
theorem nw_4 : Cond.fieldLinkNest RX0 132 RX5 "wears" "LRibbedLoans$Row;" RX6 ∈ NWL := List.mem_of_getElem? (i := 4) rfl
theorem nw_5 : Cond.fieldLinkNest RX6 215 RX5 "wears" "LRibbedLoans$Row;" RX6 ∈ NWL := List.mem_of_getElem? (i := 5) rfl
theorem nw_6 : Cond.fieldLinkNest RX0 116 RX5 "lendings" "LRibbedLoans$Row;" RX6 ∈ NWL := List.mem_of_getElem? (i := 6) rfl
theorem nw_7 : Cond.fieldLinkNest RX6 221 RX5 "lendings" "LRibbedLoans$Row;" RX6 ∈ NWL := List.mem_of_getElem? (i := 7) rfl
theorem nw_8 : Cond.fieldLinkNest RX0 90 RX5 "number" "I" RX6 ∈ NWL := List.mem_of_getElem? (i := 8) rfl
theorem nw_9 : Cond.fieldLinkNest RX6 162 RX5 "number" "I" RX6 ∈ NWL := List.mem_of_getElem? (i := 9) rfl
theorem nw_10 : Cond.fieldLinkNest RX6 158 RX0 "umbrellas" "LRibbedLoans$Umbrellas;" RX6 ∈ NWL := List.mem_of_getElem? (i := 10) rfl
theorem nw_11 : Cond.fieldLinkNest RX6 224 RX0 "rooms" "LRibbedLoans$Row;" RX6 ∈ NWL := List.mem_of_getElem? (i := 11) rfl
theorem nw_12 : Cond.fieldLinkNest RX6 176 RX0 "purses" "LRibbedLoans$Row;" RX6 ∈ NWL := List.mem_of_getElem? (i := 12) rfl
theorem nw_13 : Cond.fieldLinkNest RX6 245 RX0 "showers" "LRibbedLoans$Row;" RX6 ∈ NWL := List.mem_of_getElem? (i := 13) rfl
theorem nw_14 : Cond.fieldLinkNest RX6 248 RX0 "homes" "LRibbedLoans$Row;" RX6 ∈ NWL := List.mem_of_getElem? (i := 14) rfl
theorem nw_15 : Cond.fieldLinkNest RX6 188 RX0 "paid" "LRibbedLoans$Row;" RX6 ∈ NWL := List.mem_of_getElem? (i := 15) rfl
theorem nw_16 : Cond.fieldLinkNest RX6 109 RX0 "hours" "I" RX6 ∈ NWL := List.mem_of_getElem? (i := 16) rfl
theorem nw_17 : Cond.fieldLinkNest RX6 173 RX0 "house" "I" RX6 ∈ NWL := List.mem_of_getElem? (i := 17) rfl
theorem nw_18 : Cond.fieldLinkNest RX6 185 RX0 "spent" "I" RX6 ∈ NWL := List.mem_of_getElem? (i := 18) rfl
theorem nw_19 : Cond.fieldLinkNest RX6 191 RX0 "loans" "I" RX6 ∈ NWL := List.mem_of_getElem? (i := 19) rfl
theorem nw_20 : Cond.fieldLinkNest RX6 194 RX0 "surges" "I" RX6 ∈ NWL := List.mem_of_getElem? (i := 20) rfl
theorem nw_21 : Cond.fieldLinkNest RX6 197 RX0 "rate" "I" RX6 ∈ NWL := List.mem_of_getElem? (i := 21) rfl
theorem nw_22 : Cond.fieldLinkNest RX6 30 RX3 "city" "LRibbedLoans$City;" RX6 ∈ NWL := List.mem_of_getElem? (i := 22) rfl
theorem nw_23 : Cond.methodLinkNest RX1 17 yX3_init RX6 ∈ NWL := List.mem_of_getElem? (i := 23) rfl
theorem nw_24 : Cond.fieldLinkNest RX6 120 RX1 "size" "I" RX6 ∈ NWL := List.mem_of_getElem? (i := 24) rfl
theorem nw_25 : Cond.methodLinkNest RX6 25 yX4_init RX6 ∈ NWL := List.mem_of_getElem? (i := 25) rfl
theorem nw_26 : Cond.fieldLinkNest RX6 126 RX4 "length" "I" RX6 ∈ NWL := List.mem_of_getElem? (i := 26) rfl
theorem nw_27 : Cond.fieldLinkNest RX6 155 RX4 "verb" "I" RX6 ∈ NWL := List.mem_of_getElem? (i := 27) rfl
theorem nw_28 : Cond.fieldLinkNest RX6 149 RX4 "first" "I" RX6 ∈ NWL := List.mem_of_getElem? (i := 28) rfl
theorem nw_29 : Cond.fieldLinkNest RX6 152 RX4 "second" "I" RX6 ∈ NWL := List.mem_of_getElem? (i := 29) rfl
theorem nw_30 : Cond.methodLinkNest RX0 82 yX6_outside RX6 ∈ NWL := List.mem_of_getElem? (i := 30) rfl
theorem nw_31 : Cond.methodLinkNest RX5 47 yX6_kindOf RX6 ∈ NWL := List.mem_of_getElem? (i := 31) rfl
theorem nw_32 : Cond.methodLinkNest RX0 135 yX6_wornBy RX6 ∈ NWL := List.mem_of_getElem? (i := 32) rfl
theorem nw_33 : Cond.methodLinkNest RX0 155 yX6_kindOf RX6 ∈ NWL := List.mem_of_getElem? (i := 33) rfl
theorem nw_34 : Cond.methodLinkNest RX4 55 yX6_outside RX6 ∈ NWL := List.mem_of_getElem? (i := 34) rfl
theorem pn_X0 : plainName RX0 = true := by decide +kernel
theorem pn_X1 : plainName RX1 = true := by decide +kernel
theorem pn_X2 : plainName RX2 = true := by decide +kernel
theorem pn_X3 : plainName RX3 = true := by decide +kernel
theorem pn_X4 : plainName RX4 = true := by decide +kernel
theorem pn_X5 : plainName RX5 = true := by decide +kernel
theorem pn_X6 : plainName RX6 = true := by decide +kernel
theorem pn_X7 : plainName RX7 = true := by decide +kernel
theorem vl_L_9 : IL "RibbedLoansLaw" 9 RX6 yX6_init cX6_init 1 := ⟨⟨gw_62, gw_63, gw_49⟩, gw_64⟩
theorem yv_X6_init : YV yX6_init RX6 0 := ⟨rfl, by decide +kernel, by decide +kernel, by decide +kernel⟩
theorem vl_X3_9 : IL RX3 9 RX0 yX0_init cX0_init 2 := ⟨⟨gw_76, gw_77, gw_51⟩, gw_78⟩
theorem yv_X0_init : YV yX0_init RX0 0 := ⟨rfl, by decide +kernel, by decide +kernel, by decide +kernel⟩
theorem vl_X5_11 : IL RX5 11 RX2 yX2_init cX2_init 3 := ⟨⟨gw_88, gw_89, gw_53⟩, gw_90⟩
theorem yv_X2_init : YV yX2_init RX2 2 := ⟨rfl, by decide +kernel, by decide +kernel, by decide +kernel⟩
theorem vl_X2_19 : SL RX2 19 yJ7_fill_53178 cJ7_fill_53178 4 none := ⟨⟨gw_95, gw_96, gw_53⟩, gw_97⟩
theorem yv_J7_fill_53178 : YV yJ7_fill_53178 RJ7 2 := ⟨rfl, by decide +kernel, by decide +kernel, by decide +kernel⟩
theorem vl_X0_20 : IL RX0 20 RX2 yX2_init cX2_init 3 := ⟨⟨gw_128, gw_89, gw_53⟩, gw_90⟩
theorem vl_X0_46 : VL RX0 46 RX2 yX2_put cX2_put 3 none := ⟨⟨gw_129, gw_130, gw_131, gw_53⟩, gw_132⟩
theorem yv_X2_put : YV yX2_put RX2 2 := ⟨rfl, by decide +kernel, by decide +kernel, by decide +kernel⟩
theorem vl_X6_18 : IL RX6 18 RX1 yX1_init cX1_init 2 := ⟨⟨gw_201, gw_202, gw_56⟩, gw_203⟩
theorem yv_X1_init : YV yX1_init RX1 0 := ⟨rfl, by decide +kernel, by decide +kernel, by decide +kernel⟩
theorem vl_L_13 : VL "RibbedLoansLaw" 13 RX6 yX6_buy cX6_buy 4 (some .int) := ⟨⟨gw_259, gw_260, gw_261, gw_49⟩, gw_262⟩
theorem yv_X6_buy : YV yX6_buy RX6 2 := ⟨rfl, by decide +kernel, by decide +kernel, by decide +kernel⟩
theorem vl_X6_34 : VL RX6 34 RX0 yX0_buyingError cX0_buyingError 4 (some .int) := ⟨⟨gw_263, gw_264, gw_265, gw_51⟩, gw_266⟩
theorem yv_X0_buyingError : YV yX0_buyingError RX0 2 := ⟨rfl, by decide +kernel, by decide +kernel, by decide +kernel⟩
theorem vl_X0_86 : VL RX0 86 RX0 yX0_spendable cX0_spendable 1 (some .int) := ⟨⟨gw_270, gw_272, gw_0, gw_51⟩, gw_273⟩
theorem yv_X0_spendable : YV yX0_spendable RX0 0 := ⟨rfl, by decide +kernel, by decide +kernel, by decide +kernel⟩
theorem vl_X0_68 : VL RX0 68 RX5 yX5_numberOfKind cX5_numberOfKind 4 (some .int) := ⟨⟨gw_274, gw_275, gw_276, gw_52⟩, gw_277⟩
theorem yv_X5_numberOfKind : YV yX5_numberOfKind RX5 1 := ⟨rfl, by decide +kernel, by decide +kernel, by decide +kernel⟩
theorem vl_X5_50 : VL RX5 50 RX5 yX5_numberAt cX5_numberAt 2 (some .int) := ⟨⟨gw_281, gw_282, gw_283, gw_52⟩, gw_284⟩
theorem yv_X5_numberAt : YV yX5_numberAt RX5 1 := ⟨rfl, by decide +kernel, by decide +kernel, by decide +kernel⟩
theorem vl_X5_43 : VL RX5 43 RX2 yX2_at cX2_at 2 (some .int) := ⟨⟨gw_285, gw_286, gw_287, gw_53⟩, gw_288⟩
theorem yv_X2_at : YV yX2_at RX2 1 := ⟨rfl, by decide +kernel, by decide +kernel, by decide +kernel⟩
theorem vl_X0_93 : VL RX0 93 RX0 yX0_freeAt cX0_freeAt 2 (some .int) := ⟨⟨gw_289, gw_291, gw_1, gw_51⟩, gw_292⟩
theorem yv_X0_freeAt : YV yX0_freeAt RX0 1 := ⟨rfl, by decide +kernel, by decide +kernel, by decide +kernel⟩
theorem vl_X0_72 : VL RX0 72 RX2 yX2_at cX2_at 2 (some .int) := ⟨⟨gw_293, gw_286, gw_287, gw_53⟩, gw_288⟩
theorem vl_X0_75 : VL RX0 75 RX5 yX5_numberAt cX5_numberAt 2 (some .int) := ⟨⟨gw_294, gw_282, gw_283, gw_52⟩, gw_284⟩
theorem vl_X6_40 : VL RX6 40 RX1 yX1_record cX1_record 3 none := ⟨⟨gw_295, gw_296, gw_297, gw_56⟩, gw_298⟩
theorem yv_X1_record : YV yX1_record RX1 1 := ⟨rfl, by decide +kernel, by decide +kernel, by decide +kernel⟩
theorem vl_X1_22 : VL RX1 22 RX3 yX3_copyFrom cX3_copyFrom 2 none := ⟨⟨gw_299, gw_300, gw_301, gw_50⟩, gw_302⟩
theorem yv_X3_copyFrom : YV yX3_copyFrom RX3 1 := ⟨rfl, by decide +kernel, by decide +kernel, by decide +kernel⟩
theorem vl_X3_22 : VL RX3 22 RX0 yX0_copyFrom cX0_copyFrom 2 none := ⟨⟨gw_303, gw_304, gw_305, gw_51⟩, gw_306⟩
theorem yv_X0_copyFrom : YV yX0_copyFrom RX0 1 := ⟨rfl, by decide +kernel, by decide +kernel, by decide +kernel⟩
theorem vl_X0_49 : VL RX0 49 RX5 yX5_copyFrom cX5_copyFrom 2 none := ⟨⟨gw_307, gw_308, gw_309, gw_52⟩, gw_310⟩
theorem yv_X5_copyFrom : YV yX5_copyFrom RX5 1 := ⟨rfl, by decide +kernel, by decide +kernel, by decide +kernel⟩
theorem vl_X5_29 : VL RX5 29 RX2 yX2_copyFrom cX2_copyFrom 2 none := ⟨⟨gw_311, gw_312, gw_313, gw_53⟩, gw_314⟩
theorem yv_X2_copyFrom : YV yX2_copyFrom RX2 1 := ⟨rfl, by decide +kernel, by decide +kernel, by decide +kernel⟩
theorem vl_X0_53 : VL RX0 53 RX2 yX2_copyFrom cX2_copyFrom 2 none := ⟨⟨gw_321, gw_312, gw_313, gw_53⟩, gw_314⟩
theorem vl_X6_44 : VL RX6 44 RX0 yX0_purchase cX0_purchase 5 (some .int) := ⟨⟨gw_323, gw_324, gw_325, gw_51⟩, gw_326⟩
theorem yv_X0_purchase : YV yX0_purchase RX0 2 := ⟨rfl, by decide +kernel, by decide +kernel, by decide +kernel⟩
theorem vl_X0_96 : VL RX0 96 RX5 yX5_addNew cX5_addNew 2 none := ⟨⟨gw_327, gw_328, gw_329, gw_52⟩, gw_330⟩
theorem yv_X5_addNew : YV yX5_addNew RX5 1 := ⟨rfl, by decide +kernel, by decide +kernel, by decide +kernel⟩
theorem vl_X5_37 : VL RX5 37 RX2 yX2_put cX2_put 3 none := ⟨⟨gw_331, gw_130, gw_131, gw_53⟩, gw_132⟩
theorem vl_X5_40 : VL RX5 40 RX2 yX2_add cX2_add 3 none := ⟨⟨gw_332, gw_333, gw_334, gw_53⟩, gw_335⟩
theorem yv_X2_add : YV yX2_add RX2 2 := ⟨rfl, by decide +kernel, by decide +kernel, by decide +kernel⟩
theorem vl_X0_100 : VL RX0 100 RX0 yX0_spend cX0_spend 2 none := ⟨⟨gw_336, gw_338, gw_2, gw_51⟩, gw_339⟩
theorem yv_X0_spend : YV yX0_spend RX0 1 := ⟨rfl, by decide +kernel, by decide +kernel, by decide +kernel⟩
theorem vl_L_18 : VL "RibbedLoansLaw" 18 RX6 yX6_set cX6_set 4 (some .int) := ⟨⟨gw_340, gw_341, gw_342, gw_49⟩, gw_343⟩
theorem yv_X6_set : YV yX6_set RX6 2 := ⟨rfl, by decide +kernel, by decide +kernel, by decide +kernel⟩
theorem vl_X6_47 : VL RX6 47 RX0 yX0_settingError cX0_settingError 3 (some .int) := ⟨⟨gw_344, gw_345, gw_346, gw_51⟩, gw_347⟩
theorem yv_X0_settingError : YV yX0_settingError RX0 2 := ⟨rfl, by decide +kernel, by decide +kernel, by decide +kernel⟩
theorem vl_X6_50 : VL RX6 50 RX0 yX0_change cX0_change 4 (some .int) := ⟨⟨gw_348, gw_349, gw_350, gw_51⟩, gw_351⟩
theorem yv_X0_change : YV yX0_change RX0 2 := ⟨rfl, by decide +kernel, by decide +kernel, by decide +kernel⟩
theorem vl_L_22 : VL "RibbedLoansLaw" 22 RX6 yX6_borrow cX6_borrow 4 (some .int) := ⟨⟨gw_352, gw_353, gw_354, gw_49⟩, gw_355⟩
theorem yv_X6_borrow : YV yX6_borrow RX6 2 := ⟨rfl, by decide +kernel, by decide +kernel, by decide +kernel⟩
theorem vl_X6_53 : VL RX6 53 RX0 yX0_lendingError cX0_lendingError 4 (some .int) := ⟨⟨gw_356, gw_357, gw_358, gw_51⟩, gw_359⟩
theorem yv_X0_lendingError : YV yX0_lendingError RX0 2 := ⟨rfl, by decide +kernel, by decide +kernel, by decide +kernel⟩
theorem vl_X0_103 : VL RX0 103 RX0 yX0_wouldBorrow cX0_wouldBorrow 2 (some .boolean) := ⟨⟨gw_360, gw_362, gw_3, gw_51⟩, gw_363⟩
theorem yv_X0_wouldBorrow : YV yX0_wouldBorrow RX0 1 := ⟨rfl, by decide +kernel, by decide +kernel, by decide +kernel⟩
theorem vl_X0_107 : VL RX0 107 RX5 yX5_bestAt cX5_bestAt 2 (some .int) := ⟨⟨gw_364, gw_365, gw_366, gw_52⟩, gw_367⟩
theorem yv_X5_bestAt : YV yX5_bestAt RX5 1 := ⟨rfl, by decide +kernel, by decide +kernel, by decide +kernel⟩
theorem vl_X5_60 : VL RX5 60 RX5 yX5_leastWornAt cX5_leastWornAt 7 (some .int) := ⟨⟨gw_368, gw_369, gw_370, gw_52⟩, gw_371⟩
theorem yv_X5_leastWornAt : YV yX5_leastWornAt RX5 3 := ⟨rfl, by decide +kernel, by decide +kernel, by decide +kernel⟩
theorem vl_X6_56 : VL RX6 56 RX0 yX0_lend cX0_lend 4 (some .int) := ⟨⟨gw_372, gw_373, gw_374, gw_51⟩, gw_375⟩
theorem yv_X0_lend : YV yX0_lend RX0 2 := ⟨rfl, by decide +kernel, by decide +kernel, by decide +kernel⟩
theorem vl_X0_110 : VL RX0 110 RX0 yX0_handOut cX0_handOut 3 none := ⟨⟨gw_376, gw_378, gw_4, gw_51⟩, gw_379⟩
theorem yv_X0_handOut : YV yX0_handOut RX0 2 := ⟨rfl, by decide +kernel, by decide +kernel, by decide +kernel⟩
theorem vl_X0_113 : VL RX0 113 RX5 yX5_move cX5_move 3 none := ⟨⟨gw_380, gw_381, gw_382, gw_52⟩, gw_383⟩
theorem yv_X5_move : YV yX5_move RX5 2 := ⟨rfl, by decide +kernel, by decide +kernel, by decide +kernel⟩
theorem vl_X0_119 : VL RX0 119 RX2 yX2_add cX2_add 3 none := ⟨⟨gw_384, gw_333, gw_334, gw_53⟩, gw_335⟩
theorem vl_L_26 : VL "RibbedLoansLaw" 26 RX6 yX6_bringBack cX6_bringBack 4 (some .int) := ⟨⟨gw_385, gw_386, gw_387, gw_49⟩, gw_388⟩
theorem yv_X6_bringBack : YV yX6_bringBack RX6 2 := ⟨rfl, by decide +kernel, by decide +kernel, by decide +kernel⟩
theorem vl_X6_59 : VL RX6 59 RX0 yX0_returningError cX0_returningError 3 (some .int) := ⟨⟨gw_389, gw_390, gw_391, gw_51⟩, gw_392⟩
theorem yv_X0_returningError : YV yX0_returningError RX0 2 := ⟨rfl, by decide +kernel, by decide +kernel, by decide +kernel⟩
theorem vl_X0_122 : VL RX0 122 RX0 yX0_hasOne cX0_hasOne 2 (some .boolean) := ⟨⟨gw_393, gw_394, gw_395, gw_51⟩, gw_396⟩
theorem yv_X0_hasOne : YV yX0_hasOne RX0 1 := ⟨rfl, by decide +kernel, by decide +kernel, by decide +kernel⟩
theorem vl_X6_62 : VL RX6 62 RX0 yX0_takeBack cX0_takeBack 4 (some .int) := ⟨⟨gw_397, gw_398, gw_399, gw_51⟩, gw_400⟩
theorem yv_X0_takeBack : YV yX0_takeBack RX0 2 := ⟨rfl, by decide +kernel, by decide +kernel, by decide +kernel⟩
theorem vl_X0_125 : VL RX0 125 RX0 yX0_feeAfter cX0_feeAfter 7 (some .int) := ⟨⟨gw_401, gw_402, gw_403, gw_51⟩, gw_404⟩
theorem yv_X0_feeAfter : YV yX0_feeAfter RX0 3 := ⟨rfl, by decide +kernel, by decide +kernel, by decide +kernel⟩
theorem vl_X0_129 : VL RX0 129 RX0 yX0_inHand cX0_inHand 2 (some .int) := ⟨⟨gw_405, gw_406, gw_407, gw_51⟩, gw_408⟩
theorem yv_X0_inHand : YV yX0_inHand RX0 1 := ⟨rfl, by decide +kernel, by decide +kernel, by decide +kernel⟩
theorem vl_X0_78 : VL RX0 78 RX5 yX5_nthAt cX5_nthAt 5 (some .int) := ⟨⟨gw_409, gw_410, gw_411, gw_52⟩, gw_412⟩
theorem yv_X5_nthAt : YV yX5_nthAt RX5 2 := ⟨rfl, by decide +kernel, by decide +kernel, by decide +kernel⟩
theorem vl_L_30 : VL "RibbedLoansLaw" 30 RX6 yX6_hour cX6_hour 4 (some .int) := ⟨⟨gw_418, gw_419, gw_420, gw_49⟩, gw_421⟩
theorem yv_X6_hour : YV yX6_hour RX6 2 := ⟨rfl, by decide +kernel, by decide +kernel, by decide +kernel⟩
theorem vl_X6_65 : VL RX6 65 RX0 yX0_passingError cX0_passingError 3 (some .int) := ⟨⟨gw_422, gw_423, gw_424, gw_51⟩, gw_425⟩
theorem yv_X0_passingError : YV yX0_passingError RX0 2 := ⟨rfl, by decide +kernel, by decide +kernel, by decide +kernel⟩
theorem vl_X6_68 : VL RX6 68 RX0 yX0_passHour cX0_passHour 4 (some .int) := ⟨⟨gw_426, gw_427, gw_428, gw_51⟩, gw_429⟩
theorem yv_X0_passHour : YV yX0_passHour RX0 2 := ⟨rfl, by decide +kernel, by decide +kernel, by decide +kernel⟩
theorem vl_X0_143 : VL RX0 143 RX0 yX0_countShower cX0_countShower 2 none := ⟨⟨gw_430, gw_432, gw_5, gw_51⟩, gw_433⟩
theorem yv_X0_countShower : YV yX0_countShower RX0 0 := ⟨rfl, by decide +kernel, by decide +kernel, by decide +kernel⟩
theorem vl_X0_146 : VL RX0 146 RX0 yX0_wearDown cX0_wearDown 7 (some .int) := ⟨⟨gw_434, gw_436, gw_6, gw_51⟩, gw_437⟩
theorem yv_X0_wearDown : YV yX0_wearDown RX0 2 := ⟨rfl, by decide +kernel, by decide +kernel, by decide +kernel⟩
theorem vl_X0_149 : VL RX0 149 RX0 yX0_surge cX0_surge 3 none := ⟨⟨gw_439, gw_441, gw_7, gw_51⟩, gw_442⟩
theorem yv_X0_surge : YV yX0_surge RX0 0 := ⟨rfl, by decide +kernel, by decide +kernel, by decide +kernel⟩
theorem vl_L_34 : VL "RibbedLoansLaw" 34 RX6 yX6_load cX6_load 5 (some .int) := ⟨⟨gw_443, gw_444, gw_445, gw_49⟩, gw_446⟩
theorem yv_X6_load : YV yX6_load RX6 3 := ⟨rfl, by decide +kernel, by decide +kernel, by decide +kernel⟩
theorem vl_X6_71 : VL RX6 71 RX0 yX0_loadingError cX0_loadingError 5 (some .int) := ⟨⟨gw_447, gw_448, gw_449, gw_51⟩, gw_450⟩
theorem yv_X0_loadingError : YV yX0_loadingError RX0 3 := ⟨rfl, by decide +kernel, by decide +kernel, by decide +kernel⟩
theorem vl_X6_75 : VL RX6 75 RX0 yX0_fillVan cX0_fillVan 7 (some .int) := ⟨⟨gw_451, gw_452, gw_453, gw_51⟩, gw_454⟩
theorem yv_X0_fillVan : YV yX0_fillVan RX0 3 := ⟨rfl, by decide +kernel, by decide +kernel, by decide +kernel⟩
theorem vl_X0_161 : VL RX0 161 RX5 yX5_worstAt cX5_worstAt 4 (some .int) := ⟨⟨gw_455, gw_456, gw_457, gw_52⟩, gw_458⟩
theorem yv_X5_worstAt : YV yX5_worstAt RX5 1 := ⟨rfl, by decide +kernel, by decide +kernel, by decide +kernel⟩
theorem vl_X0_164 : VL RX0 164 RX5 yX5_isBroken cX5_isBroken 2 (some .boolean) := ⟨⟨gw_459, gw_460, gw_461, gw_52⟩, gw_462⟩
theorem yv_X5_isBroken : YV yX5_isBroken RX5 1 := ⟨rfl, by decide +kernel, by decide +kernel, by decide +kernel⟩
theorem vl_L_39 : VL "RibbedLoansLaw" 39 RX6 yX6_unload cX6_unload 5 (some .int) := ⟨⟨gw_463, gw_464, gw_465, gw_49⟩, gw_466⟩
theorem yv_X6_unload : YV yX6_unload RX6 3 := ⟨rfl, by decide +kernel, by decide +kernel, by decide +kernel⟩
theorem vl_X6_78 : VL RX6 78 RX0 yX0_unloadingError cX0_unloadingError 4 (some .int) := ⟨⟨gw_467, gw_468, gw_469, gw_51⟩, gw_470⟩
theorem yv_X0_unloadingError : YV yX0_unloadingError RX0 3 := ⟨rfl, by decide +kernel, by decide +kernel, by decide +kernel⟩
theorem vl_X0_158 : VL RX0 158 RX5 yX5_wholeAt cX5_wholeAt 2 (some .int) := ⟨⟨gw_471, gw_472, gw_473, gw_52⟩, gw_474⟩
theorem yv_X5_wholeAt : YV yX5_wholeAt RX5 1 := ⟨rfl, by decide +kernel, by decide +kernel, by decide +kernel⟩
theorem vl_X5_57 : VL RX5 57 RX5 yX5_brokenAt cX5_brokenAt 4 (some .int) := ⟨⟨gw_475, gw_476, gw_477, gw_52⟩, gw_478⟩
theorem yv_X5_brokenAt : YV yX5_brokenAt RX5 1 := ⟨rfl, by decide +kernel, by decide +kernel, by decide +kernel⟩
theorem vl_X5_53 : VL RX5 53 RX5 yX5_isBroken cX5_isBroken 2 (some .boolean) := ⟨⟨gw_479, gw_460, gw_461, gw_52⟩, gw_462⟩
theorem vl_X6_81 : VL RX6 81 RX0 yX0_emptyVan cX0_emptyVan 6 (some .int) := ⟨⟨gw_480, gw_481, gw_482, gw_51⟩, gw_483⟩
theorem yv_X0_emptyVan : YV yX0_emptyVan RX0 3 := ⟨rfl, by decide +kernel, by decide +kernel, by decide +kernel⟩
theorem vl_L_43 : VL "RibbedLoansLaw" 43 RX6 yX6_toWorkshop cX6_toWorkshop 3 (some .int) := ⟨⟨gw_484, gw_485, gw_486, gw_49⟩, gw_487⟩
theorem yv_X6_toWorkshop : YV yX6_toWorkshop RX6 1 := ⟨rfl, by decide +kernel, by decide +kernel, by decide +kernel⟩
theorem vl_X6_84 : VL RX6 84 RX0 yX0_deliveringError cX0_deliveringError 2 (some .int) := ⟨⟨gw_488, gw_489, gw_490, gw_51⟩, gw_491⟩
theorem yv_X0_deliveringError : YV yX0_deliveringError RX0 1 := ⟨rfl, by decide +kernel, by decide +kernel, by decide +kernel⟩
theorem vl_X0_167 : VL RX0 167 RX5 yX5_brokenAt cX5_brokenAt 4 (some .int) := ⟨⟨gw_492, gw_476, gw_477, gw_52⟩, gw_478⟩
theorem vl_X6_88 : VL RX6 88 RX0 yX0_deliver cX0_deliver 4 (some .int) := ⟨⟨gw_493, gw_494, gw_495, gw_51⟩, gw_496⟩
theorem yv_X0_deliver : YV yX0_deliver RX0 1 := ⟨rfl, by decide +kernel, by decide +kernel, by decide +kernel⟩
theorem vl_L_48 : VL "RibbedLoansLaw" 48 RX6 yX6_mend cX6_mend 3 (some .int) := ⟨⟨gw_497, gw_498, gw_499, gw_49⟩, gw_500⟩
theorem yv_X6_mend : YV yX6_mend RX6 1 := ⟨rfl, by decide +kernel, by decide +kernel, by decide +kernel⟩
theorem vl_X6_91 : VL RX6 91 RX0 yX0_mendingError cX0_mendingError 2 (some .int) := ⟨⟨gw_501, gw_502, gw_503, gw_51⟩, gw_504⟩
theorem yv_X0_mendingError : YV yX0_mendingError RX0 1 := ⟨rfl, by decide +kernel, by decide +kernel, by decide +kernel⟩
theorem vl_X6_94 : VL RX6 94 RX0 yX0_mendOne cX0_mendOne 5 (some .int) := ⟨⟨gw_505, gw_506, gw_507, gw_51⟩, gw_508⟩
theorem yv_X0_mendOne : YV yX0_mendOne RX0 1 := ⟨rfl, by decide +kernel, by decide +kernel, by decide +kernel⟩
theorem vl_X0_170 : VL RX0 170 RX5 yX5_leastWornAt cX5_leastWornAt 7 (some .int) := ⟨⟨gw_509, gw_369, gw_370, gw_52⟩, gw_371⟩
theorem vl_L_52 : VL "RibbedLoansLaw" 52 RX6 yX6_level cX6_level 1 (some .int) := ⟨⟨gw_511, gw_512, gw_513, gw_49⟩, gw_514⟩
theorem yv_X6_level : YV yX6_level RX6 0 := ⟨rfl, by decide +kernel, by decide +kernel, by decide +kernel⟩
theorem vl_X6_97 : VL RX6 97 RX0 yX0_evenOut cX0_evenOut 6 (some .int) := ⟨⟨gw_515, gw_516, gw_517, gw_51⟩, gw_518⟩
theorem yv_X0_evenOut : YV yX0_evenOut RX0 0 := ⟨rfl, by decide +kernel, by decide +kernel, by decide +kernel⟩
theorem vl_X0_177 : VL RX0 177 RX0 yX0_fullest cX0_fullest 3 (some .int) := ⟨⟨gw_520, gw_522, gw_8, gw_51⟩, gw_523⟩
theorem yv_X0_fullest : YV yX0_fullest RX0 0 := ⟨rfl, by decide +kernel, by decide +kernel, by decide +kernel⟩
theorem vl_X0_180 : VL RX0 180 RX0 yX0_emptiestWithRoom cX0_emptiestWithRoom 4 (some .int) := ⟨⟨gw_524, gw_526, gw_9, gw_51⟩, gw_527⟩
theorem yv_X0_emptiestWithRoom : YV yX0_emptiestWithRoom RX0 0 := ⟨rfl, by decide +kernel, by decide +kernel, by decide +kernel⟩
theorem vl_L_57 : VL "RibbedLoansLaw" 57 RX6 yX6_take cX6_take 2 (some .int) := ⟨⟨gw_528, gw_529, gw_530, gw_49⟩, gw_531⟩
theorem yv_X6_take : YV yX6_take RX6 1 := ⟨rfl, by decide +kernel, by decide +kernel, by decide +kernel⟩
theorem vl_X6_101 : SL RX6 101 yX6_outside cX6_outside 3 (some .boolean) := ⟨⟨gw_532, gw_268, gw_49⟩, gw_269⟩
theorem yv_X6_outside : YV yX6_outside RX6 3 := ⟨rfl, by decide +kernel, by decide +kernel, by decide +kernel⟩
theorem vl_X6_105 : VL RX6 105 RX3 yX3_keep cX3_keep 2 none := ⟨⟨gw_533, gw_534, gw_535, gw_50⟩, gw_536⟩
theorem yv_X3_keep : YV yX3_keep RX3 1 := ⟨rfl, by decide +kernel, by decide +kernel, by decide +kernel⟩
theorem vl_X3_33 : VL RX3 33 RX3 yX3_snapshot cX3_snapshot 2 (some (.object "RibbedLoans$City")) := ⟨⟨gw_537, gw_539, gw_10, gw_50⟩, gw_540⟩
theorem yv_X3_snapshot : YV yX3_snapshot RX3 1 := ⟨rfl, by decide +kernel, by decide +kernel, by decide +kernel⟩
theorem vl_L_61 : VL "RibbedLoansLaw" 61 RX6 yX6_restore cX6_restore 2 (some .int) := ⟨⟨gw_541, gw_542, gw_543, gw_49⟩, gw_544⟩
theorem yv_X6_restore : YV yX6_restore RX6 1 := ⟨rfl, by decide +kernel, by decide +kernel, by decide +kernel⟩
theorem vl_X6_113 : VL RX6 113 RX3 yX3_isKept cX3_isKept 2 (some .boolean) := ⟨⟨gw_545, gw_546, gw_547, gw_50⟩, gw_548⟩
theorem yv_X3_isKept : YV yX3_isKept RX3 1 := ⟨rfl, by decide +kernel, by decide +kernel, by decide +kernel⟩
theorem vl_X6_117 : VL RX6 117 RX3 yX3_bringUp cX3_bringUp 2 none := ⟨⟨gw_549, gw_550, gw_551, gw_50⟩, gw_552⟩
theorem yv_X3_bringUp : YV yX3_bringUp RX3 1 := ⟨rfl, by decide +kernel, by decide +kernel, by decide +kernel⟩
theorem vl_L_65 : VL "RibbedLoansLaw" 65 RX6 yX6_undo cX6_undo 1 (some .int) := ⟨⟨gw_553, gw_554, gw_555, gw_49⟩, gw_556⟩
theorem yv_X6_undo : YV yX6_undo RX6 0 := ⟨rfl, by decide +kernel, by decide +kernel, by decide +kernel⟩
theorem vl_X6_123 : VL RX6 123 RX1 yX1_moveLatestTo cX1_moveLatestTo 3 none := ⟨⟨gw_557, gw_558, gw_559, gw_56⟩, gw_560⟩
theorem yv_X1_moveLatestTo : YV yX1_moveLatestTo RX1 1 := ⟨rfl, by decide +kernel, by decide +kernel, by decide +kernel⟩
theorem vl_L_69 : VL "RibbedLoansLaw" 69 RX6 yX6_append cX6_append 2 (some .int) := ⟨⟨gw_561, gw_562, gw_563, gw_49⟩, gw_564⟩
theorem yv_X6_append : YV yX6_append RX6 1 := ⟨rfl, by decide +kernel, by decide +kernel, by decide +kernel⟩
theorem vl_X6_129 : VL RX6 129 RX4 yX4_add cX4_add 2 none := ⟨⟨gw_565, gw_566, gw_567, gw_57⟩, gw_568⟩
theorem yv_X4_add : YV yX4_add RX4 1 := ⟨rfl, by decide +kernel, by decide +kernel, by decide +kernel⟩
theorem vl_L_73 : VL "RibbedLoansLaw" 73 RX6 yX6_clearText cX6_clearText 2 (some .int) := ⟨⟨gw_569, gw_570, gw_571, gw_49⟩, gw_572⟩
theorem yv_X6_clearText : YV yX6_clearText RX6 0 := ⟨rfl, by decide +kernel, by decide +kernel, by decide +kernel⟩
theorem vl_L_77 : VL "RibbedLoansLaw" 77 RX6 yX6_carryOut cX6_carryOut 3 (some .int) := ⟨⟨gw_573, gw_574, gw_575, gw_49⟩, gw_576⟩
theorem yv_X6_carryOut : YV yX6_carryOut RX6 0 := ⟨rfl, by decide +kernel, by decide +kernel, by decide +kernel⟩
theorem vl_X6_132 : VL RX6 132 RX4 yX4_fault cX4_fault 2 (some .int) := ⟨⟨gw_577, gw_578, gw_579, gw_57⟩, gw_580⟩
theorem yv_X4_fault : YV yX4_fault RX4 0 := ⟨rfl, by decide +kernel, by decide +kernel, by decide +kernel⟩
theorem vl_X4_19 : VL RX4 19 RX4 yX4_rewind cX4_rewind 1 none := ⟨⟨gw_581, gw_582, gw_583, gw_57⟩, gw_584⟩
theorem yv_X4_rewind : YV yX4_rewind RX4 0 := ⟨rfl, by decide +kernel, by decide +kernel, by decide +kernel⟩
theorem vl_X4_22 : VL RX4 22 RX4 yX4_readOrder cX4_readOrder 1 (some .boolean) := ⟨⟨gw_585, gw_586, gw_587, gw_57⟩, gw_588⟩
theorem yv_X4_readOrder : YV yX4_readOrder RX4 0 := ⟨rfl, by decide +kernel, by decide +kernel, by decide +kernel⟩
theorem vl_X4_33 : VL RX4 33 RX4 yX4_peek cX4_peek 2 (some .int) := ⟨⟨gw_589, gw_591, gw_11, gw_57⟩, gw_592⟩
theorem yv_X4_peek : YV yX4_peek RX4 0 := ⟨rfl, by decide +kernel, by decide +kernel, by decide +kernel⟩
theorem vl_X4_40 : VL RX4 40 RX4 yX4_readNumbers cX4_readNumbers 2 (some .boolean) := ⟨⟨gw_593, gw_595, gw_12, gw_57⟩, gw_596⟩
theorem yv_X4_readNumbers : YV yX4_readNumbers RX4 1 := ⟨rfl, by decide +kernel, by decide +kernel, by decide +kernel⟩
theorem vl_X4_43 : VL RX4 43 RX4 yX4_readNumber cX4_readNumber 3 (some .int) := ⟨⟨gw_597, gw_599, gw_13, gw_57⟩, gw_600⟩
theorem yv_X4_readNumber : YV yX4_readNumber RX4 0 := ⟨rfl, by decide +kernel, by decide +kernel, by decide +kernel⟩
theorem vl_X4_52 : VL RX4 52 RX4 yX4_readDigit cX4_readDigit 2 (some .int) := ⟨⟨gw_601, gw_603, gw_14, gw_57⟩, gw_604⟩
theorem yv_X4_readDigit : YV yX4_readDigit RX4 0 := ⟨rfl, by decide +kernel, by decide +kernel, by decide +kernel⟩
theorem vl_X4_29 : VL RX4 29 RX4 yX4_accept cX4_accept 2 (some .boolean) := ⟨⟨gw_606, gw_607, gw_608, gw_57⟩, gw_609⟩
theorem yv_X4_accept : YV yX4_accept RX4 1 := ⟨rfl, by decide +kernel, by decide +kernel, by decide +kernel⟩
theorem vl_X6_135 : VL RX6 135 RX4 yX4_rewind cX4_rewind 1 none := ⟨⟨gw_610, gw_582, gw_583, gw_57⟩, gw_584⟩
theorem vl_X6_138 : VL RX6 138 RX4 yX4_readOrder cX4_readOrder 1 (some .boolean) := ⟨⟨gw_611, gw_586, gw_587, gw_57⟩, gw_588⟩
theorem vl_X6_142 : VL RX6 142 RX6 yX6_obey cX6_obey 5 (some .int) := ⟨⟨gw_612, gw_614, gw_15, gw_49⟩, gw_615⟩
theorem yv_X6_obey : YV yX6_obey RX6 0 := ⟨rfl, by decide +kernel, by decide +kernel, by decide +kernel⟩
theorem vl_X6_145 : VL RX6 145 RX4 yX4_accept cX4_accept 2 (some .boolean) := ⟨⟨gw_616, gw_607, gw_608, gw_57⟩, gw_609⟩
theorem vl_L_81 : VL "RibbedLoansLaw" 81 RX6 yX6_count cX6_count 4 (some .int) := ⟨⟨gw_617, gw_618, gw_619, gw_49⟩, gw_620⟩
theorem yv_X6_count : YV yX6_count RX6 1 := ⟨rfl, by decide +kernel, by decide +kernel, by decide +kernel⟩
theorem vl_X6_167 : VL RX6 167 RX5 yX5_numberOfKind cX5_numberOfKind 4 (some .int) := ⟨⟨gw_621, gw_275, gw_276, gw_52⟩, gw_277⟩
theorem vl_X6_170 : VL RX6 170 RX5 yX5_numberBroken cX5_numberBroken 3 (some .int) := ⟨⟨gw_622, gw_623, gw_624, gw_52⟩, gw_625⟩
theorem yv_X5_numberBroken : YV yX5_numberBroken RX5 0 := ⟨rfl, by decide +kernel, by decide +kernel, by decide +kernel⟩
theorem vl_X6_180 : VL RX6 180 RX2 yX2_sum cX2_sum 6 (some .int) := ⟨⟨gw_626, gw_627, gw_628, gw_53⟩, gw_629⟩
theorem yv_X2_sum : YV yX2_sum RX2 0 := ⟨rfl, by decide +kernel, by decide +kernel, by decide +kernel⟩
theorem vl_X6_200 : VL RX6 200 RX3 yX3_numberKept cX3_numberKept 1 (some .int) := ⟨⟨gw_630, gw_631, gw_632, gw_50⟩, gw_633⟩
theorem yv_X3_numberKept : YV yX3_numberKept RX3 0 := ⟨rfl, by decide +kernel, by decide +kernel, by decide +kernel⟩
theorem vl_L_85 : VL "RibbedLoansLaw" 85 RX6 yX6_umbrella cX6_umbrella 5 (some .int) := ⟨⟨gw_634, gw_635, gw_636, gw_49⟩, gw_637⟩
theorem yv_X6_umbrella : YV yX6_umbrella RX6 2 := ⟨rfl, by decide +kernel, by decide +kernel, by decide +kernel⟩
theorem vl_X6_206 : VL RX6 206 RX2 yX2_at cX2_at 2 (some .int) := ⟨⟨gw_638, gw_286, gw_287, gw_53⟩, gw_288⟩
theorem vl_X6_209 : SL RX6 209 yX6_kindOf cX6_kindOf 1 (some .int) := ⟨⟨gw_639, gw_279, gw_49⟩, gw_280⟩
theorem yv_X6_kindOf : YV yX6_kindOf RX6 1 := ⟨rfl, by decide +kernel, by decide +kernel, by decide +kernel⟩
theorem vl_X6_212 : SL RX6 212 yX6_ownerOf cX6_ownerOf 1 (some .int) := ⟨⟨gw_640, gw_641, gw_49⟩, gw_642⟩
theorem yv_X6_ownerOf : YV yX6_ownerOf RX6 1 := ⟨rfl, by decide +kernel, by decide +kernel, by decide +kernel⟩
theorem vl_X6_218 : VL RX6 218 RX5 yX5_isBroken cX5_isBroken 2 (some .boolean) := ⟨⟨gw_643, gw_460, gw_461, gw_52⟩, gw_462⟩
theorem vl_L_89 : VL "RibbedLoansLaw" 89 RX6 yX6_stand cX6_stand 4 (some .int) := ⟨⟨gw_644, gw_645, gw_646, gw_49⟩, gw_647⟩
theorem yv_X6_stand : YV yX6_stand RX6 2 := ⟨rfl, by decide +kernel, by decide +kernel, by decide +kernel⟩
theorem vl_X6_227 : VL RX6 227 RX5 yX5_numberAt cX5_numberAt 2 (some .int) := ⟨⟨gw_648, gw_282, gw_283, gw_52⟩, gw_284⟩
theorem vl_X6_230 : VL RX6 230 RX5 yX5_brokenAt cX5_brokenAt 4 (some .int) := ⟨⟨gw_649, gw_476, gw_477, gw_52⟩, gw_478⟩
theorem vl_X6_233 : VL RX6 233 RX5 yX5_bestAt cX5_bestAt 2 (some .int) := ⟨⟨gw_650, gw_365, gw_366, gw_52⟩, gw_367⟩
theorem vl_X6_236 : VL RX6 236 RX5 yX5_worstAt cX5_worstAt 4 (some .int) := ⟨⟨gw_651, gw_456, gw_457, gw_52⟩, gw_458⟩
theorem vl_X6_239 : VL RX6 239 RX5 yX5_meanWearAt cX5_meanWearAt 5 (some .int) := ⟨⟨gw_652, gw_653, gw_654, gw_52⟩, gw_655⟩
theorem yv_X5_meanWearAt : YV yX5_meanWearAt RX5 1 := ⟨rfl, by decide +kernel, by decide +kernel, by decide +kernel⟩
theorem vl_L_93 : VL "RibbedLoansLaw" 93 RX6 yX6_person cX6_person 5 (some .int) := ⟨⟨gw_656, gw_657, gw_658, gw_49⟩, gw_659⟩
theorem yv_X6_person : YV yX6_person RX6 2 := ⟨rfl, by decide +kernel, by decide +kernel, by decide +kernel⟩
theorem vl_X6_242 : VL RX6 242 RX0 yX0_inHand cX0_inHand 2 (some .int) := ⟨⟨gw_660, gw_406, gw_407, gw_51⟩, gw_408⟩
theorem vl_L_97 : VL "RibbedLoansLaw" 97 RX6 yX6_inVan cX6_inVan 3 (some .int) := ⟨⟨gw_661, gw_662, gw_663, gw_49⟩, gw_664⟩
theorem yv_X6_inVan : YV yX6_inVan RX6 2 := ⟨rfl, by decide +kernel, by decide +kernel, by decide +kernel⟩
theorem vl_X6_251 : VL RX6 251 RX5 yX5_nthAt cX5_nthAt 5 (some .int) := ⟨⟨gw_665, gw_410, gw_411, gw_52⟩, gw_412⟩
theorem vl_L_101 : VL "RibbedLoansLaw" 101 RX6 yX6_feeIn cX6_feeIn 4 (some .int) := ⟨⟨gw_666, gw_667, gw_668, gw_49⟩, gw_669⟩
theorem yv_X6_feeIn : YV yX6_feeIn RX6 3 := ⟨rfl, by decide +kernel, by decide +kernel, by decide +kernel⟩
theorem vl_X6_254 : VL RX6 254 RX0 yX0_hasOne cX0_hasOne 2 (some .boolean) := ⟨⟨gw_670, gw_394, gw_395, gw_51⟩, gw_396⟩
theorem vl_X6_257 : VL RX6 257 RX0 yX0_feeAfter cX0_feeAfter 7 (some .int) := ⟨⟨gw_671, gw_402, gw_403, gw_51⟩, gw_404⟩
theorem vl_L_105 : VL "RibbedLoansLaw" 105 RX6 yX6_breaksIn cX6_breaksIn 4 (some .int) := ⟨⟨gw_672, gw_673, gw_674, gw_49⟩, gw_675⟩
theorem yv_X6_breaksIn : YV yX6_breaksIn RX6 3 := ⟨rfl, by decide +kernel, by decide +kernel, by decide +kernel⟩
theorem vl_X6_260 : VL RX6 260 RX0 yX0_hoursToBreak cX0_hoursToBreak 6 (some .int) := ⟨⟨gw_676, gw_677, gw_678, gw_51⟩, gw_679⟩
theorem yv_X0_hoursToBreak : YV yX0_hoursToBreak RX0 3 := ⟨rfl, by decide +kernel, by decide +kernel, by decide +kernel⟩
theorem vl_L_109 : VL "RibbedLoansLaw" 109 RX6 yX6_emptied cX6_emptied 3 (some .int) := ⟨⟨gw_680, gw_681, gw_682, gw_49⟩, gw_683⟩
theorem yv_X6_emptied : YV yX6_emptied RX6 0 := ⟨rfl, by decide +kernel, by decide +kernel, by decide +kernel⟩
theorem vl_X6_263 : VL RX6 263 RX0 yX0_lackAt cX0_lackAt 4 (some .int) := ⟨⟨gw_684, gw_685, gw_686, gw_51⟩, gw_687⟩
theorem yv_X0_lackAt : YV yX0_lackAt RX0 1 := ⟨rfl, by decide +kernel, by decide +kernel, by decide +kernel⟩
theorem vl_L_113 : VL "RibbedLoansLaw" 113 RX6 yX6_shortest cX6_shortest 6 (some .int) := ⟨⟨gw_688, gw_689, gw_690, gw_49⟩, gw_691⟩
theorem yv_X6_shortest : YV yX6_shortest RX6 1 := ⟨rfl, by decide +kernel, by decide +kernel, by decide +kernel⟩
theorem vl_L_12 : IL "RibbedLoansLaw" 12 RX7 yX7_init cX7_init 2 := ⟨⟨gw_694, gw_695, gw_58⟩, gw_696⟩
theorem yv_X7_init : YV yX7_init RX7 0 := ⟨rfl, by decide +kernel, by decide +kernel, by decide +kernel⟩
theorem vl_L_17 : VL "RibbedLoansLaw" 17 RX7 yX7_buy cX7_buy 5 (some .int) := ⟨⟨gw_732, gw_733, gw_734, gw_58⟩, gw_735⟩
theorem yv_X7_buy : YV yX7_buy RX7 2 := ⟨rfl, by decide +kernel, by decide +kernel, by decide +kernel⟩
theorem vl_X7_45 : SL RX7 45 yX7_isStand cX7_isStand 1 (some .boolean) := ⟨⟨gw_736, gw_737, gw_58⟩, gw_738⟩
theorem yv_X7_isStand : YV yX7_isStand RX7 1 := ⟨rfl, by decide +kernel, by decide +kernel, by decide +kernel⟩
theorem vl_X7_22 : SL RX7 22 yX7_in cX7_in 3 (some .boolean) := ⟨⟨gw_739, gw_740, gw_58⟩, gw_741⟩
theorem yv_X7_in : YV yX7_in RX7 3 := ⟨rfl, by decide +kernel, by decide +kernel, by decide +kernel⟩
theorem vl_X7_48 : VL RX7 48 RX7 yX7_canSpend cX7_canSpend 2 (some .boolean) := ⟨⟨gw_742, gw_744, gw_16, gw_58⟩, gw_745⟩
theorem yv_X7_canSpend : YV yX7_canSpend RX7 1 := ⟨rfl, by decide +kernel, by decide +kernel, by decide +kernel⟩
theorem vl_X7_41 : VL RX7 41 RX7 yX7_manyIn cX7_manyIn 4 (some .int) := ⟨⟨gw_746, gw_748, gw_17, gw_58⟩, gw_749⟩
theorem yv_X7_manyIn : YV yX7_manyIn RX7 1 := ⟨rfl, by decide +kernel, by decide +kernel, by decide +kernel⟩
theorem vl_X7_51 : VL RX7 51 RX7 yX7_roomOf cX7_roomOf 2 (some .int) := ⟨⟨gw_750, gw_752, gw_18, gw_58⟩, gw_753⟩
theorem yv_X7_roomOf : YV yX7_roomOf RX7 1 := ⟨rfl, by decide +kernel, by decide +kernel, by decide +kernel⟩
theorem vl_X7_37 : VL RX7 37 RX7 yX7_manyAt cX7_manyAt 5 (some .int) := ⟨⟨gw_754, gw_756, gw_19, gw_58⟩, gw_757⟩
theorem yv_X7_manyAt : YV yX7_manyAt RX7 2 := ⟨rfl, by decide +kernel, by decide +kernel, by decide +kernel⟩
theorem vl_X7_30 : VL RX7 30 RX7 yX7_isAt cX7_isAt 4 (some .boolean) := ⟨⟨gw_758, gw_760, gw_20, gw_58⟩, gw_761⟩
theorem yv_X7_isAt : YV yX7_isAt RX7 3 := ⟨rfl, by decide +kernel, by decide +kernel, by decide +kernel⟩
theorem vl_X7_54 : VL RX7 54 RX7 yX7_save cX7_save 2 none := ⟨⟨gw_762, gw_764, gw_21, gw_58⟩, gw_765⟩
theorem yv_X7_save : YV yX7_save RX7 0 := ⟨rfl, by decide +kernel, by decide +kernel, by decide +kernel⟩
theorem vl_X7_57 : VL RX7 57 RX7 yX7_goes cX7_goes 4 none := ⟨⟨gw_766, gw_768, gw_22, gw_58⟩, gw_769⟩
theorem yv_X7_goes : YV yX7_goes RX7 3 := ⟨rfl, by decide +kernel, by decide +kernel, by decide +kernel⟩
theorem vl_X7_61 : VL RX7 61 RX7 yX7_spends cX7_spends 2 none := ⟨⟨gw_770, gw_772, gw_23, gw_58⟩, gw_773⟩
theorem yv_X7_spends : YV yX7_spends RX7 1 := ⟨rfl, by decide +kernel, by decide +kernel, by decide +kernel⟩
theorem vl_L_21 : VL "RibbedLoansLaw" 21 RX7 yX7_set cX7_set 5 (some .int) := ⟨⟨gw_774, gw_775, gw_776, gw_58⟩, gw_777⟩
theorem yv_X7_set : YV yX7_set RX7 2 := ⟨rfl, by decide +kernel, by decide +kernel, by decide +kernel⟩
theorem vl_L_25 : VL "RibbedLoansLaw" 25 RX7 yX7_borrow cX7_borrow 4 (some .int) := ⟨⟨gw_778, gw_779, gw_780, gw_58⟩, gw_781⟩
theorem yv_X7_borrow : YV yX7_borrow RX7 2 := ⟨rfl, by decide +kernel, by decide +kernel, by decide +kernel⟩
theorem vl_X7_74 : VL RX7 74 RX7 yX7_whyBorrow cX7_whyBorrow 3 (some .int) := ⟨⟨gw_782, gw_784, gw_24, gw_58⟩, gw_785⟩
theorem yv_X7_whyBorrow : YV yX7_whyBorrow RX7 2 := ⟨rfl, by decide +kernel, by decide +kernel, by decide +kernel⟩
theorem vl_X7_65 : SL RX7 65 yX7_isPerson cX7_isPerson 1 (some .boolean) := ⟨⟨gw_786, gw_787, gw_58⟩, gw_788⟩
theorem yv_X7_isPerson : YV yX7_isPerson RX7 1 := ⟨rfl, by decide +kernel, by decide +kernel, by decide +kernel⟩
theorem vl_X7_68 : VL RX7 68 RX7 yX7_canBorrow cX7_canBorrow 2 (some .boolean) := ⟨⟨gw_789, gw_791, gw_25, gw_58⟩, gw_792⟩
theorem yv_X7_canBorrow : YV yX7_canBorrow RX7 1 := ⟨rfl, by decide +kernel, by decide +kernel, by decide +kernel⟩
theorem vl_X7_71 : VL RX7 71 RX7 yX7_bestOf cX7_bestOf 5 (some .int) := ⟨⟨gw_793, gw_795, gw_26, gw_58⟩, gw_796⟩
theorem yv_X7_bestOf : YV yX7_bestOf RX7 1 := ⟨rfl, by decide +kernel, by decide +kernel, by decide +kernel⟩
theorem vl_X7_33 : VL RX7 33 RX7 yX7_isBroken cX7_isBroken 2 (some .boolean) := ⟨⟨gw_797, gw_799, gw_27, gw_58⟩, gw_800⟩
theorem yv_X7_isBroken : YV yX7_isBroken RX7 1 := ⟨rfl, by decide +kernel, by decide +kernel, by decide +kernel⟩
theorem vl_X7_77 : VL RX7 77 RX7 yX7_borrows cX7_borrows 4 (some .int) := ⟨⟨gw_801, gw_803, gw_28, gw_58⟩, gw_804⟩
theorem yv_X7_borrows : YV yX7_borrows RX7 2 := ⟨rfl, by decide +kernel, by decide +kernel, by decide +kernel⟩
theorem vl_L_29 : VL "RibbedLoansLaw" 29 RX7 yX7_bringBack cX7_bringBack 4 (some .int) := ⟨⟨gw_805, gw_806, gw_807, gw_58⟩, gw_808⟩
theorem yv_X7_bringBack : YV yX7_bringBack RX7 2 := ⟨rfl, by decide +kernel, by decide +kernel, by decide +kernel⟩
theorem vl_X7_84 : VL RX7 84 RX7 yX7_whyBring cX7_whyBring 3 (some .int) := ⟨⟨gw_809, gw_811, gw_29, gw_58⟩, gw_812⟩
theorem yv_X7_whyBring : YV yX7_whyBring RX7 2 := ⟨rfl, by decide +kernel, by decide +kernel, by decide +kernel⟩
theorem vl_X7_87 : VL RX7 87 RX7 yX7_brings cX7_brings 4 (some .int) := ⟨⟨gw_813, gw_815, gw_30, gw_58⟩, gw_816⟩
theorem yv_X7_brings : YV yX7_brings RX7 2 := ⟨rfl, by decide +kernel, by decide +kernel, by decide +kernel⟩
theorem vl_X7_80 : VL RX7 80 RX7 yX7_fee cX7_fee 4 (some .int) := ⟨⟨gw_817, gw_819, gw_31, gw_58⟩, gw_820⟩
theorem yv_X7_fee : YV yX7_fee RX7 2 := ⟨rfl, by decide +kernel, by decide +kernel, by decide +kernel⟩
theorem vl_L_33 : VL "RibbedLoansLaw" 33 RX7 yX7_hour cX7_hour 4 (some .int) := ⟨⟨gw_821, gw_822, gw_823, gw_58⟩, gw_824⟩
theorem yv_X7_hour : YV yX7_hour RX7 2 := ⟨rfl, by decide +kernel, by decide +kernel, by decide +kernel⟩
theorem vl_X7_94 : VL RX7 94 RX7 yX7_whyHour cX7_whyHour 3 (some .int) := ⟨⟨gw_825, gw_827, gw_32, gw_58⟩, gw_828⟩
theorem yv_X7_whyHour : YV yX7_whyHour RX7 2 := ⟨rfl, by decide +kernel, by decide +kernel, by decide +kernel⟩
theorem vl_X7_97 : VL RX7 97 RX7 yX7_passes cX7_passes 8 (some .int) := ⟨⟨gw_829, gw_831, gw_33, gw_58⟩, gw_832⟩
theorem yv_X7_passes : YV yX7_passes RX7 2 := ⟨rfl, by decide +kernel, by decide +kernel, by decide +kernel⟩
theorem vl_X7_90 : SL RX7 90 yX7_worn cX7_worn 4 (some .int) := ⟨⟨gw_833, gw_834, gw_58⟩, gw_835⟩
theorem yv_X7_worn : YV yX7_worn RX7 3 := ⟨rfl, by decide +kernel, by decide +kernel, by decide +kernel⟩
theorem vl_L_38 : VL "RibbedLoansLaw" 38 RX7 yX7_load cX7_load 7 (some .int) := ⟨⟨gw_836, gw_837, gw_838, gw_58⟩, gw_839⟩
theorem yv_X7_load : YV yX7_load RX7 3 := ⟨rfl, by decide +kernel, by decide +kernel, by decide +kernel⟩
theorem vl_X7_100 : SL RX7 100 yX7_isLoad cX7_isLoad 3 (some .boolean) := ⟨⟨gw_840, gw_841, gw_58⟩, gw_842⟩
theorem yv_X7_isLoad : YV yX7_isLoad RX7 3 := ⟨rfl, by decide +kernel, by decide +kernel, by decide +kernel⟩
theorem vl_X7_103 : VL RX7 103 RX7 yX7_worstOf cX7_worstOf 5 (some .int) := ⟨⟨gw_843, gw_845, gw_34, gw_58⟩, gw_846⟩
theorem yv_X7_worstOf : YV yX7_worstOf RX7 1 := ⟨rfl, by decide +kernel, by decide +kernel, by decide +kernel⟩
theorem vl_L_42 : VL "RibbedLoansLaw" 42 RX7 yX7_unload cX7_unload 6 (some .int) := ⟨⟨gw_847, gw_848, gw_849, gw_58⟩, gw_850⟩
theorem yv_X7_unload : YV yX7_unload RX7 3 := ⟨rfl, by decide +kernel, by decide +kernel, by decide +kernel⟩
theorem vl_X7_106 : VL RX7 106 RX7 yX7_brokenAt cX7_brokenAt 5 (some .int) := ⟨⟨gw_851, gw_853, gw_35, gw_58⟩, gw_854⟩
theorem yv_X7_brokenAt : YV yX7_brokenAt RX7 2 := ⟨rfl, by decide +kernel, by decide +kernel, by decide +kernel⟩
theorem vl_L_47 : VL "RibbedLoansLaw" 47 RX7 yX7_toWorkshop cX7_toWorkshop 4 (some .int) := ⟨⟨gw_855, gw_856, gw_857, gw_58⟩, gw_858⟩
theorem yv_X7_toWorkshop : YV yX7_toWorkshop RX7 1 := ⟨rfl, by decide +kernel, by decide +kernel, by decide +kernel⟩
theorem vl_L_51 : VL "RibbedLoansLaw" 51 RX7 yX7_mend cX7_mend 6 (some .int) := ⟨⟨gw_859, gw_860, gw_861, gw_58⟩, gw_862⟩
theorem yv_X7_mend : YV yX7_mend RX7 1 := ⟨rfl, by decide +kernel, by decide +kernel, by decide +kernel⟩
theorem vl_X7_109 : VL RX7 109 RX7 yX7_leastInShop cX7_leastInShop 5 (some .int) := ⟨⟨gw_863, gw_865, gw_36, gw_58⟩, gw_866⟩
theorem yv_X7_leastInShop : YV yX7_leastInShop RX7 1 := ⟨rfl, by decide +kernel, by decide +kernel, by decide +kernel⟩
theorem vl_L_56 : VL "RibbedLoansLaw" 56 RX7 yX7_level cX7_level 1 (some .int) := ⟨⟨gw_867, gw_868, gw_869, gw_58⟩, gw_870⟩
theorem yv_X7_level : YV yX7_level RX7 0 := ⟨rfl, by decide +kernel, by decide +kernel, by decide +kernel⟩
theorem vl_X7_112 : VL RX7 112 RX7 yX7_levels cX7_levels 7 (some .int) := ⟨⟨gw_871, gw_873, gw_37, gw_58⟩, gw_874⟩
theorem yv_X7_levels : YV yX7_levels RX7 0 := ⟨rfl, by decide +kernel, by decide +kernel, by decide +kernel⟩
theorem vl_L_60 : VL "RibbedLoansLaw" 60 RX7 yX7_take cX7_take 4 (some .int) := ⟨⟨gw_875, gw_876, gw_877, gw_58⟩, gw_878⟩
theorem yv_X7_take : YV yX7_take RX7 1 := ⟨rfl, by decide +kernel, by decide +kernel, by decide +kernel⟩
theorem vl_L_64 : VL "RibbedLoansLaw" 64 RX7 yX7_restore cX7_restore 4 (some .int) := ⟨⟨gw_879, gw_880, gw_881, gw_58⟩, gw_882⟩
theorem yv_X7_restore : YV yX7_restore RX7 1 := ⟨rfl, by decide +kernel, by decide +kernel, by decide +kernel⟩
theorem vl_L_68 : VL "RibbedLoansLaw" 68 RX7 yX7_undo cX7_undo 2 (some .int) := ⟨⟨gw_883, gw_884, gw_885, gw_58⟩, gw_886⟩
theorem yv_X7_undo : YV yX7_undo RX7 0 := ⟨rfl, by decide +kernel, by decide +kernel, by decide +kernel⟩
theorem vl_L_72 : VL "RibbedLoansLaw" 72 RX7 yX7_append cX7_append 2 (some .int) := ⟨⟨gw_887, gw_888, gw_889, gw_58⟩, gw_890⟩
theorem yv_X7_append : YV yX7_append RX7 1 := ⟨rfl, by decide +kernel, by decide +kernel, by decide +kernel⟩
theorem vl_L_76 : VL "RibbedLoansLaw" 76 RX7 yX7_clearText cX7_clearText 2 (some .int) := ⟨⟨gw_891, gw_892, gw_893, gw_58⟩, gw_894⟩
theorem yv_X7_clearText : YV yX7_clearText RX7 0 := ⟨rfl, by decide +kernel, by decide +kernel, by decide +kernel⟩
theorem vl_L_80 : VL "RibbedLoansLaw" 80 RX7 yX7_carryOut cX7_carryOut 4 (some .int) := ⟨⟨gw_895, gw_896, gw_897, gw_58⟩, gw_898⟩
theorem yv_X7_carryOut : YV yX7_carryOut RX7 0 := ⟨rfl, by decide +kernel, by decide +kernel, by decide +kernel⟩
theorem vl_X7_146 : VL RX7 146 RX7 yX7_faultOf cX7_faultOf 2 (some .int) := ⟨⟨gw_899, gw_901, gw_38, gw_58⟩, gw_902⟩
theorem yv_X7_faultOf : YV yX7_faultOf RX7 0 := ⟨rfl, by decide +kernel, by decide +kernel, by decide +kernel⟩
theorem vl_X7_143 : VL RX7 143 RX7 yX7_readOrder cX7_readOrder 1 (some .boolean) := ⟨⟨gw_903, gw_905, gw_39, gw_58⟩, gw_906⟩
theorem yv_X7_readOrder : YV yX7_readOrder RX7 0 := ⟨rfl, by decide +kernel, by decide +kernel, by decide +kernel⟩
theorem vl_X7_122 : VL RX7 122 RX7 yX7_here cX7_here 1 (some .int) := ⟨⟨gw_907, gw_909, gw_40, gw_58⟩, gw_910⟩
theorem yv_X7_here : YV yX7_here RX7 0 := ⟨rfl, by decide +kernel, by decide +kernel, by decide +kernel⟩
theorem vl_X7_131 : VL RX7 131 RX7 yX7_readNumber cX7_readNumber 1 (some .boolean) := ⟨⟨gw_911, gw_913, gw_41, gw_58⟩, gw_914⟩
theorem yv_X7_readNumber : YV yX7_readNumber RX7 0 := ⟨rfl, by decide +kernel, by decide +kernel, by decide +kernel⟩
theorem vl_X7_138 : VL RX7 138 RX7 yX7_passes_ cX7_passes_ 3 (some .boolean) := ⟨⟨gw_915, gw_917, gw_42, gw_58⟩, gw_918⟩
theorem yv_X7_passes_ : YV yX7_passes_ RX7 1 := ⟨rfl, by decide +kernel, by decide +kernel, by decide +kernel⟩
theorem vl_X7_149 : VL RX7 149 RX7 yX7_does cX7_does 3 (some .boolean) := ⟨⟨gw_919, gw_921, gw_43, gw_58⟩, gw_922⟩
theorem yv_X7_does : YV yX7_does RX7 0 := ⟨rfl, by decide +kernel, by decide +kernel, by decide +kernel⟩
theorem vl_L_84 : VL "RibbedLoansLaw" 84 RX7 yX7_count cX7_count 2 (some .int) := ⟨⟨gw_923, gw_924, gw_925, gw_58⟩, gw_926⟩
theorem yv_X7_count : YV yX7_count RX7 1 := ⟨rfl, by decide +kernel, by decide +kernel, by decide +kernel⟩
theorem vl_X7_152 : VL RX7 152 RX7 yX7_brokenOnes cX7_brokenOnes 3 (some .int) := ⟨⟨gw_927, gw_929, gw_44, gw_58⟩, gw_930⟩
theorem yv_X7_brokenOnes : YV yX7_brokenOnes RX7 0 := ⟨rfl, by decide +kernel, by decide +kernel, by decide +kernel⟩
theorem vl_X7_155 : VL RX7 155 RX7 yX7_coinsOfPersons cX7_coinsOfPersons 3 (some .int) := ⟨⟨gw_931, gw_933, gw_45, gw_58⟩, gw_934⟩
theorem yv_X7_coinsOfPersons : YV yX7_coinsOfPersons RX7 0 := ⟨rfl, by decide +kernel, by decide +kernel, by decide +kernel⟩
theorem vl_L_88 : VL "RibbedLoansLaw" 88 RX7 yX7_umbrella cX7_umbrella 3 (some .int) := ⟨⟨gw_935, gw_936, gw_937, gw_58⟩, gw_938⟩
theorem yv_X7_umbrella : YV yX7_umbrella RX7 2 := ⟨rfl, by decide +kernel, by decide +kernel, by decide +kernel⟩
theorem vl_L_92 : VL "RibbedLoansLaw" 92 RX7 yX7_stand cX7_stand 3 (some .int) := ⟨⟨gw_939, gw_940, gw_941, gw_58⟩, gw_942⟩
theorem yv_X7_stand : YV yX7_stand RX7 2 := ⟨rfl, by decide +kernel, by decide +kernel, by decide +kernel⟩
theorem vl_X7_158 : SL RX7 158 yX7_told cX7_told 1 (some .int) := ⟨⟨gw_943, gw_944, gw_58⟩, gw_945⟩
theorem yv_X7_told : YV yX7_told RX7 1 := ⟨rfl, by decide +kernel, by decide +kernel, by decide +kernel⟩
theorem vl_X7_161 : VL RX7 161 RX7 yX7_meanOf cX7_meanOf 4 (some .int) := ⟨⟨gw_946, gw_948, gw_46, gw_58⟩, gw_949⟩
theorem yv_X7_meanOf : YV yX7_meanOf RX7 1 := ⟨rfl, by decide +kernel, by decide +kernel, by decide +kernel⟩
theorem vl_L_96 : VL "RibbedLoansLaw" 96 RX7 yX7_person cX7_person 3 (some .int) := ⟨⟨gw_950, gw_951, gw_952, gw_58⟩, gw_953⟩
theorem yv_X7_person : YV yX7_person RX7 2 := ⟨rfl, by decide +kernel, by decide +kernel, by decide +kernel⟩
theorem vl_L_100 : VL "RibbedLoansLaw" 100 RX7 yX7_inVan cX7_inVan 5 (some .int) := ⟨⟨gw_954, gw_955, gw_956, gw_58⟩, gw_957⟩
theorem yv_X7_inVan : YV yX7_inVan RX7 2 := ⟨rfl, by decide +kernel, by decide +kernel, by decide +kernel⟩
theorem vl_L_104 : VL "RibbedLoansLaw" 104 RX7 yX7_feeIn cX7_feeIn 8 (some .int) := ⟨⟨gw_958, gw_959, gw_960, gw_58⟩, gw_961⟩
theorem yv_X7_feeIn : YV yX7_feeIn RX7 3 := ⟨rfl, by decide +kernel, by decide +kernel, by decide +kernel⟩
theorem vl_L_108 : VL "RibbedLoansLaw" 108 RX7 yX7_breaksIn cX7_breaksIn 7 (some .int) := ⟨⟨gw_962, gw_963, gw_964, gw_58⟩, gw_965⟩
theorem yv_X7_breaksIn : YV yX7_breaksIn RX7 3 := ⟨rfl, by decide +kernel, by decide +kernel, by decide +kernel⟩
theorem vl_L_112 : VL "RibbedLoansLaw" 112 RX7 yX7_emptied cX7_emptied 4 (some .int) := ⟨⟨gw_966, gw_967, gw_968, gw_58⟩, gw_969⟩
theorem yv_X7_emptied : YV yX7_emptied RX7 0 := ⟨rfl, by decide +kernel, by decide +kernel, by decide +kernel⟩
theorem vl_L_116 : VL "RibbedLoansLaw" 116 RX7 yX7_shortest cX7_shortest 7 (some .int) := ⟨⟨gw_970, gw_971, gw_972, gw_58⟩, gw_973⟩
theorem yv_X7_shortest : YV yX7_shortest RX7 1 := ⟨rfl, by decide +kernel, by decide +kernel, by decide +kernel⟩
theorem vl_X7_164 : VL RX7 164 RX7 yX7_wanting cX7_wanting 4 (some .int) := ⟨⟨gw_974, gw_976, gw_47, gw_58⟩, gw_977⟩
theorem yv_X7_wanting : YV yX7_wanting RX7 1 := ⟨rfl, by decide +kernel, by decide +kernel, by decide +kernel⟩
theorem vn_X6_11 : (Cond.instanceMethod yX3_init ∈ GW ∧ Cond.initialized yX3_init.cls ∈ GW) ∧ Cond.code yX3_init cX3_init 1 none ∈ GW := ⟨⟨gw_71, gw_50⟩, gw_72⟩
theorem yv_X3_init : YV yX3_init yX3_init.cls 0 := ⟨rfl, by decide +kernel, by decide +kernel, by decide +kernel⟩
theorem vn_X0_11 : (Cond.instanceMethod yX5_init ∈ GW ∧ Cond.initialized yX5_init.cls ∈ GW) ∧ Cond.code yX5_init cX5_init 1 none ∈ GW := ⟨⟨gw_83, gw_52⟩, gw_84⟩
theorem yv_X5_init : YV yX5_init yX5_init.cls 0 := ⟨rfl, by decide +kernel, by decide +kernel, by decide +kernel⟩
theorem vn_X1_17 : (Cond.instanceMethod yX3_init ∈ GW ∧ Cond.initialized yX3_init.cls ∈ GW) ∧ Cond.code yX3_init cX3_init 1 none ∈ GW := ⟨⟨gw_71, gw_50⟩, gw_72⟩
theorem vn_X6_25 : (Cond.instanceMethod yX4_init ∈ GW ∧ Cond.initialized yX4_init.cls ∈ GW) ∧ Cond.code yX4_init cX4_init 1 none ∈ GW := ⟨⟨gw_222, gw_57⟩, gw_223⟩
theorem yv_X4_init : YV yX4_init yX4_init.cls 0 := ⟨rfl, by decide +kernel, by decide +kernel, by decide +kernel⟩
theorem vn_X0_82 : (Cond.static yX6_outside ∈ GW ∧ Cond.initialized yX6_outside.cls ∈ GW) ∧ Cond.code yX6_outside cX6_outside 3 (some .boolean) ∈ GW := ⟨⟨gw_268, gw_49⟩, gw_269⟩
theorem vn_X5_47 : (Cond.static yX6_kindOf ∈ GW ∧ Cond.initialized yX6_kindOf.cls ∈ GW) ∧ Cond.code yX6_kindOf cX6_kindOf 1 (some .int) ∈ GW := ⟨⟨gw_279, gw_49⟩, gw_280⟩
theorem vn_X0_135 : (Cond.static yX6_wornBy ∈ GW ∧ Cond.initialized yX6_wornBy.cls ∈ GW) ∧ Cond.code yX6_wornBy cX6_wornBy 4 (some .int) ∈ GW := ⟨⟨gw_414, gw_49⟩, gw_415⟩
theorem yv_X6_wornBy : YV yX6_wornBy yX6_wornBy.cls 3 := ⟨rfl, by decide +kernel, by decide +kernel, by decide +kernel⟩
theorem vn_X0_155 : (Cond.static yX6_kindOf ∈ GW ∧ Cond.initialized yX6_kindOf.cls ∈ GW) ∧ Cond.code yX6_kindOf cX6_kindOf 1 (some .int) ∈ GW := ⟨⟨gw_279, gw_49⟩, gw_280⟩
theorem vn_X4_55 : (Cond.static yX6_outside ∈ GW ∧ Cond.initialized yX6_outside.cls ∈ GW) ∧ Cond.code yX6_outside cX6_outside 3 (some .boolean) ∈ GW := ⟨⟨gw_268, gw_49⟩, gw_269⟩
abbrev TY (cI cC cR : ClassId) : List (ClassId × FieldType) := [(cI, .int), (cC, .char), (cR, .object RX3)]
abbrev wX2 (cI : ClassId) (h0 h1 : Nat) (N : Nat) (c : Nat → Int32) : va_W := [(h0, .inr (2, [.ref h1])), (h1, .inl (cI, N, .inl c))]
abbrev wX5 (cI : ClassId) (h0 h1 h2 h3 h4 h5 h6 h7 h8 : Nat) (sp : Nat → Int32) (we : Nat → Int32) (le : Nat → Int32) (ta : Nat → Int32) (num : Int32) : va_W := [(h0, .inr (5, [.ref h1, .ref h3, .ref h5, .ref h7, .int num])), (h1, .inr (2, [.ref h2])), (h2, .inl (cI, 60, .inl sp)), (h3, .inr (2, [.ref h4])), (h4, .inl (cI, 60, .inl we)), (h5, .inr (2, [.ref h6])), (h6, .inl (cI, 60, .inl le)), (h7, .inr (2, [.ref h8])), (h8, .inl (cI, 24, .inl ta))]
abbrev wX4 (cC : ClassId) (h0 h1 : Nat) (ch : Nat → Int32) (len : Int32) (cur : Int32) (verb : Int32) (fi : Int32) (se : Int32) : va_W := [(h0, .inr (4, [.ref h1, .int len, .int cur, .int verb, .int fi, .int se])), (h1, .inl (cC, 80, .inl ch))]
abbrev wX7 (cI : ClassId) (h0 h1 h2 h3 h4 : Nat) (p : Nat → Int32) (sv : Nat → Int32) (asd : Nat → Int32) (tx : Nat → Int32) (states : Int32) (len : Int32) (at_ : Int32) (letter : Int32) (one : Int32) (two : Int32) (number : Int32) : va_W := [(h0, .inr (7, [.ref h1, .ref h2, .ref h3, .int states, .ref h4, .int len, .int at_, .int letter, .int one, .int two, .int number])), (h1, .inl (cI, 986, .inl p)), (h2, .inl (cI, 4930, .inl sv)), (h3, .inl (cI, 328, .inl asd)), (h4, .inl (cI, 80, .inl tx))]
abbrev wX0 (cI : ClassId) (h0 h1 h2 h3 h4 h5 h6 h7 h8 h9 h10 h11 h12 h13 h14 h15 h16 h17 h18 h19 : Nat) (sp : Nat → Int32) (we : Nat → Int32) (le : Nat → Int32) (ta : Nat → Int32) (num : Int32) (rooms : Nat → Int32) (purses : Nat → Int32) (showers : Nat → Int32) (homes : Nat → Int32) (paid : Nat → Int32) (hours : Int32) (house : Int32) (spent : Int32) (loans : Int32) (surges : Int32) (rate : Int32) : va_W := [(h0, .inr (0, [.ref h1, .ref h10, .ref h12, .ref h14, .ref h16, .ref h18, .int hours, .int house, .int spent, .int loans, .int surges, .int rate])), (h1, .inr (5, [.ref h2, .ref h4, .ref h6, .ref h8, .int num])), (h2, .inr (2, [.ref h3])), (h3, .inl (cI, 60, .inl sp)), (h4, .inr (2, [.ref h5])), (h5, .inl (cI, 60, .inl we)), (h6, .inr (2, [.ref h7])), (h7, .inl (cI, 60, .inl le)), (h8, .inr (2, [.ref h9])), (h9, .inl (cI, 24, .inl ta)), (h10, .inr (2, [.ref h11])), (h11, .inl (cI, 8, .inl rooms)), (h12, .inr (2, [.ref h13])), (h13, .inl (cI, 12, .inl purses)), (h14, .inr (2, [.ref h15])), (h15, .inl (cI, 12, .inl showers)), (h16, .inr (2, [.ref h17])), (h17, .inl (cI, 12, .inl homes)), (h18, .inr (2, [.ref h19])), (h19, .inl (cI, 12, .inl paid))]
end
section
-- X6_outside
def f_X6_outside (p1 : Int32) (p2 : Int32) (p3 : Int32) : Int32 :=
  (if p1 < p2 then 1 else (if p3 < p1 then 1 else 0))
abbrev rm_X6_outside : Room := { frames := 0, cells := 0, slots := 0, locals := 0 }
set_option maxHeartbeats 4000000 in
set_option maxRecDepth 100000 in
theorem c_X6_outside (l : Launch) (D : va_G) (cI cC cR : ClassId) (p1 : Int32) (p2 : Int32) (p3 : Int32) (r : Int32) (hF : f_X6_outside p1 p2 p3 = r) : MPi l yX6_outside cX6_outside 3 (some .boolean) rm_X6_outside D (TY cI cC cR) [.int p1, .int p2, .int p3] ([]) (.int r) := by
  refine me_p pn_X6 (Nat.le_of_ble_eq_true rfl) rfl (fun Γ X hret => ?_)
  unfold f_X6_outside at hF
  refine kw_iload_n X dX6_outside_0 rfl 0 rfl ?_
  refine kw_iload_n X dX6_outside_1 rfl 1 rfl ?_
  refine kw_icmp_lt X 10 dX6_outside_2 (by decide) (fun q1 => ?_) (fun q1 => ?_)
  · replace hF := (if_pos q1).symm.trans hF
    refine kw_iconst X dX6_outside_10 ci_1 ?_
    refine kw_goto X 15 dX6_outside_11 (by decide) ?_
    cases hF
    exact hret _ _ _ rfl dX6_outside_15
  · replace hF := (if_neg q1).symm.trans hF
    refine kw_iload_n X dX6_outside_5 rfl 0 rfl ?_
    refine kw_iload_n X dX6_outside_6 rfl 2 rfl ?_
    refine kw_icmp_le X 14 dX6_outside_7 (by decide) (fun q2 => ?_) (fun q2 => ?_)
    · replace hF := (if_neg q2).symm.trans hF
      refine kw_iconst X dX6_outside_14 ci_0 ?_
      cases hF
      exact hret _ _ _ rfl dX6_outside_15
    · replace hF := (if_pos q2).symm.trans hF
      refine kw_iconst X dX6_outside_10 ci_1 ?_
      refine kw_goto X 15 dX6_outside_11 (by decide) ?_
      cases hF
      exact hret _ _ _ rfl dX6_outside_15
-- X6_kindOf
def f_X6_kindOf (p1 : Int32) : Int32 :=
  (if p1 < 8 then 0 else (if p1 < 20 then 1 else (if p1 < 22 then 2 else (if p1 = 22 then 3 else 4))))
abbrev rm_X6_kindOf : Room := { frames := 0, cells := 0, slots := 0, locals := 0 }
set_option maxHeartbeats 4000000 in
set_option maxRecDepth 100000 in
theorem c_X6_kindOf (l : Launch) (D : va_G) (cI cC cR : ClassId) (p1 : Int32) (r : Int32) (hF : f_X6_kindOf p1 = r) : MPi l yX6_kindOf cX6_kindOf 1 (some .int) rm_X6_kindOf D (TY cI cC cR) [.int p1] ([]) (.int r) := by
  refine me_p pn_X6 (Nat.le_of_ble_eq_true rfl) rfl (fun Γ X hret => ?_)
  unfold f_X6_kindOf at hF
  refine kw_iload_n X dX6_kindOf_0 rfl 0 rfl ?_
  refine kw_bipush X dX6_kindOf_1 cb_8 ?_
  refine kw_icmp_ge X 8 dX6_kindOf_3 (by decide) (fun q1 => ?_) (fun q1 => ?_)
  · replace hF := (if_neg q1).symm.trans hF
    refine kw_iload_n X dX6_kindOf_8 rfl 0 rfl ?_
    refine kw_bipush X dX6_kindOf_9 cb_20 ?_
    refine kw_icmp_ge X 16 dX6_kindOf_11 (by decide) (fun q2 => ?_) (fun q2 => ?_)
    · replace hF := (if_neg q2).symm.trans hF
      refine kw_iload_n X dX6_kindOf_16 rfl 0 rfl ?_
      refine kw_bipush X dX6_kindOf_17 cb_22 ?_
      refine kw_icmp_ge X 24 dX6_kindOf_19 (by decide) (fun q3 => ?_) (fun q3 => ?_)
      · replace hF := (if_neg q3).symm.trans hF
        refine kw_iload_n X dX6_kindOf_24 rfl 0 rfl ?_
        refine kw_bipush X dX6_kindOf_25 cb_22 ?_
        refine kw_icmp_ne X 34 dX6_kindOf_27 (by decide) (fun q4 => ?_) (fun q4 => ?_)
        · replace hF := (if_neg q4).symm.trans hF
          refine kw_iconst X dX6_kindOf_34 ci_4 ?_
          cases hF
          exact hret _ _ _ (vp_nar_int _) dX6_kindOf_35
        · replace hF := (if_pos q4).symm.trans hF
          refine kw_iconst X dX6_kindOf_30 ci_3 ?_
          refine kw_goto X 35 dX6_kindOf_31 (by decide) ?_
          cases hF
          exact hret _ _ _ (vp_nar_int _) dX6_kindOf_35
      · replace hF := (if_pos q3).symm.trans hF
        refine kw_iconst X dX6_kindOf_22 ci_2 ?_
        cases hF
        exact hret _ _ _ (vp_nar_int _) dX6_kindOf_23
    · replace hF := (if_pos q2).symm.trans hF
      refine kw_iconst X dX6_kindOf_14 ci_1 ?_
      cases hF
      exact hret _ _ _ (vp_nar_int _) dX6_kindOf_15
  · replace hF := (if_pos q1).symm.trans hF
    refine kw_iconst X dX6_kindOf_6 ci_0 ?_
    cases hF
    exact hret _ _ _ (vp_nar_int _) dX6_kindOf_7
-- X6_ownerOf
def f_X6_ownerOf (p1 : Int32) : Int32 :=
  (if (f_X6_kindOf p1) = 0 then p1 else (if (f_X6_kindOf p1) = 1 then (p1 - 8) else (if (f_X6_kindOf p1) = 2 then (p1 - 20) else (-9))))
abbrev rm_X6_ownerOf : Room := { frames := 1, cells := 0, slots := 0, locals := 20 }
set_option maxHeartbeats 4000000 in
set_option maxRecDepth 100000 in
theorem c_X6_ownerOf (l : Launch) (D : va_G) (cI cC cR : ClassId) (p1 : Int32) (r : Int32) (hF : f_X6_ownerOf p1 = r) : MPi l yX6_ownerOf cX6_ownerOf 1 (some .int) rm_X6_ownerOf D (TY cI cC cR) [.int p1] ([]) (.int r) := by
  refine me_p pn_X6 (Nat.le_of_ble_eq_true rfl) rfl (fun Γ X hret => ?_)
  unfold f_X6_ownerOf at hF
  refine kw_iload_n X dX6_ownerOf_0 rfl 0 rfl ?_
  refine kw_sp X (r := .int (f_X6_kindOf p1)) (As := [.int p1]) (st := []) (c_X6_kindOf l D cI cC cR  p1 (f_X6_kindOf p1) rfl) vl_X6_209 yv_X6_kindOf ⟨Nat.le_of_ble_eq_true rfl, Nat.le_of_ble_eq_true rfl⟩ ⟨rfl, rfl⟩ ⟨Nat.zero_le _, Nat.zero_le _⟩ [] rfl rfl rfl rfl (Nat.le_of_ble_eq_true rfl) dX6_ownerOf_1 ?_
  by_cases q1 : (f_X6_kindOf p1) = 0
  · replace hF := (if_pos q1).symm.trans hF
    refine kw_tblIn X 32 dX6_ownerOf_4 (by rw [q1]; decide) (by rw [q1]; decide) (by rw [q1]; rfl) (by decide) ?_
    refine kw_iload_n X dX6_ownerOf_32 rfl 0 rfl ?_
    cases hF
    exact hret _ _ _ (vp_nar_int _) dX6_ownerOf_33
  · replace hF := (if_neg q1).symm.trans hF
    by_cases q2 : (f_X6_kindOf p1) = 1
    · replace hF := (if_pos q2).symm.trans hF
      refine kw_tblIn X 34 dX6_ownerOf_4 (by rw [q2]; decide) (by rw [q2]; decide) (by rw [q2]; rfl) (by decide) ?_
      refine kw_iload_n X dX6_ownerOf_34 rfl 0 rfl ?_
      refine kw_bipush X dX6_ownerOf_35 cb_8 ?_
      refine kw_isub X dX6_ownerOf_37 ?_
      cases hF
      exact hret _ _ _ (vp_nar_int _) dX6_ownerOf_38
    · replace hF := (if_neg q2).symm.trans hF
      by_cases q3 : (f_X6_kindOf p1) = 2
      · replace hF := (if_pos q3).symm.trans hF
        refine kw_tblIn X 39 dX6_ownerOf_4 (by rw [q3]; decide) (by rw [q3]; decide) (by rw [q3]; rfl) (by decide) ?_
        refine kw_iload_n X dX6_ownerOf_39 rfl 0 rfl ?_
        refine kw_bipush X dX6_ownerOf_40 cb_20 ?_
        refine kw_isub X dX6_ownerOf_42 ?_
        cases hF
        exact hret _ _ _ (vp_nar_int _) dX6_ownerOf_43
      · replace hF := (if_neg q3).symm.trans hF
        have n0 := ne_toInt q1 (n := 0) (by decide)
        have n1 := ne_toInt q2 (n := 1) (by decide)
        have n2 := ne_toInt q3 (n := 2) (by decide)
        refine kw_tblOut X 44 dX6_ownerOf_4 (by omega) (by decide) ?_
        refine kw_bipush X dX6_ownerOf_44 cb_m9 ?_
        cases hF
        exact hret _ _ _ (vp_nar_int _) dX6_ownerOf_46
-- X6_wornBy
def f_X6_wornBy (p1 : Int32) (p2 : Int32) (p3 : Int32) : Int32 :=
  (pl1 (if p1 < 16 then p2 else (2 * p2)) (fun (x2 : Int32) => (imin 64 ((p1 + x2) + (2 * p3)))))
abbrev rm_X6_wornBy : Room := { frames := 1, cells := 0, slots := 0, locals := 21 }
set_option maxHeartbeats 4000000 in
set_option maxRecDepth 100000 in
theorem c_X6_wornBy (l : Launch) (D : va_G) (cI cC cR : ClassId) (p1 : Int32) (p2 : Int32) (p3 : Int32) (r : Int32) (hF : f_X6_wornBy p1 p2 p3 = r) : MPi l yX6_wornBy cX6_wornBy 4 (some .int) rm_X6_wornBy D (TY cI cC cR) [.int p1, .int p2, .int p3] ([]) (.int r) := by
  refine me_p pn_X6 (Nat.le_of_ble_eq_true rfl) rfl (fun Γ X hret => ?_)
  unfold f_X6_wornBy at hF
  refine kw_iload_n X dX6_wornBy_0 rfl 0 rfl ?_
  refine kw_bipush X dX6_wornBy_1 cb_16 ?_
  obtain ⟨x2, hx, hF⟩ := pl1_ex hF
  have J : KW Γ 0 0 ([]) [(0, .int p1), (2, .int p3)] 13 [.int x2] := by
    refine kw_istore_n (lo' := [(0, .int p1), (2, .int p3), (3, .int x2)]) X dX6_wornBy_13 rfl (by decide) [1, 2, 0] rfl ?_
    refine kw_bipush X dX6_wornBy_14 cb_64 ?_
    refine kw_iload_n X dX6_wornBy_16 rfl 0 rfl ?_
    refine kw_iload_n X dX6_wornBy_17 rfl 2 rfl ?_
    refine kw_iadd X dX6_wornBy_18 ?_
    refine kw_iconst X dX6_wornBy_19 ci_2 ?_
    refine kw_iload_n X dX6_wornBy_20 rfl 1 rfl ?_
    refine kw_imul X dX6_wornBy_21 ?_
    refine kw_iadd X dX6_wornBy_22 ?_
    refine kw_mmin X gw_416 gw_316 gw_54 gw_317 ⟨Nat.le_of_ble_eq_true rfl, Nat.le_of_ble_eq_true rfl⟩ ⟨Nat.zero_le _, Nat.zero_le _⟩ dX6_wornBy_23 ?_
    cases hF
    exact hret _ _ _ (vp_nar_int _) dX6_wornBy_26
  replace hF := hx
  refine kw_icmp_ge X 10 dX6_wornBy_3 (by decide) (fun q1 => ?_) (fun q1 => ?_)
  · replace hF := (if_neg q1).symm.trans hF
    refine kw_iconst X dX6_wornBy_10 ci_2 ?_
    refine kw_iload_n X dX6_wornBy_11 rfl 1 rfl ?_
    refine kw_imul X dX6_wornBy_12 ?_
    refine kw_loc (lo' := [(0, .int p1), (2, .int p3)]) [0, 2] rfl ?_
    cases hF
    exact J
  · replace hF := (if_pos q1).symm.trans hF
    refine kw_iload_n X dX6_wornBy_6 rfl 1 rfl ?_
    refine kw_goto X 13 dX6_wornBy_7 (by decide) ?_
    refine kw_loc (lo' := [(0, .int p1), (2, .int p3)]) [0, 2] rfl ?_
    cases hF
    exact J
-- X2_at
def f_X2_at (N : Nat) (c : Nat → Int32) (p1 : Int32) : Int32 :=
  (if p1 < 0 then 0 else (if p1 < (nI N) then (c p1.toNatClampNeg) else 0))
abbrev rm_X2_at : Room := { frames := 0, cells := 0, slots := 0, locals := 0 }
set_option maxHeartbeats 4000000 in
set_option maxRecDepth 100000 in
theorem c_X2_at (l : Launch) (D : va_G) (cI cC cR : ClassId) (h0 h1 : Nat) (N : Nat) (hN : N < 2 ^ 31) (c : Nat → Int32) (p1 : Int32) (r : Int32) (hF : f_X2_at N c p1 = r) : MPi l yX2_at cX2_at 2 (some .int) rm_X2_at D (TY cI cC cR) [.ref h0, .int p1] (wX2 cI h0 h1 N c) (.int r) := by
  refine me_p pn_X2 (Nat.le_of_ble_eq_true rfl) rfl (fun Γ X hret => ?_)
  unfold f_X2_at at hF
  refine kw_iload_n X dX2_at_0 rfl 1 rfl ?_
  refine kw_if_lt X 22 dX2_at_1 (by decide) (fun q1 => ?_) (fun q1 => ?_)
  · replace hF := (if_pos q1).symm.trans hF
    refine kw_iconst X dX2_at_22 ci_0 ?_
    cases hF
    exact hret _ _ _ (vp_nar_int _) dX2_at_23
  · replace hF := (if_neg q1).symm.trans hF
    refine kw_iload_n X dX2_at_4 rfl 1 rfl ?_
    refine kw_aload_n X dX2_at_5 rfl 0 rfl ?_
    refine kw_get X inX2 0 rfl rfl 0 (by decide) rfl gw_98 rfl dX2_at_6 ?_
    refine kw_alen (v := (nI N)) X 1 0 rfl rfl rfl dX2_at_9 ?_
    refine kw_icmp_ge X 22 dX2_at_10 (by decide) (fun q2 => ?_) (fun q2 => ?_)
    · replace hF := (if_neg q2).symm.trans hF
      refine kw_iconst X dX2_at_22 ci_0 ?_
      cases hF
      exact hret _ _ _ (vp_nar_int _) dX2_at_23
    · replace hF := (if_pos q2).symm.trans hF
      refine kw_aload_n X dX2_at_13 rfl 0 rfl ?_
      refine kw_get X inX2 0 rfl rfl 0 (by decide) rfl gw_98 rfl dX2_at_14 ?_
      refine kw_iload_n X dX2_at_17 rfl 1 rfl ?_
      refine kw_iald X 1 0 rfl rfl (vp_ok q1 q2 hN) rfl dX2_at_18 ?_
      refine kw_goto X 23 dX2_at_19 (by decide) ?_
      cases hF
      exact hret _ _ _ (vp_nar_int _) dX2_at_23
-- X2_put
def f_X2_put (N : Nat) (c : Nat → Int32) (p1 : Int32) (p2 : Int32) : (Nat → Int32) :=
  (if p1 < 0 then c else (if p1 < (nI N) then (upd c p1.toNatClampNeg p2) else c))
abbrev rm_X2_put : Room := { frames := 0, cells := 0, slots := 0, locals := 0 }
set_option maxHeartbeats 4000000 in
set_option maxRecDepth 100000 in
theorem c_X2_put (l : Launch) (D : va_G) (cI cC cR : ClassId) (h0 h1 : Nat) (N : Nat) (hN : N < 2 ^ 31) (c : Nat → Int32) (p1 : Int32) (p2 : Int32) (c' : Nat → Int32) (hF : f_X2_put N c p1 p2 = c') : MEq l yX2_put cX2_put 3 none rm_X2_put D (TY cI cC cR) [.ref h0, .int p1, .int p2] (wX2 cI h0 h1 N c) (wX2 cI h0 h1 N c') none := by
  refine me_v pn_X2 (Nat.le_of_ble_eq_true rfl) rfl (fun Γ X E hret => ?_)
  unfold f_X2_put at hF
  refine kw_iload_n X dX2_put_0 rfl 1 rfl ?_
  refine kw_if_lt X 20 dX2_put_1 (by decide) (fun q1 => ?_) (fun q1 => ?_)
  · replace hF := (if_pos q1).symm.trans hF
    cases hF
    exact hret _ _ dX2_put_20
  · replace hF := (if_neg q1).symm.trans hF
    refine kw_iload_n X dX2_put_4 rfl 1 rfl ?_
    refine kw_aload_n X dX2_put_5 rfl 0 rfl ?_
    refine kw_get X inX2 0 rfl rfl 0 (by decide) rfl gw_98 rfl dX2_put_6 ?_
    refine kw_alen (v := (nI N)) X 1 0 rfl rfl rfl dX2_put_9 ?_
    refine kw_icmp_ge X 20 dX2_put_10 (by decide) (fun q2 => ?_) (fun q2 => ?_)
    · replace hF := (if_neg q2).symm.trans hF
      cases hF
      exact hret _ _ dX2_put_20
    · replace hF := (if_pos q2).symm.trans hF
      refine kw_aload_n X dX2_put_13 rfl 0 rfl ?_
      refine kw_get X inX2 0 rfl rfl 0 (by decide) rfl gw_98 rfl dX2_put_14 ?_
      refine kw_iload_n X dX2_put_17 rfl 1 rfl ?_
      refine kw_iload_n X dX2_put_18 rfl 2 rfl ?_
      refine kw_iast X E 1 0 rfl rfl (vp_ok q1 q2 hN) (ws' := wX2 cI h0 h1 N (upd c p1.toNatClampNeg p2)) rfl dX2_put_19 ?_
      cases hF
      exact hret _ _ dX2_put_20
-- X2_add
def f_X2_add (N : Nat) (c : Nat → Int32) (p1 : Int32) (p2 : Int32) : (Nat → Int32) :=
  (if p1 < 0 then c else (if p1 < (nI N) then (upd c p1.toNatClampNeg ((c p1.toNatClampNeg) + p2)) else c))
abbrev rm_X2_add : Room := { frames := 0, cells := 0, slots := 0, locals := 0 }
set_option maxHeartbeats 4000000 in
set_option maxRecDepth 100000 in
theorem c_X2_add (l : Launch) (D : va_G) (cI cC cR : ClassId) (h0 h1 : Nat) (N : Nat) (hN : N < 2 ^ 31) (c : Nat → Int32) (p1 : Int32) (p2 : Int32) (c' : Nat → Int32) (hF : f_X2_add N c p1 p2 = c') : MEq l yX2_add cX2_add 3 none rm_X2_add D (TY cI cC cR) [.ref h0, .int p1, .int p2] (wX2 cI h0 h1 N c) (wX2 cI h0 h1 N c') none := by
  refine me_v pn_X2 (Nat.le_of_ble_eq_true rfl) rfl (fun Γ X E hret => ?_)
  unfold f_X2_add at hF
  refine kw_iload_n X dX2_add_0 rfl 1 rfl ?_
  refine kw_if_lt X 23 dX2_add_1 (by decide) (fun q1 => ?_) (fun q1 => ?_)
  · replace hF := (if_pos q1).symm.trans hF
    cases hF
    exact hret _ _ dX2_add_23
  · replace hF := (if_neg q1).symm.trans hF
    refine kw_iload_n X dX2_add_4 rfl 1 rfl ?_
    refine kw_aload_n X dX2_add_5 rfl 0 rfl ?_
    refine kw_get X inX2 0 rfl rfl 0 (by decide) rfl gw_98 rfl dX2_add_6 ?_
    refine kw_alen (v := (nI N)) X 1 0 rfl rfl rfl dX2_add_9 ?_
    refine kw_icmp_ge X 23 dX2_add_10 (by decide) (fun q2 => ?_) (fun q2 => ?_)
    · replace hF := (if_neg q2).symm.trans hF
      cases hF
      exact hret _ _ dX2_add_23
    · replace hF := (if_pos q2).symm.trans hF
      refine kw_aload_n X dX2_add_13 rfl 0 rfl ?_
      refine kw_get X inX2 0 rfl rfl 0 (by decide) rfl gw_98 rfl dX2_add_14 ?_
      refine kw_iload_n X dX2_add_17 rfl 1 rfl ?_
      refine kw_dup2 X dX2_add_18 rfl rfl ?_
      refine kw_iald X 1 0 rfl rfl (vp_ok q1 q2 hN) rfl dX2_add_19 ?_
      refine kw_iload_n X dX2_add_20 rfl 2 rfl ?_
      refine kw_iadd X dX2_add_21 ?_
      refine kw_iast X E 1 0 rfl rfl (vp_ok q1 q2 hN) (ws' := wX2 cI h0 h1 N (upd c p1.toNatClampNeg ((c p1.toNatClampNeg) + p2))) rfl dX2_add_22 ?_
      cases hF
      exact hret _ _ dX2_add_23
-- X2_sum
def f_X2_sum_L13 (N : Nat) (c : Nat → Int32) : Nat → Int32 → Int32 → Option (Int32)
  | 0, _, _ => none
  | F + 1, v1_8, v4_9 => (if v4_9 < (nI N) then ob1 (aget N c v4_9) (fun a11 => (f_X2_sum_L13 N c F (v1_8 + a11) (v4_9 + 1))) else (some (v1_8)))
def f_X2_sum (Z : Nat) (N : Nat) (c : Nat → Int32) : Option (Int32) :=
  (ob1 (f_X2_sum_L13 N c Z 0 0) (fun (e7 : Int32) => (some e7)))
abbrev rm_X2_sum : Room := { frames := 0, cells := 0, slots := 0, locals := 0 }
set_option maxHeartbeats 4000000 in
set_option maxRecDepth 100000 in
theorem c_X2_sum (l : Launch) (D : va_G) (cI cC cR : ClassId) (h0 h1 : Nat) (N : Nat) (hN : N < 2 ^ 31) (c : Nat → Int32) (Z : Nat) (r : Int32) (hF : f_X2_sum Z N c = some r) : MPi l yX2_sum cX2_sum 6 (some .int) rm_X2_sum D (TY cI cC cR) [.ref h0] (wX2 cI h0 h1 N c) (.int r) := by
  refine me_p pn_X2 (Nat.le_of_ble_eq_true rfl) rfl (fun Γ X hret => ?_)
  unfold f_X2_sum at hF
  refine kw_iconst X dX2_sum_0 ci_0 ?_
  refine kw_istore_n (lo' := [(0, .ref h0), (1, .int 0)]) X dX2_sum_1 rfl (by decide) [1, 0] rfl ?_
  refine kw_aload_n X dX2_sum_2 rfl 0 rfl ?_
  refine kw_get X inX2 0 rfl rfl 0 (by decide) rfl gw_98 rfl dX2_sum_3 ?_
  refine kw_astore_n (lo' := [(0, .ref h0), (1, .int 0), (2, .ref h1)]) X dX2_sum_6 rfl (by decide) [1, 2, 0] rfl ?_
  refine kw_aload_n X dX2_sum_7 rfl 2 rfl ?_
  refine kw_alen (v := (nI N)) X 1 0 rfl rfl rfl dX2_sum_8 ?_
  refine kw_istore_n (lo' := [(0, .ref h0), (1, .int 0), (2, .ref h1), (3, .int (nI N))]) X dX2_sum_9 rfl (by decide) [1, 2, 3, 0] rfl ?_
  refine kw_iconst X dX2_sum_10 ci_0 ?_
  refine kw_istore (lo' := [(0, .ref h0), (1, .int 0), (2, .ref h1), (3, .int (nI N)), (4, .int 0)]) X dX2_sum_11 (by decide) [1, 2, 3, 4, 0] rfl ?_
  refine kw_loc (lo' := [(1, .int 0), (2, .ref h1), (3, .int (nI N)), (4, .int 0)]) [1, 2, 3, 4] rfl ?_
  obtain ⟨e7, hx, hF⟩ := ob1_ex hF
  have J : KW Γ 0 0 (wX2 cI h0 h1 N c) [(1, .int e7)] 36 [] := by
    refine kw_iload_n X dX2_sum_36 rfl 0 rfl ?_
    cases hF
    exact hret _ _ _ (vp_nar_int _) dX2_sum_37
  have hL13 : ∀ (F : Nat) (v1_8 : Int32) (v4_9 : Int32), f_X2_sum_L13 N c F v1_8 v4_9 = some (e7) → KW Γ 0 0 (wX2 cI h0 h1 N c) [(1, .int v1_8), (2, .ref h1), (3, .int (nI N)), (4, .int v4_9)] 13 [] := by
    intro F
    induction F with
    | zero => intro v1_8 v4_9 hF; exact none_some hF
    | succ F ih13 =>
      intro v1_8 v4_9 hF
      rw [f_X2_sum_L13] at hF
      refine kw_iload X dX2_sum_13 3 rfl ?_
      refine kw_iload_n X dX2_sum_15 rfl 2 rfl ?_
      refine kw_icmp_ge X 36 dX2_sum_16 (by decide) (fun q10 => ?_) (fun q10 => ?_)
      · replace hF := (if_neg q10).symm.trans hF
        refine kw_loc (lo' := [(1, .int v1_8)]) [0] rfl ?_
        cases hF
        exact J
      · replace hF := (if_pos q10).symm.trans hF
        refine kw_aload_n X dX2_sum_19 rfl 1 rfl ?_
        refine kw_iload X dX2_sum_20 3 rfl ?_
        obtain ⟨a11, hx, hF⟩ := ob1_ex hF
        obtain ⟨hin, hx⟩ := aget_ex hx
        refine kw_iald X 1 0 rfl rfl hin hx dX2_sum_22 ?_
        refine kw_istore (lo' := [(1, .int v1_8), (2, .ref h1), (3, .int (nI N)), (4, .int v4_9), (5, .int a11)]) X dX2_sum_23 (by decide) [1, 2, 3, 4, 0] rfl ?_
        refine kw_iload_n X dX2_sum_25 rfl 0 rfl ?_
        refine kw_iload X dX2_sum_26 4 rfl ?_
        refine kw_iadd X dX2_sum_28 ?_
        refine kw_istore_n (lo' := [(1, .int (v1_8 + a11)), (2, .ref h1), (3, .int (nI N)), (4, .int v4_9), (5, .int a11)]) X dX2_sum_29 rfl (by decide) [0, 1, 2, 3, 4] rfl ?_
        refine kw_iinc (lo' := [(1, .int (v1_8 + a11)), (2, .ref h1), (3, .int (nI N)), (4, .int (v4_9 + 1)), (5, .int a11)]) X dX2_sum_30 3 rfl (congrArg (fun w => v4_9 + w) ci_1) (by decide) [1, 2, 3, 0, 4] rfl ?_
        refine kw_goto X 13 dX2_sum_33 (by decide) ?_
        refine kw_loc (lo' := [(1, .int (v1_8 + a11)), (2, .ref h1), (3, .int (nI N)), (4, .int (v4_9 + 1))]) [0, 1, 2, 3] rfl ?_
        exact ih13 _ _ hF
  exact hL13 Z _ _ hx
-- X5_addNew
def f_X5_addNew (sp : Nat → Int32) (ta : Nat → Int32) (num : Int32) (p1 : Int32) : (Nat → Int32) × (Nat → Int32) × Int32 :=
  ((f_X2_put 60 sp num p1), (f_X2_add 24 ta p1 1), (num + 1))
abbrev rm_X5_addNew : Room := { frames := 1, cells := 0, slots := 0, locals := 22 }
set_option maxHeartbeats 4000000 in
set_option maxRecDepth 100000 in
theorem c_X5_addNew (l : Launch) (D : va_G) (cI cC cR : ClassId) (h0 h1 h2 h3 h4 h5 h6 h7 h8 : Nat) (sp : Nat → Int32) (we : Nat → Int32) (le : Nat → Int32) (ta : Nat → Int32) (num : Int32) (p1 : Int32) (sp' : Nat → Int32) (ta' : Nat → Int32) (num' : Int32) (hF : f_X5_addNew sp ta num p1 = (sp', ta', num')) : MEq l yX5_addNew cX5_addNew 2 none rm_X5_addNew D (TY cI cC cR) [.ref h0, .int p1] (wX5 cI h0 h1 h2 h3 h4 h5 h6 h7 h8 sp we le ta num) (wX5 cI h0 h1 h2 h3 h4 h5 h6 h7 h8 sp' we le ta' num') none := by
  refine me_v pn_X5 (Nat.le_of_ble_eq_true rfl) rfl (fun Γ X E hret => ?_)
  unfold f_X5_addNew at hF
  refine kw_aload_n X dX5_addNew_0 rfl 0 rfl ?_
  refine kw_get X inX5 0 rfl rfl 0 (by decide) rfl gw_103 rfl dX5_addNew_1 ?_
  refine kw_aload_n X dX5_addNew_4 rfl 0 rfl ?_
  refine kw_get X inX5 0 rfl rfl 4 (by decide) rfl gw_113 rfl dX5_addNew_5 ?_
  refine kw_iload_n X dX5_addNew_8 rfl 1 rfl ?_
  refine kw_vev X (As := [.int num, .int p1]) (st := []) (ws' := wX5 cI h0 h1 h2 h3 h4 h5 h6 h7 h8 (f_X2_put 60 sp num p1) we le ta num) E (c_X2_put l D cI cC cR h1 h2 60 (by decide) sp num p1 (f_X2_put 60 sp num p1) rfl) vl_X5_37 yv_X2_put ⟨Nat.le_of_ble_eq_true rfl, Nat.le_of_ble_eq_true rfl⟩ ⟨rfl, rfl⟩ ⟨Nat.zero_le _, Nat.zero_le _⟩ 1 rfl rfl [1, 2] rfl rfl rfl rfl (Nat.le_of_ble_eq_true rfl) dX5_addNew_9 [h1, h2] rfl rfl rfl ?_
  refine kw_aload_n X dX5_addNew_12 rfl 0 rfl ?_
  refine kw_get X inX5 0 rfl rfl 3 (by decide) rfl gw_112 rfl dX5_addNew_13 ?_
  refine kw_iload_n X dX5_addNew_16 rfl 1 rfl ?_
  refine kw_iconst X dX5_addNew_17 ci_1 ?_
  refine kw_vev X (As := [.int p1, .int 1]) (st := []) (ws' := wX5 cI h0 h1 h2 h3 h4 h5 h6 h7 h8 (f_X2_put 60 sp num p1) we le (f_X2_add 24 ta p1 1) num) E (c_X2_add l D cI cC cR h7 h8 24 (by decide) ta p1 1 (f_X2_add 24 ta p1 1) rfl) vl_X5_40 yv_X2_add ⟨Nat.le_of_ble_eq_true rfl, Nat.le_of_ble_eq_true rfl⟩ ⟨rfl, rfl⟩ ⟨Nat.zero_le _, Nat.zero_le _⟩ 7 rfl rfl [7, 8] rfl rfl rfl rfl (Nat.le_of_ble_eq_true rfl) dX5_addNew_18 [h7, h8] rfl rfl rfl ?_
  refine kw_aload_n X dX5_addNew_21 rfl 0 rfl ?_
  refine kw_dup X dX5_addNew_22 rfl ?_
  refine kw_get X inX5 0 rfl rfl 4 (by decide) rfl gw_113 rfl dX5_addNew_23 ?_
  refine kw_iconst X dX5_addNew_26 ci_1 ?_
  refine kw_iadd X dX5_addNew_27 ?_
  refine kw_put X E inX5 tyX5 tyX5_ok nmX5 0 rfl rfl 4 (by decide) rfl gw_113 rfl pfd_I (vp_nar_int _) rfl (Nat.le_of_ble_eq_true rfl) (ws' := wX5 cI h0 h1 h2 h3 h4 h5 h6 h7 h8 (f_X2_put 60 sp num p1) we le (f_X2_add 24 ta p1 1) (num + 1)) rfl dX5_addNew_28 ?_
  cases hF
  exact hret _ _ dX5_addNew_31
-- X5_move
def f_X5_move (sp : Nat → Int32) (ta : Nat → Int32) (p1 : Int32) (p2 : Int32) : (Nat → Int32) × (Nat → Int32) :=
  ((f_X2_put 60 sp p1 p2), (f_X2_add 24 (f_X2_add 24 ta (f_X2_at 60 sp p1) (-1)) p2 1))
abbrev rm_X5_move : Room := { frames := 1, cells := 0, slots := 0, locals := 22 }
set_option maxHeartbeats 4000000 in
set_option maxRecDepth 100000 in
theorem c_X5_move (l : Launch) (D : va_G) (cI cC cR : ClassId) (h0 h1 h2 h3 h4 h5 h6 h7 h8 : Nat) (sp : Nat → Int32) (we : Nat → Int32) (le : Nat → Int32) (ta : Nat → Int32) (num : Int32) (p1 : Int32) (p2 : Int32) (sp' : Nat → Int32) (ta' : Nat → Int32) (hF : f_X5_move sp ta p1 p2 = (sp', ta')) : MEq l yX5_move cX5_move 3 none rm_X5_move D (TY cI cC cR) [.ref h0, .int p1, .int p2] (wX5 cI h0 h1 h2 h3 h4 h5 h6 h7 h8 sp we le ta num) (wX5 cI h0 h1 h2 h3 h4 h5 h6 h7 h8 sp' we le ta' num) none := by
  refine me_v pn_X5 (Nat.le_of_ble_eq_true rfl) rfl (fun Γ X E hret => ?_)
  unfold f_X5_move at hF
  refine kw_aload_n X dX5_move_0 rfl 0 rfl ?_
  refine kw_get X inX5 0 rfl rfl 3 (by decide) rfl gw_112 rfl dX5_move_1 ?_
  refine kw_aload_n X dX5_move_4 rfl 0 rfl ?_
  refine kw_get X inX5 0 rfl rfl 0 (by decide) rfl gw_103 rfl dX5_move_5 ?_
  refine kw_iload_n X dX5_move_8 rfl 1 rfl ?_
  refine kw_vp X (r := .int (f_X2_at 60 sp p1)) (As := [.int p1]) (st := [.ref h7]) (c_X2_at l D cI cC cR h1 h2 60 (by decide) sp p1 (f_X2_at 60 sp p1) rfl) vl_X5_43 yv_X2_at ⟨Nat.le_of_ble_eq_true rfl, Nat.le_of_ble_eq_true rfl⟩ ⟨rfl, rfl⟩ ⟨Nat.zero_le _, Nat.zero_le _⟩ 1 rfl rfl [1, 2] rfl rfl rfl rfl (Nat.le_of_ble_eq_true rfl) dX5_move_9 ?_
  refine kw_iconst X dX5_move_12 ci_m1 ?_
  refine kw_vev X (As := [.int (f_X2_at 60 sp p1), .int (-1)]) (st := []) (ws' := wX5 cI h0 h1 h2 h3 h4 h5 h6 h7 h8 sp we le (f_X2_add 24 ta (f_X2_at 60 sp p1) (-1)) num) E (c_X2_add l D cI cC cR h7 h8 24 (by decide) ta (f_X2_at 60 sp p1) (-1) (f_X2_add 24 ta (f_X2_at 60 sp p1) (-1)) rfl) vl_X5_40 yv_X2_add ⟨Nat.le_of_ble_eq_true rfl, Nat.le_of_ble_eq_true rfl⟩ ⟨rfl, rfl⟩ ⟨Nat.zero_le _, Nat.zero_le _⟩ 7 rfl rfl [7, 8] rfl rfl rfl rfl (Nat.le_of_ble_eq_true rfl) dX5_move_13 [h7, h8] rfl rfl rfl ?_
  refine kw_aload_n X dX5_move_16 rfl 0 rfl ?_
  refine kw_get X inX5 0 rfl rfl 0 (by decide) rfl gw_103 rfl dX5_move_17 ?_
  refine kw_iload_n X dX5_move_20 rfl 1 rfl ?_
  refine kw_iload_n X dX5_move_21 rfl 2 rfl ?_
  refine kw_vev X (As := [.int p1, .int p2]) (st := []) (ws' := wX5 cI h0 h1 h2 h3 h4 h5 h6 h7 h8 (f_X2_put 60 sp p1 p2) we le (f_X2_add 24 ta (f_X2_at 60 sp p1) (-1)) num) E (c_X2_put l D cI cC cR h1 h2 60 (by decide) sp p1 p2 (f_X2_put 60 sp p1 p2) rfl) vl_X5_37 yv_X2_put ⟨Nat.le_of_ble_eq_true rfl, Nat.le_of_ble_eq_true rfl⟩ ⟨rfl, rfl⟩ ⟨Nat.zero_le _, Nat.zero_le _⟩ 1 rfl rfl [1, 2] rfl rfl rfl rfl (Nat.le_of_ble_eq_true rfl) dX5_move_22 [h1, h2] rfl rfl rfl ?_
  refine kw_aload_n X dX5_move_25 rfl 0 rfl ?_
  refine kw_get X inX5 0 rfl rfl 3 (by decide) rfl gw_112 rfl dX5_move_26 ?_
  refine kw_iload_n X dX5_move_29 rfl 2 rfl ?_
  refine kw_iconst X dX5_move_30 ci_1 ?_
  refine kw_vev X (As := [.int p2, .int 1]) (st := []) (ws' := wX5 cI h0 h1 h2 h3 h4 h5 h6 h7 h8 (f_X2_put 60 sp p1 p2) we le (f_X2_add 24 (f_X2_add 24 ta (f_X2_at 60 sp p1) (-1)) p2 1) num) E (c_X2_add l D cI cC cR h7 h8 24 (by decide) (f_X2_add 24 ta (f_X2_at 60 sp p1) (-1)) p2 1 (f_X2_add 24 (f_X2_add 24 ta (f_X2_at 60 sp p1) (-1)) p2 1) rfl) vl_X5_40 yv_X2_add ⟨Nat.le_of_ble_eq_true rfl, Nat.le_of_ble_eq_true rfl⟩ ⟨rfl, rfl⟩ ⟨Nat.zero_le _, Nat.zero_le _⟩ 7 rfl rfl [7, 8] rfl rfl rfl rfl (Nat.le_of_ble_eq_true rfl) dX5_move_31 [h7, h8] rfl rfl rfl ?_
  cases hF
  exact hret _ _ dX5_move_34
-- X5_isBroken
def f_X5_isBroken (we : Nat → Int32) (p1 : Int32) : Int32 :=
  (if (f_X2_at 60 we p1) < 32 then 0 else 1)
abbrev rm_X5_isBroken : Room := { frames := 1, cells := 0, slots := 0, locals := 21 }
set_option maxHeartbeats 4000000 in
set_option maxRecDepth 100000 in
theorem c_X5_isBroken (l : Launch) (D : va_G) (cI cC cR : ClassId) (h0 h1 h2 h3 h4 h5 h6 h7 h8 : Nat) (sp : Nat → Int32) (we : Nat → Int32) (le : Nat → Int32) (ta : Nat → Int32) (num : Int32) (p1 : Int32) (r : Int32) (hF : f_X5_isBroken we p1 = r) : MPi l yX5_isBroken cX5_isBroken 2 (some .boolean) rm_X5_isBroken D (TY cI cC cR) [.ref h0, .int p1] (wX5 cI h0 h1 h2 h3 h4 h5 h6 h7 h8 sp we le ta num) (.int r) := by
  refine me_p pn_X5 (Nat.le_of_ble_eq_true rfl) rfl (fun Γ X hret => ?_)
  unfold f_X5_isBroken at hF
  refine kw_aload_n X dX5_isBroken_0 rfl 0 rfl ?_
  refine kw_get X inX5 0 rfl rfl 1 (by decide) rfl gw_106 rfl dX5_isBroken_1 ?_
  refine kw_iload_n X dX5_isBroken_4 rfl 1 rfl ?_
  refine kw_vp X (r := .int (f_X2_at 60 we p1)) (As := [.int p1]) (st := []) (c_X2_at l D cI cC cR h3 h4 60 (by decide) we p1 (f_X2_at 60 we p1) rfl) vl_X5_43 yv_X2_at ⟨Nat.le_of_ble_eq_true rfl, Nat.le_of_ble_eq_true rfl⟩ ⟨rfl, rfl⟩ ⟨Nat.zero_le _, Nat.zero_le _⟩ 3 rfl rfl [3, 4] rfl rfl rfl rfl (Nat.le_of_ble_eq_true rfl) dX5_isBroken_5 ?_
  refine kw_bipush X dX5_isBroken_8 cb_32 ?_
  refine kw_icmp_lt X 17 dX5_isBroken_10 (by decide) (fun q1 => ?_) (fun q1 => ?_)
  · replace hF := (if_pos q1).symm.trans hF
    refine kw_iconst X dX5_isBroken_17 ci_0 ?_
    cases hF
    exact hret _ _ _ rfl dX5_isBroken_18
  · replace hF := (if_neg q1).symm.trans hF
    refine kw_iconst X dX5_isBroken_13 ci_1 ?_
    refine kw_goto X 18 dX5_isBroken_14 (by decide) ?_
    cases hF
    exact hret _ _ _ rfl dX5_isBroken_18
-- X5_numberAt
def f_X5_numberAt (ta : Nat → Int32) (p1 : Int32) : Int32 :=
  (f_X2_at 24 ta p1)
abbrev rm_X5_numberAt : Room := { frames := 1, cells := 0, slots := 0, locals := 21 }
set_option maxHeartbeats 4000000 in
set_option maxRecDepth 100000 in
theorem c_X5_numberAt (l : Launch) (D : va_G) (cI cC cR : ClassId) (h0 h1 h2 h3 h4 h5 h6 h7 h8 : Nat) (sp : Nat → Int32) (we : Nat → Int32) (le : Nat → Int32) (ta : Nat → Int32) (num : Int32) (p1 : Int32) (r : Int32) (hF : f_X5_numberAt ta p1 = r) : MPi l yX5_numberAt cX5_numberAt 2 (some .int) rm_X5_numberAt D (TY cI cC cR) [.ref h0, .int p1] (wX5 cI h0 h1 h2 h3 h4 h5 h6 h7 h8 sp we le ta num) (.int r) := by
  refine me_p pn_X5 (Nat.le_of_ble_eq_true rfl) rfl (fun Γ X hret => ?_)
  unfold f_X5_numberAt at hF
  refine kw_aload_n X dX5_numberAt_0 rfl 0 rfl ?_
  refine kw_get X inX5 0 rfl rfl 3 (by decide) rfl gw_112 rfl dX5_numberAt_1 ?_
  refine kw_iload_n X dX5_numberAt_4 rfl 1 rfl ?_
  refine kw_vp X (r := .int (f_X2_at 24 ta p1)) (As := [.int p1]) (st := []) (c_X2_at l D cI cC cR h7 h8 24 (by decide) ta p1 (f_X2_at 24 ta p1) rfl) vl_X5_43 yv_X2_at ⟨Nat.le_of_ble_eq_true rfl, Nat.le_of_ble_eq_true rfl⟩ ⟨rfl, rfl⟩ ⟨Nat.zero_le _, Nat.zero_le _⟩ 7 rfl rfl [7, 8] rfl rfl rfl rfl (Nat.le_of_ble_eq_true rfl) dX5_numberAt_5 ?_
  cases hF
  exact hret _ _ _ (vp_nar_int _) dX5_numberAt_8
-- X5_numberOfKind
def f_X5_numberOfKind_L4 (ta : Nat → Int32) (p1 : Int32) : Nat → Int32 → Int32 → Option (Int32)
  | 0, _, _ => none
  | F + 1, v2_10, v3_11 => (if 23 < v3_11 then (some (v2_10)) else (pl1 (if (f_X6_kindOf v3_11) = p1 then (v2_10 + (f_X5_numberAt ta v3_11)) else v2_10) (fun (v2_14 : Int32) => (f_X5_numberOfKind_L4 ta p1 F v2_14 (v3_11 + 1)))))
def f_X5_numberOfKind (Z : Nat) (ta : Nat → Int32) (p1 : Int32) : Option (Int32) :=
  (ob1 (f_X5_numberOfKind_L4 ta p1 Z 0 0) (fun (e9 : Int32) => (some e9)))
abbrev rm_X5_numberOfKind : Room := { frames := 2, cells := 0, slots := 0, locals := 42 }
set_option maxHeartbeats 4000000 in
set_option maxRecDepth 100000 in
theorem c_X5_numberOfKind (l : Launch) (D : va_G) (cI cC cR : ClassId) (h0 h1 h2 h3 h4 h5 h6 h7 h8 : Nat) (sp : Nat → Int32) (we : Nat → Int32) (le : Nat → Int32) (ta : Nat → Int32) (num : Int32) (p1 : Int32) (Z : Nat) (r : Int32) (hF : f_X5_numberOfKind Z ta p1 = some r) : MPi l yX5_numberOfKind cX5_numberOfKind 4 (some .int) rm_X5_numberOfKind D (TY cI cC cR) [.ref h0, .int p1] (wX5 cI h0 h1 h2 h3 h4 h5 h6 h7 h8 sp we le ta num) (.int r) := by
  refine me_p pn_X5 (Nat.le_of_ble_eq_true rfl) rfl (fun Γ X hret => ?_)
  unfold f_X5_numberOfKind at hF
  refine kw_iconst X dX5_numberOfKind_0 ci_0 ?_
  refine kw_istore_n (lo' := [(0, .ref h0), (1, .int p1), (2, .int 0)]) X dX5_numberOfKind_1 rfl (by decide) [1, 2, 0] rfl ?_
  refine kw_iconst X dX5_numberOfKind_2 ci_0 ?_
  refine kw_istore_n (lo' := [(0, .ref h0), (1, .int p1), (2, .int 0), (3, .int 0)]) X dX5_numberOfKind_3 rfl (by decide) [1, 2, 3, 0] rfl ?_
  obtain ⟨e9, hx, hF⟩ := ob1_ex hF
  have J : KW Γ 0 0 (wX5 cI h0 h1 h2 h3 h4 h5 h6 h7 h8 sp we le ta num) [(2, .int e9)] 32 [] := by
    refine kw_iload_n X dX5_numberOfKind_32 rfl 0 rfl ?_
    cases hF
    exact hret _ _ _ (vp_nar_int _) dX5_numberOfKind_33
  have hL4 : ∀ (F : Nat) (v2_10 : Int32) (v3_11 : Int32), f_X5_numberOfKind_L4 ta p1 F v2_10 v3_11 = some (e9) → KW Γ 0 0 (wX5 cI h0 h1 h2 h3 h4 h5 h6 h7 h8 sp we le ta num) [(0, .ref h0), (1, .int p1), (2, .int v2_10), (3, .int v3_11)] 4 [] := by
    intro F
    induction F with
    | zero => intro v2_10 v3_11 hF; exact none_some hF
    | succ F ih4 =>
      intro v2_10 v3_11 hF
      rw [f_X5_numberOfKind_L4] at hF
      refine kw_iload_n X dX5_numberOfKind_4 rfl 3 rfl ?_
      refine kw_bipush X dX5_numberOfKind_5 cb_23 ?_
      refine kw_icmp_gt X 32 dX5_numberOfKind_7 (by decide) (fun q12 => ?_) (fun q12 => ?_)
      · replace hF := (if_pos q12).symm.trans hF
        refine kw_loc (lo' := [(2, .int v2_10)]) [2] rfl ?_
        cases hF
        exact J
      · replace hF := (if_neg q12).symm.trans hF
        refine kw_iload_n X dX5_numberOfKind_10 rfl 3 rfl ?_
        refine kw_snp X (r := .int (f_X6_kindOf v3_11)) (As := [.int v3_11]) (st := []) (c_X6_kindOf l D cI cC cR  v3_11 (f_X6_kindOf v3_11) rfl) nw_31 vn_X5_47 yv_X6_kindOf ⟨Nat.le_of_ble_eq_true rfl, Nat.le_of_ble_eq_true rfl⟩ ⟨rfl, rfl⟩ ⟨Nat.zero_le _, Nat.zero_le _⟩ [] rfl rfl rfl rfl (Nat.le_of_ble_eq_true rfl) dX5_numberOfKind_11 ?_
        refine kw_iload_n X dX5_numberOfKind_14 rfl 1 rfl ?_
        obtain ⟨v2_14, hx, hF⟩ := pl1_ex hF
        have J : KW Γ 0 0 (wX5 cI h0 h1 h2 h3 h4 h5 h6 h7 h8 sp we le ta num) [(0, .ref h0), (1, .int p1), (2, .int v2_14), (3, .int v3_11)] 26 [] := by
          refine kw_iinc (lo' := [(0, .ref h0), (1, .int p1), (2, .int v2_14), (3, .int (v3_11 + 1))]) X dX5_numberOfKind_26 3 rfl (congrArg (fun w => v3_11 + w) ci_1) (by decide) [1, 2, 3, 0] rfl ?_
          refine kw_goto X 4 dX5_numberOfKind_29 (by decide) ?_
          exact ih4 _ _ hF
        replace hF := hx
        refine kw_icmp_ne X 26 dX5_numberOfKind_15 (by decide) (fun q13 => ?_) (fun q13 => ?_)
        · replace hF := (if_neg q13).symm.trans hF
          cases hF
          exact J
        · replace hF := (if_pos q13).symm.trans hF
          refine kw_iload_n X dX5_numberOfKind_18 rfl 2 rfl ?_
          refine kw_aload_n X dX5_numberOfKind_19 rfl 0 rfl ?_
          refine kw_iload_n X dX5_numberOfKind_20 rfl 3 rfl ?_
          refine kw_vp X (r := .int (f_X5_numberAt ta v3_11)) (As := [.int v3_11]) (st := [.int v2_10]) (c_X5_numberAt l D cI cC cR h0 h1 h2 h3 h4 h5 h6 h7 h8 sp we le ta num v3_11 (f_X5_numberAt ta v3_11) rfl) vl_X5_50 yv_X5_numberAt ⟨Nat.le_of_ble_eq_true rfl, Nat.le_of_ble_eq_true rfl⟩ ⟨rfl, rfl⟩ ⟨Nat.zero_le _, Nat.zero_le _⟩ 0 rfl rfl [0, 1, 2, 3, 4, 5, 6, 7, 8] rfl rfl rfl rfl (Nat.le_of_ble_eq_true rfl) dX5_numberOfKind_21 ?_
          refine kw_iadd X dX5_numberOfKind_24 ?_
          refine kw_istore_n (lo' := [(0, .ref h0), (1, .int p1), (2, .int (v2_10 + (f_X5_numberAt ta v3_11))), (3, .int v3_11)]) X dX5_numberOfKind_25 rfl (by decide) [1, 2, 0, 3] rfl ?_
          cases hF
          exact J
  exact hL4 Z _ _ hx
-- X5_numberBroken
def f_X5_numberBroken_L4 (sp : Nat → Int32) (we : Nat → Int32) (num : Int32) : Nat → Int32 → Int32 → Option (Int32)
  | 0, _, _ => none
  | F + 1, v1_14, v2_15 => (if v2_15 < num then (pl1 (if (f_X5_isBroken we v2_15) = 0 then v1_14 else (if (f_X2_at 60 sp v2_15) = 23 then v1_14 else (v1_14 + 1))) (fun (v1_19 : Int32) => (f_X5_numberBroken_L4 sp we num F v1_19 (v2_15 + 1)))) else (some (v1_14)))
def f_X5_numberBroken (Z : Nat) (sp : Nat → Int32) (we : Nat → Int32) (num : Int32) : Option (Int32) :=
  (ob1 (f_X5_numberBroken_L4 sp we num Z 0 0) (fun (e13 : Int32) => (some e13)))
abbrev rm_X5_numberBroken : Room := { frames := 2, cells := 0, slots := 0, locals := 42 }
set_option maxHeartbeats 4000000 in
set_option maxRecDepth 100000 in
theorem c_X5_numberBroken (l : Launch) (D : va_G) (cI cC cR : ClassId) (h0 h1 h2 h3 h4 h5 h6 h7 h8 : Nat) (sp : Nat → Int32) (we : Nat → Int32) (le : Nat → Int32) (ta : Nat → Int32) (num : Int32) (Z : Nat) (r : Int32) (hF : f_X5_numberBroken Z sp we num = some r) : MPi l yX5_numberBroken cX5_numberBroken 3 (some .int) rm_X5_numberBroken D (TY cI cC cR) [.ref h0] (wX5 cI h0 h1 h2 h3 h4 h5 h6 h7 h8 sp we le ta num) (.int r) := by
  refine me_p pn_X5 (Nat.le_of_ble_eq_true rfl) rfl (fun Γ X hret => ?_)
  unfold f_X5_numberBroken at hF
  refine kw_iconst X dX5_numberBroken_0 ci_0 ?_
  refine kw_istore_n (lo' := [(0, .ref h0), (1, .int 0)]) X dX5_numberBroken_1 rfl (by decide) [1, 0] rfl ?_
  refine kw_iconst X dX5_numberBroken_2 ci_0 ?_
  refine kw_istore_n (lo' := [(0, .ref h0), (1, .int 0), (2, .int 0)]) X dX5_numberBroken_3 rfl (by decide) [1, 2, 0] rfl ?_
  obtain ⟨e13, hx, hF⟩ := ob1_ex hF
  have J : KW Γ 0 0 (wX5 cI h0 h1 h2 h3 h4 h5 h6 h7 h8 sp we le ta num) [(1, .int e13)] 42 [] := by
    refine kw_iload_n X dX5_numberBroken_42 rfl 0 rfl ?_
    cases hF
    exact hret _ _ _ (vp_nar_int _) dX5_numberBroken_43
  have hL4 : ∀ (F : Nat) (v1_14 : Int32) (v2_15 : Int32), f_X5_numberBroken_L4 sp we num F v1_14 v2_15 = some (e13) → KW Γ 0 0 (wX5 cI h0 h1 h2 h3 h4 h5 h6 h7 h8 sp we le ta num) [(0, .ref h0), (1, .int v1_14), (2, .int v2_15)] 4 [] := by
    intro F
    induction F with
    | zero => intro v1_14 v2_15 hF; exact none_some hF
    | succ F ih4 =>
      intro v1_14 v2_15 hF
      rw [f_X5_numberBroken_L4] at hF
      refine kw_iload_n X dX5_numberBroken_4 rfl 2 rfl ?_
      refine kw_aload_n X dX5_numberBroken_5 rfl 0 rfl ?_
      refine kw_get X inX5 0 rfl rfl 4 (by decide) rfl gw_113 rfl dX5_numberBroken_6 ?_
      refine kw_icmp_ge X 42 dX5_numberBroken_9 (by decide) (fun q16 => ?_) (fun q16 => ?_)
      · replace hF := (if_neg q16).symm.trans hF
        refine kw_loc (lo' := [(1, .int v1_14)]) [1] rfl ?_
        cases hF
        exact J
      · replace hF := (if_pos q16).symm.trans hF
        refine kw_aload_n X dX5_numberBroken_12 rfl 0 rfl ?_
        refine kw_iload_n X dX5_numberBroken_13 rfl 2 rfl ?_
        refine kw_vp X (r := .int (f_X5_isBroken we v2_15)) (As := [.int v2_15]) (st := []) (c_X5_isBroken l D cI cC cR h0 h1 h2 h3 h4 h5 h6 h7 h8 sp we le ta num v2_15 (f_X5_isBroken we v2_15) rfl) vl_X5_53 yv_X5_isBroken ⟨Nat.le_of_ble_eq_true rfl, Nat.le_of_ble_eq_true rfl⟩ ⟨rfl, rfl⟩ ⟨Nat.zero_le _, Nat.zero_le _⟩ 0 rfl rfl [0, 1, 2, 3, 4, 5, 6, 7, 8] rfl rfl rfl rfl (Nat.le_of_ble_eq_true rfl) dX5_numberBroken_14 ?_
        obtain ⟨v1_19, hx, hF⟩ := pl1_ex hF
        have J : KW Γ 0 0 (wX5 cI h0 h1 h2 h3 h4 h5 h6 h7 h8 sp we le ta num) [(0, .ref h0), (1, .int v1_19), (2, .int v2_15)] 36 [] := by
          refine kw_iinc (lo' := [(0, .ref h0), (1, .int v1_19), (2, .int (v2_15 + 1))]) X dX5_numberBroken_36 2 rfl (congrArg (fun w => v2_15 + w) ci_1) (by decide) [1, 2, 0] rfl ?_
          refine kw_goto X 4 dX5_numberBroken_39 (by decide) ?_
          exact ih4 _ _ hF
        replace hF := hx
        refine kw_if_eq X 36 dX5_numberBroken_17 (by decide) (fun q17 => ?_) (fun q17 => ?_)
        · replace hF := (if_pos q17).symm.trans hF
          cases hF
          exact J
        · replace hF := (if_neg q17).symm.trans hF
          refine kw_aload_n X dX5_numberBroken_20 rfl 0 rfl ?_
          refine kw_get X inX5 0 rfl rfl 0 (by decide) rfl gw_103 rfl dX5_numberBroken_21 ?_
          refine kw_iload_n X dX5_numberBroken_24 rfl 2 rfl ?_
          refine kw_vp X (r := .int (f_X2_at 60 sp v2_15)) (As := [.int v2_15]) (st := []) (c_X2_at l D cI cC cR h1 h2 60 (by decide) sp v2_15 (f_X2_at 60 sp v2_15) rfl) vl_X5_43 yv_X2_at ⟨Nat.le_of_ble_eq_true rfl, Nat.le_of_ble_eq_true rfl⟩ ⟨rfl, rfl⟩ ⟨Nat.zero_le _, Nat.zero_le _⟩ 1 rfl rfl [1, 2] rfl rfl rfl rfl (Nat.le_of_ble_eq_true rfl) dX5_numberBroken_25 ?_
          refine kw_bipush X dX5_numberBroken_28 cb_23 ?_
          refine kw_icmp_eq X 36 dX5_numberBroken_30 (by decide) (fun q20 => ?_) (fun q20 => ?_)
          · replace hF := (if_pos q20).symm.trans hF
            cases hF
            exact J
          · replace hF := (if_neg q20).symm.trans hF
            refine kw_iinc (lo' := [(0, .ref h0), (1, .int (v1_14 + 1)), (2, .int v2_15)]) X dX5_numberBroken_33 1 rfl (congrArg (fun w => v1_14 + w) ci_1) (by decide) [1, 0, 2] rfl ?_
            cases hF
            exact J
  exact hL4 Z _ _ hx
-- X5_brokenAt
def f_X5_brokenAt_L4 (sp : Nat → Int32) (we : Nat → Int32) (num : Int32) (p1 : Int32) : Nat → Int32 → Int32 → Option (Int32)
  | 0, _, _ => none
  | F + 1, v2_14, v3_15 => (if v3_15 < num then (pl1 (if (f_X2_at 60 sp v3_15) = p1 then (if (f_X5_isBroken we v3_15) = 0 then v2_14 else (v2_14 + 1)) else v2_14) (fun (v2_19 : Int32) => (f_X5_brokenAt_L4 sp we num p1 F v2_19 (v3_15 + 1)))) else (some (v2_14)))
def f_X5_brokenAt (Z : Nat) (sp : Nat → Int32) (we : Nat → Int32) (num : Int32) (p1 : Int32) : Option (Int32) :=
  (ob1 (f_X5_brokenAt_L4 sp we num p1 Z 0 0) (fun (e13 : Int32) => (some e13)))
abbrev rm_X5_brokenAt : Room := { frames := 2, cells := 0, slots := 0, locals := 42 }
set_option maxHeartbeats 4000000 in
set_option maxRecDepth 100000 in
theorem c_X5_brokenAt (l : Launch) (D : va_G) (cI cC cR : ClassId) (h0 h1 h2 h3 h4 h5 h6 h7 h8 : Nat) (sp : Nat → Int32) (we : Nat → Int32) (le : Nat → Int32) (ta : Nat → Int32) (num : Int32) (p1 : Int32) (Z : Nat) (r : Int32) (hF : f_X5_brokenAt Z sp we num p1 = some r) : MPi l yX5_brokenAt cX5_brokenAt 4 (some .int) rm_X5_brokenAt D (TY cI cC cR) [.ref h0, .int p1] (wX5 cI h0 h1 h2 h3 h4 h5 h6 h7 h8 sp we le ta num) (.int r) := by
  refine me_p pn_X5 (Nat.le_of_ble_eq_true rfl) rfl (fun Γ X hret => ?_)
  unfold f_X5_brokenAt at hF
  refine kw_iconst X dX5_brokenAt_0 ci_0 ?_
  refine kw_istore_n (lo' := [(0, .ref h0), (1, .int p1), (2, .int 0)]) X dX5_brokenAt_1 rfl (by decide) [1, 2, 0] rfl ?_
  refine kw_iconst X dX5_brokenAt_2 ci_0 ?_
  refine kw_istore_n (lo' := [(0, .ref h0), (1, .int p1), (2, .int 0), (3, .int 0)]) X dX5_brokenAt_3 rfl (by decide) [1, 2, 3, 0] rfl ?_
  obtain ⟨e13, hx, hF⟩ := ob1_ex hF
  have J : KW Γ 0 0 (wX5 cI h0 h1 h2 h3 h4 h5 h6 h7 h8 sp we le ta num) [(2, .int e13)] 41 [] := by
    refine kw_iload_n X dX5_brokenAt_41 rfl 0 rfl ?_
    cases hF
    exact hret _ _ _ (vp_nar_int _) dX5_brokenAt_42
  have hL4 : ∀ (F : Nat) (v2_14 : Int32) (v3_15 : Int32), f_X5_brokenAt_L4 sp we num p1 F v2_14 v3_15 = some (e13) → KW Γ 0 0 (wX5 cI h0 h1 h2 h3 h4 h5 h6 h7 h8 sp we le ta num) [(0, .ref h0), (1, .int p1), (2, .int v2_14), (3, .int v3_15)] 4 [] := by
    intro F
    induction F with
    | zero => intro v2_14 v3_15 hF; exact none_some hF
    | succ F ih4 =>
      intro v2_14 v3_15 hF
      rw [f_X5_brokenAt_L4] at hF
      refine kw_iload_n X dX5_brokenAt_4 rfl 3 rfl ?_
      refine kw_aload_n X dX5_brokenAt_5 rfl 0 rfl ?_
      refine kw_get X inX5 0 rfl rfl 4 (by decide) rfl gw_113 rfl dX5_brokenAt_6 ?_
      refine kw_icmp_ge X 41 dX5_brokenAt_9 (by decide) (fun q16 => ?_) (fun q16 => ?_)
      · replace hF := (if_neg q16).symm.trans hF
        refine kw_loc (lo' := [(2, .int v2_14)]) [2] rfl ?_
        cases hF
        exact J
      · replace hF := (if_pos q16).symm.trans hF
        refine kw_aload_n X dX5_brokenAt_12 rfl 0 rfl ?_
        refine kw_get X inX5 0 rfl rfl 0 (by decide) rfl gw_103 rfl dX5_brokenAt_13 ?_
        refine kw_iload_n X dX5_brokenAt_16 rfl 3 rfl ?_
        refine kw_vp X (r := .int (f_X2_at 60 sp v3_15)) (As := [.int v3_15]) (st := []) (c_X2_at l D cI cC cR h1 h2 60 (by decide) sp v3_15 (f_X2_at 60 sp v3_15) rfl) vl_X5_43 yv_X2_at ⟨Nat.le_of_ble_eq_true rfl, Nat.le_of_ble_eq_true rfl⟩ ⟨rfl, rfl⟩ ⟨Nat.zero_le _, Nat.zero_le _⟩ 1 rfl rfl [1, 2] rfl rfl rfl rfl (Nat.le_of_ble_eq_true rfl) dX5_brokenAt_17 ?_
        refine kw_iload_n X dX5_brokenAt_20 rfl 1 rfl ?_
        obtain ⟨v2_19, hx, hF⟩ := pl1_ex hF
        have J : KW Γ 0 0 (wX5 cI h0 h1 h2 h3 h4 h5 h6 h7 h8 sp we le ta num) [(0, .ref h0), (1, .int p1), (2, .int v2_19), (3, .int v3_15)] 35 [] := by
          refine kw_iinc (lo' := [(0, .ref h0), (1, .int p1), (2, .int v2_19), (3, .int (v3_15 + 1))]) X dX5_brokenAt_35 3 rfl (congrArg (fun w => v3_15 + w) ci_1) (by decide) [1, 2, 3, 0] rfl ?_
          refine kw_goto X 4 dX5_brokenAt_38 (by decide) ?_
          exact ih4 _ _ hF
        replace hF := hx
        refine kw_icmp_ne X 35 dX5_brokenAt_21 (by decide) (fun q17 => ?_) (fun q17 => ?_)
        · replace hF := (if_neg q17).symm.trans hF
          cases hF
          exact J
        · replace hF := (if_pos q17).symm.trans hF
          refine kw_aload_n X dX5_brokenAt_24 rfl 0 rfl ?_
          refine kw_iload_n X dX5_brokenAt_25 rfl 3 rfl ?_
          refine kw_vp X (r := .int (f_X5_isBroken we v3_15)) (As := [.int v3_15]) (st := []) (c_X5_isBroken l D cI cC cR h0 h1 h2 h3 h4 h5 h6 h7 h8 sp we le ta num v3_15 (f_X5_isBroken we v3_15) rfl) vl_X5_53 yv_X5_isBroken ⟨Nat.le_of_ble_eq_true rfl, Nat.le_of_ble_eq_true rfl⟩ ⟨rfl, rfl⟩ ⟨Nat.zero_le _, Nat.zero_le _⟩ 0 rfl rfl [0, 1, 2, 3, 4, 5, 6, 7, 8] rfl rfl rfl rfl (Nat.le_of_ble_eq_true rfl) dX5_brokenAt_26 ?_
          refine kw_if_eq X 35 dX5_brokenAt_29 (by decide) (fun q20 => ?_) (fun q20 => ?_)
          · replace hF := (if_pos q20).symm.trans hF
            cases hF
            exact J
          · replace hF := (if_neg q20).symm.trans hF
            refine kw_iinc (lo' := [(0, .ref h0), (1, .int p1), (2, .int (v2_14 + 1)), (3, .int v3_15)]) X dX5_brokenAt_32 2 rfl (congrArg (fun w => v2_14 + w) ci_1) (by decide) [1, 2, 0, 3] rfl ?_
            cases hF
            exact J
  exact hL4 Z _ _ hx
-- X5_wholeAt
def f_X5_wholeAt (Z : Nat) (sp : Nat → Int32) (we : Nat → Int32) (ta : Nat → Int32) (num : Int32) (p1 : Int32) : Option (Int32) :=
  (ob1 (f_X5_brokenAt Z sp we num p1) (fun (b1 : Int32) => (some ((f_X5_numberAt ta p1) - b1))))
abbrev rm_X5_wholeAt : Room := { frames := 3, cells := 0, slots := 0, locals := 65 }
set_option maxHeartbeats 4000000 in
set_option maxRecDepth 100000 in
theorem c_X5_wholeAt (l : Launch) (D : va_G) (cI cC cR : ClassId) (h0 h1 h2 h3 h4 h5 h6 h7 h8 : Nat) (sp : Nat → Int32) (we : Nat → Int32) (le : Nat → Int32) (ta : Nat → Int32) (num : Int32) (p1 : Int32) (Z : Nat) (r : Int32) (hF : f_X5_wholeAt Z sp we ta num p1 = some r) : MPi l yX5_wholeAt cX5_wholeAt 2 (some .int) rm_X5_wholeAt D (TY cI cC cR) [.ref h0, .int p1] (wX5 cI h0 h1 h2 h3 h4 h5 h6 h7 h8 sp we le ta num) (.int r) := by
  refine me_p pn_X5 (Nat.le_of_ble_eq_true rfl) rfl (fun Γ X hret => ?_)
  unfold f_X5_wholeAt at hF
  refine kw_aload_n X dX5_wholeAt_0 rfl 0 rfl ?_
  refine kw_iload_n X dX5_wholeAt_1 rfl 1 rfl ?_
  refine kw_vp X (r := .int (f_X5_numberAt ta p1)) (As := [.int p1]) (st := []) (c_X5_numberAt l D cI cC cR h0 h1 h2 h3 h4 h5 h6 h7 h8 sp we le ta num p1 (f_X5_numberAt ta p1) rfl) vl_X5_50 yv_X5_numberAt ⟨Nat.le_of_ble_eq_true rfl, Nat.le_of_ble_eq_true rfl⟩ ⟨rfl, rfl⟩ ⟨Nat.zero_le _, Nat.zero_le _⟩ 0 rfl rfl [0, 1, 2, 3, 4, 5, 6, 7, 8] rfl rfl rfl rfl (Nat.le_of_ble_eq_true rfl) dX5_wholeAt_2 ?_
  refine kw_aload_n X dX5_wholeAt_5 rfl 0 rfl ?_
  refine kw_iload_n X dX5_wholeAt_6 rfl 1 rfl ?_
  obtain ⟨b1, hx1, hF⟩ := ob1_ex hF
  refine kw_vp X (r := .int b1) (As := [.int p1]) (st := [.int (f_X5_numberAt ta p1)]) (c_X5_brokenAt l D cI cC cR h0 h1 h2 h3 h4 h5 h6 h7 h8 sp we le ta num p1 Z b1 hx1) vl_X5_57 yv_X5_brokenAt ⟨Nat.le_of_ble_eq_true rfl, Nat.le_of_ble_eq_true rfl⟩ ⟨rfl, rfl⟩ ⟨Nat.zero_le _, Nat.zero_le _⟩ 0 rfl rfl [0, 1, 2, 3, 4, 5, 6, 7, 8] rfl rfl rfl rfl (Nat.le_of_ble_eq_true rfl) dX5_wholeAt_7 ?_
  refine kw_isub X dX5_wholeAt_10 ?_
  cases hF
  exact hret _ _ _ (vp_nar_int _) dX5_wholeAt_11
-- X5_nthAt
def f_X5_nthAt_L5 (sp : Nat → Int32) (num : Int32) (p1 : Int32) (p2 : Int32) : Nat → Int32 → Int32 → Option (Int32)
  | 0, _, _ => none
  | F + 1, v3_9, v4_10 => (if v4_10 < num then (if (f_X2_at 60 sp v4_10) = p1 then (if v3_9 = p2 then (some v4_10) else (f_X5_nthAt_L5 sp num p1 p2 F (v3_9 + 1) (v4_10 + 1))) else (f_X5_nthAt_L5 sp num p1 p2 F v3_9 (v4_10 + 1))) else (some (-9)))
def f_X5_nthAt (Z : Nat) (sp : Nat → Int32) (num : Int32) (p1 : Int32) (p2 : Int32) : Option (Int32) :=
  (f_X5_nthAt_L5 sp num p1 p2 Z 0 0)
abbrev rm_X5_nthAt : Room := { frames := 1, cells := 0, slots := 0, locals := 21 }
set_option maxHeartbeats 4000000 in
set_option maxRecDepth 100000 in
theorem c_X5_nthAt (l : Launch) (D : va_G) (cI cC cR : ClassId) (h0 h1 h2 h3 h4 h5 h6 h7 h8 : Nat) (sp : Nat → Int32) (we : Nat → Int32) (le : Nat → Int32) (ta : Nat → Int32) (num : Int32) (p1 : Int32) (p2 : Int32) (Z : Nat) (r : Int32) (hF : f_X5_nthAt Z sp num p1 p2 = some r) : MPi l yX5_nthAt cX5_nthAt 5 (some .int) rm_X5_nthAt D (TY cI cC cR) [.ref h0, .int p1, .int p2] (wX5 cI h0 h1 h2 h3 h4 h5 h6 h7 h8 sp we le ta num) (.int r) := by
  refine me_p pn_X5 (Nat.le_of_ble_eq_true rfl) rfl (fun Γ X hret => ?_)
  unfold f_X5_nthAt at hF
  refine kw_iconst X dX5_nthAt_0 ci_0 ?_
  refine kw_istore_n (lo' := [(0, .ref h0), (1, .int p1), (2, .int p2), (3, .int 0)]) X dX5_nthAt_1 rfl (by decide) [1, 2, 3, 0] rfl ?_
  refine kw_iconst X dX5_nthAt_2 ci_0 ?_
  refine kw_istore (lo' := [(0, .ref h0), (1, .int p1), (2, .int p2), (3, .int 0), (4, .int 0)]) X dX5_nthAt_3 (by decide) [1, 2, 3, 4, 0] rfl ?_
  have hL5 : ∀ (F : Nat) (v3_9 : Int32) (v4_10 : Int32), f_X5_nthAt_L5 sp num p1 p2 F v3_9 v4_10 = some r → KW Γ 0 0 (wX5 cI h0 h1 h2 h3 h4 h5 h6 h7 h8 sp we le ta num) [(0, .ref h0), (1, .int p1), (2, .int p2), (3, .int v3_9), (4, .int v4_10)] 5 [] := by
    intro F
    induction F with
    | zero => intro v3_9 v4_10 hF; exact none_some hF
    | succ F ih5 =>
      intro v3_9 v4_10 hF
      rw [f_X5_nthAt_L5] at hF
      refine kw_iload X dX5_nthAt_5 4 rfl ?_
      refine kw_aload_n X dX5_nthAt_7 rfl 0 rfl ?_
      refine kw_get X inX5 0 rfl rfl 4 (by decide) rfl gw_113 rfl dX5_nthAt_8 ?_
      refine kw_icmp_ge X 44 dX5_nthAt_11 (by decide) (fun q11 => ?_) (fun q11 => ?_)
      · replace hF := (if_neg q11).symm.trans hF
        refine kw_bipush X dX5_nthAt_44 cb_m9 ?_
        cases hF
        exact hret _ _ _ (vp_nar_int _) dX5_nthAt_46
      · replace hF := (if_pos q11).symm.trans hF
        refine kw_aload_n X dX5_nthAt_14 rfl 0 rfl ?_
        refine kw_get X inX5 0 rfl rfl 0 (by decide) rfl gw_103 rfl dX5_nthAt_15 ?_
        refine kw_iload X dX5_nthAt_18 4 rfl ?_
        refine kw_vp X (r := .int (f_X2_at 60 sp v4_10)) (As := [.int v4_10]) (st := []) (c_X2_at l D cI cC cR h1 h2 60 (by decide) sp v4_10 (f_X2_at 60 sp v4_10) rfl) vl_X5_43 yv_X2_at ⟨Nat.le_of_ble_eq_true rfl, Nat.le_of_ble_eq_true rfl⟩ ⟨rfl, rfl⟩ ⟨Nat.zero_le _, Nat.zero_le _⟩ 1 rfl rfl [1, 2] rfl rfl rfl rfl (Nat.le_of_ble_eq_true rfl) dX5_nthAt_20 ?_
        refine kw_iload_n X dX5_nthAt_23 rfl 1 rfl ?_
        refine kw_icmp_ne X 38 dX5_nthAt_24 (by decide) (fun q12 => ?_) (fun q12 => ?_)
        · replace hF := (if_neg q12).symm.trans hF
          refine kw_iinc (lo' := [(0, .ref h0), (1, .int p1), (2, .int p2), (3, .int v3_9), (4, .int (v4_10 + 1))]) X dX5_nthAt_38 4 rfl (congrArg (fun w => v4_10 + w) ci_1) (by decide) [1, 2, 3, 4, 0] rfl ?_
          refine kw_goto X 5 dX5_nthAt_41 (by decide) ?_
          exact ih5 _ _ hF
        · replace hF := (if_pos q12).symm.trans hF
          refine kw_iload_n X dX5_nthAt_27 rfl 3 rfl ?_
          refine kw_iload_n X dX5_nthAt_28 rfl 2 rfl ?_
          refine kw_icmp_ne X 35 dX5_nthAt_29 (by decide) (fun q13 => ?_) (fun q13 => ?_)
          · replace hF := (if_neg q13).symm.trans hF
            refine kw_iinc (lo' := [(0, .ref h0), (1, .int p1), (2, .int p2), (3, .int (v3_9 + 1)), (4, .int v4_10)]) X dX5_nthAt_35 3 rfl (congrArg (fun w => v3_9 + w) ci_1) (by decide) [1, 2, 3, 0, 4] rfl ?_
            refine kw_iinc (lo' := [(0, .ref h0), (1, .int p1), (2, .int p2), (3, .int (v3_9 + 1)), (4, .int (v4_10 + 1))]) X dX5_nthAt_38 4 rfl (congrArg (fun w => v4_10 + w) ci_1) (by decide) [1, 2, 3, 4, 0] rfl ?_
            refine kw_goto X 5 dX5_nthAt_41 (by decide) ?_
            exact ih5 _ _ hF
          · replace hF := (if_pos q13).symm.trans hF
            refine kw_iload X dX5_nthAt_32 4 rfl ?_
            cases hF
            exact hret _ _ _ (vp_nar_int _) dX5_nthAt_34
  exact hL5 Z _ _ hF
-- X5_leastWornAt
def f_X5_leastWornAt_L7 (sp : Nat → Int32) (we : Nat → Int32) (num : Int32) (p1 : Int32) (p2 : Int32) (p3 : Int32) : Nat → Int32 → Int32 → Option (Int32)
  | 0, _, _ => none
  | F + 1, v4_28, v5_29 => (if v5_29 < num then (pl1 (if (f_X2_at 60 sp v5_29) = p1 then (if p2 < (f_X2_at 60 we v5_29) then 0 else (if v5_29 = p3 then 0 else 1)) else 0) (fun (x34 : Int32) => (pl1 (if x34 = 0 then v4_28 else (if v4_28 = (-9) then v5_29 else (if (f_X2_at 60 we v5_29) < (f_X2_at 60 we v4_28) then v5_29 else v4_28))) (fun (v4_38 : Int32) => (f_X5_leastWornAt_L7 sp we num p1 p2 p3 F v4_38 (v5_29 + 1)))))) else (some (v4_28)))
def f_X5_leastWornAt (Z : Nat) (sp : Nat → Int32) (we : Nat → Int32) (num : Int32) (p1 : Int32) (p2 : Int32) (p3 : Int32) : Option (Int32) :=
  (ob1 (f_X5_leastWornAt_L7 sp we num p1 p2 p3 Z (-9) 0) (fun (e27 : Int32) => (some e27)))
abbrev rm_X5_leastWornAt : Room := { frames := 1, cells := 0, slots := 0, locals := 21 }
set_option maxHeartbeats 4000000 in
set_option maxRecDepth 100000 in
theorem c_X5_leastWornAt (l : Launch) (D : va_G) (cI cC cR : ClassId) (h0 h1 h2 h3 h4 h5 h6 h7 h8 : Nat) (sp : Nat → Int32) (we : Nat → Int32) (le : Nat → Int32) (ta : Nat → Int32) (num : Int32) (p1 : Int32) (p2 : Int32) (p3 : Int32) (Z : Nat) (r : Int32) (hF : f_X5_leastWornAt Z sp we num p1 p2 p3 = some r) : MPi l yX5_leastWornAt cX5_leastWornAt 7 (some .int) rm_X5_leastWornAt D (TY cI cC cR) [.ref h0, .int p1, .int p2, .int p3] (wX5 cI h0 h1 h2 h3 h4 h5 h6 h7 h8 sp we le ta num) (.int r) := by
  refine me_p pn_X5 (Nat.le_of_ble_eq_true rfl) rfl (fun Γ X hret => ?_)
  unfold f_X5_leastWornAt at hF
  refine kw_bipush X dX5_leastWornAt_0 cb_m9 ?_
  refine kw_istore (lo' := [(0, .ref h0), (1, .int p1), (2, .int p2), (3, .int p3), (4, .int (-9))]) X dX5_leastWornAt_2 (by decide) [1, 2, 3, 4, 0] rfl ?_
  refine kw_iconst X dX5_leastWornAt_4 ci_0 ?_
  refine kw_istore (lo' := [(0, .ref h0), (1, .int p1), (2, .int p2), (3, .int p3), (4, .int (-9)), (5, .int 0)]) X dX5_leastWornAt_5 (by decide) [1, 2, 3, 4, 5, 0] rfl ?_
  obtain ⟨e27, hx, hF⟩ := ob1_ex hF
  have J : KW Γ 0 0 (wX5 cI h0 h1 h2 h3 h4 h5 h6 h7 h8 sp we le ta num) [(4, .int e27)] 98 [] := by
    refine kw_iload X dX5_leastWornAt_98 0 rfl ?_
    cases hF
    exact hret _ _ _ (vp_nar_int _) dX5_leastWornAt_100
  have hL7 : ∀ (F : Nat) (v4_28 : Int32) (v5_29 : Int32), f_X5_leastWornAt_L7 sp we num p1 p2 p3 F v4_28 v5_29 = some (e27) → KW Γ 0 0 (wX5 cI h0 h1 h2 h3 h4 h5 h6 h7 h8 sp we le ta num) [(0, .ref h0), (1, .int p1), (2, .int p2), (3, .int p3), (4, .int v4_28), (5, .int v5_29)] 7 [] := by
    intro F
    induction F with
    | zero => intro v4_28 v5_29 hF; exact none_some hF
    | succ F ih7 =>
      intro v4_28 v5_29 hF
      rw [f_X5_leastWornAt_L7] at hF
      refine kw_iload X dX5_leastWornAt_7 5 rfl ?_
      refine kw_aload_n X dX5_leastWornAt_9 rfl 0 rfl ?_
      refine kw_get X inX5 0 rfl rfl 4 (by decide) rfl gw_113 rfl dX5_leastWornAt_10 ?_
      refine kw_icmp_ge X 98 dX5_leastWornAt_13 (by decide) (fun q30 => ?_) (fun q30 => ?_)
      · replace hF := (if_neg q30).symm.trans hF
        refine kw_loc (lo' := [(4, .int v4_28)]) [4] rfl ?_
        cases hF
        exact J
      · replace hF := (if_pos q30).symm.trans hF
        refine kw_aload_n X dX5_leastWornAt_16 rfl 0 rfl ?_
        refine kw_get X inX5 0 rfl rfl 0 (by decide) rfl gw_103 rfl dX5_leastWornAt_17 ?_
        refine kw_iload X dX5_leastWornAt_20 5 rfl ?_
        refine kw_vp X (r := .int (f_X2_at 60 sp v5_29)) (As := [.int v5_29]) (st := []) (c_X2_at l D cI cC cR h1 h2 60 (by decide) sp v5_29 (f_X2_at 60 sp v5_29) rfl) vl_X5_43 yv_X2_at ⟨Nat.le_of_ble_eq_true rfl, Nat.le_of_ble_eq_true rfl⟩ ⟨rfl, rfl⟩ ⟨Nat.zero_le _, Nat.zero_le _⟩ 1 rfl rfl [1, 2] rfl rfl rfl rfl (Nat.le_of_ble_eq_true rfl) dX5_leastWornAt_22 ?_
        refine kw_iload_n X dX5_leastWornAt_25 rfl 1 rfl ?_
        obtain ⟨x34, hx, hF⟩ := pl1_ex hF
        have J : KW Γ 0 0 (wX5 cI h0 h1 h2 h3 h4 h5 h6 h7 h8 sp we le ta num) [(0, .ref h0), (1, .int p1), (2, .int p2), (3, .int p3), (4, .int v4_28), (5, .int v5_29)] 53 [.int x34] := by
          refine kw_istore (lo' := [(0, .ref h0), (1, .int p1), (2, .int p2), (3, .int p3), (4, .int v4_28), (5, .int v5_29), (6, .int x34)]) X dX5_leastWornAt_53 (by decide) [1, 2, 3, 4, 5, 6, 0] rfl ?_
          refine kw_iload X dX5_leastWornAt_55 6 rfl ?_
          obtain ⟨v4_38, hx, hF⟩ := pl1_ex hF
          have J : KW Γ 0 0 (wX5 cI h0 h1 h2 h3 h4 h5 h6 h7 h8 sp we le ta num) [(0, .ref h0), (1, .int p1), (2, .int p2), (3, .int p3), (4, .int v4_38), (5, .int v5_29)] 92 [] := by
            refine kw_iinc (lo' := [(0, .ref h0), (1, .int p1), (2, .int p2), (3, .int p3), (4, .int v4_38), (5, .int (v5_29 + 1))]) X dX5_leastWornAt_92 5 rfl (congrArg (fun w => v5_29 + w) ci_1) (by decide) [1, 2, 3, 4, 5, 0] rfl ?_
            refine kw_goto X 7 dX5_leastWornAt_95 (by decide) ?_
            exact ih7 _ _ hF
          replace hF := hx
          refine kw_if_eq X 92 dX5_leastWornAt_57 (by decide) (fun q35 => ?_) (fun q35 => ?_)
          · replace hF := (if_pos q35).symm.trans hF
            refine kw_loc (lo' := [(0, .ref h0), (1, .int p1), (2, .int p2), (3, .int p3), (4, .int v4_28), (5, .int v5_29)]) [0, 1, 2, 3, 4, 5] rfl ?_
            cases hF
            exact J
          · replace hF := (if_neg q35).symm.trans hF
            refine kw_iload X dX5_leastWornAt_60 4 rfl ?_
            refine kw_bipush X dX5_leastWornAt_62 cb_m9 ?_
            refine kw_icmp_eq X 88 dX5_leastWornAt_64 (by decide) (fun q39 => ?_) (fun q39 => ?_)
            · replace hF := (if_pos q39).symm.trans hF
              refine kw_iload X dX5_leastWornAt_88 5 rfl ?_
              refine kw_istore (lo' := [(0, .ref h0), (1, .int p1), (2, .int p2), (3, .int p3), (4, .int v5_29), (5, .int v5_29), (6, .int x34)]) X dX5_leastWornAt_90 (by decide) [1, 2, 3, 4, 0, 5, 6] rfl ?_
              refine kw_loc (lo' := [(0, .ref h0), (1, .int p1), (2, .int p2), (3, .int p3), (4, .int v5_29), (5, .int v5_29)]) [0, 1, 2, 3, 4, 5] rfl ?_
              cases hF
              exact J
            · replace hF := (if_neg q39).symm.trans hF
              refine kw_aload_n X dX5_leastWornAt_67 rfl 0 rfl ?_
              refine kw_get X inX5 0 rfl rfl 1 (by decide) rfl gw_106 rfl dX5_leastWornAt_68 ?_
              refine kw_iload X dX5_leastWornAt_71 5 rfl ?_
              refine kw_vp X (r := .int (f_X2_at 60 we v5_29)) (As := [.int v5_29]) (st := []) (c_X2_at l D cI cC cR h3 h4 60 (by decide) we v5_29 (f_X2_at 60 we v5_29) rfl) vl_X5_43 yv_X2_at ⟨Nat.le_of_ble_eq_true rfl, Nat.le_of_ble_eq_true rfl⟩ ⟨rfl, rfl⟩ ⟨Nat.zero_le _, Nat.zero_le _⟩ 3 rfl rfl [3, 4] rfl rfl rfl rfl (Nat.le_of_ble_eq_true rfl) dX5_leastWornAt_73 ?_
              refine kw_aload_n X dX5_leastWornAt_76 rfl 0 rfl ?_
              refine kw_get X inX5 0 rfl rfl 1 (by decide) rfl gw_106 rfl dX5_leastWornAt_77 ?_
              refine kw_iload X dX5_leastWornAt_80 4 rfl ?_
              refine kw_vp X (r := .int (f_X2_at 60 we v4_28)) (As := [.int v4_28]) (st := [.int (f_X2_at 60 we v5_29)]) (c_X2_at l D cI cC cR h3 h4 60 (by decide) we v4_28 (f_X2_at 60 we v4_28) rfl) vl_X5_43 yv_X2_at ⟨Nat.le_of_ble_eq_true rfl, Nat.le_of_ble_eq_true rfl⟩ ⟨rfl, rfl⟩ ⟨Nat.zero_le _, Nat.zero_le _⟩ 3 rfl rfl [3, 4] rfl rfl rfl rfl (Nat.le_of_ble_eq_true rfl) dX5_leastWornAt_82 ?_
              refine kw_icmp_ge X 92 dX5_leastWornAt_85 (by decide) (fun q40 => ?_) (fun q40 => ?_)
              · replace hF := (if_neg q40).symm.trans hF
                refine kw_loc (lo' := [(0, .ref h0), (1, .int p1), (2, .int p2), (3, .int p3), (4, .int v4_28), (5, .int v5_29)]) [0, 1, 2, 3, 4, 5] rfl ?_
                cases hF
                exact J
              · replace hF := (if_pos q40).symm.trans hF
                refine kw_iload X dX5_leastWornAt_88 5 rfl ?_
                refine kw_istore (lo' := [(0, .ref h0), (1, .int p1), (2, .int p2), (3, .int p3), (4, .int v5_29), (5, .int v5_29), (6, .int x34)]) X dX5_leastWornAt_90 (by decide) [1, 2, 3, 4, 0, 5, 6] rfl ?_
                refine kw_loc (lo' := [(0, .ref h0), (1, .int p1), (2, .int p2), (3, .int p3), (4, .int v5_29), (5, .int v5_29)]) [0, 1, 2, 3, 4, 5] rfl ?_
                cases hF
                exact J
        replace hF := hx
        refine kw_icmp_ne X 52 dX5_leastWornAt_26 (by decide) (fun q31 => ?_) (fun q31 => ?_)
        · replace hF := (if_neg q31).symm.trans hF
          refine kw_iconst X dX5_leastWornAt_52 ci_0 ?_
          cases hF
          exact J
        · replace hF := (if_pos q31).symm.trans hF
          refine kw_aload_n X dX5_leastWornAt_29 rfl 0 rfl ?_
          refine kw_get X inX5 0 rfl rfl 1 (by decide) rfl gw_106 rfl dX5_leastWornAt_30 ?_
          refine kw_iload X dX5_leastWornAt_33 5 rfl ?_
          refine kw_vp X (r := .int (f_X2_at 60 we v5_29)) (As := [.int v5_29]) (st := []) (c_X2_at l D cI cC cR h3 h4 60 (by decide) we v5_29 (f_X2_at 60 we v5_29) rfl) vl_X5_43 yv_X2_at ⟨Nat.le_of_ble_eq_true rfl, Nat.le_of_ble_eq_true rfl⟩ ⟨rfl, rfl⟩ ⟨Nat.zero_le _, Nat.zero_le _⟩ 3 rfl rfl [3, 4] rfl rfl rfl rfl (Nat.le_of_ble_eq_true rfl) dX5_leastWornAt_35 ?_
          refine kw_iload_n X dX5_leastWornAt_38 rfl 2 rfl ?_
          refine kw_icmp_gt X 52 dX5_leastWornAt_39 (by decide) (fun q41 => ?_) (fun q41 => ?_)
          · replace hF := (if_pos q41).symm.trans hF
            refine kw_iconst X dX5_leastWornAt_52 ci_0 ?_
            cases hF
            exact J
          · replace hF := (if_neg q41).symm.trans hF
            refine kw_iload X dX5_leastWornAt_42 5 rfl ?_
            refine kw_iload_n X dX5_leastWornAt_44 rfl 3 rfl ?_
            refine kw_icmp_eq X 52 dX5_leastWornAt_45 (by decide) (fun q42 => ?_) (fun q42 => ?_)
            · replace hF := (if_pos q42).symm.trans hF
              refine kw_iconst X dX5_leastWornAt_52 ci_0 ?_
              cases hF
              exact J
            · replace hF := (if_neg q42).symm.trans hF
              refine kw_iconst X dX5_leastWornAt_48 ci_1 ?_
              refine kw_goto X 53 dX5_leastWornAt_49 (by decide) ?_
              cases hF
              exact J
  exact hL7 Z _ _ hx
-- X5_bestAt
def f_X5_bestAt (Z : Nat) (sp : Nat → Int32) (we : Nat → Int32) (num : Int32) (p1 : Int32) : Option (Int32) :=
  (ob1 (f_X5_leastWornAt Z sp we num p1 31 (-9)) (fun (b1 : Int32) => (some b1)))
abbrev rm_X5_bestAt : Room := { frames := 2, cells := 0, slots := 0, locals := 47 }
set_option maxHeartbeats 4000000 in
set_option maxRecDepth 100000 in
theorem c_X5_bestAt (l : Launch) (D : va_G) (cI cC cR : ClassId) (h0 h1 h2 h3 h4 h5 h6 h7 h8 : Nat) (sp : Nat → Int32) (we : Nat → Int32) (le : Nat → Int32) (ta : Nat → Int32) (num : Int32) (p1 : Int32) (Z : Nat) (r : Int32) (hF : f_X5_bestAt Z sp we num p1 = some r) : MPi l yX5_bestAt cX5_bestAt 2 (some .int) rm_X5_bestAt D (TY cI cC cR) [.ref h0, .int p1] (wX5 cI h0 h1 h2 h3 h4 h5 h6 h7 h8 sp we le ta num) (.int r) := by
  refine me_p pn_X5 (Nat.le_of_ble_eq_true rfl) rfl (fun Γ X hret => ?_)
  unfold f_X5_bestAt at hF
  refine kw_aload_n X dX5_bestAt_0 rfl 0 rfl ?_
  refine kw_iload_n X dX5_bestAt_1 rfl 1 rfl ?_
  refine kw_bipush X dX5_bestAt_2 cb_31 ?_
  refine kw_bipush X dX5_bestAt_4 cb_m9 ?_
  obtain ⟨b1, hx1, hF⟩ := ob1_ex hF
  refine kw_vp X (r := .int b1) (As := [.int p1, .int 31, .int (-9)]) (st := []) (c_X5_leastWornAt l D cI cC cR h0 h1 h2 h3 h4 h5 h6 h7 h8 sp we le ta num p1 31 (-9) Z b1 hx1) vl_X5_60 yv_X5_leastWornAt ⟨Nat.le_of_ble_eq_true rfl, Nat.le_of_ble_eq_true rfl⟩ ⟨rfl, rfl⟩ ⟨Nat.zero_le _, Nat.zero_le _⟩ 0 rfl rfl [0, 1, 2, 3, 4, 5, 6, 7, 8] rfl rfl rfl rfl (Nat.le_of_ble_eq_true rfl) dX5_bestAt_6 ?_
  cases hF
  exact hret _ _ _ (vp_nar_int _) dX5_bestAt_9
-- X5_worstAt
def f_X5_worstAt_L5 (sp : Nat → Int32) (we : Nat → Int32) (num : Int32) (p1 : Int32) : Nat → Int32 → Int32 → Option (Int32)
  | 0, _, _ => none
  | F + 1, v2_16, v3_17 => (if v3_17 < num then (pl1 (if (f_X2_at 60 sp v3_17) = p1 then (if v2_16 = (-9) then v3_17 else (if (f_X2_at 60 we v2_16) < (f_X2_at 60 we v3_17) then v3_17 else v2_16)) else v2_16) (fun (v2_22 : Int32) => (f_X5_worstAt_L5 sp we num p1 F v2_22 (v3_17 + 1)))) else (some (v2_16)))
def f_X5_worstAt (Z : Nat) (sp : Nat → Int32) (we : Nat → Int32) (num : Int32) (p1 : Int32) : Option (Int32) :=
  (ob1 (f_X5_worstAt_L5 sp we num p1 Z (-9) 0) (fun (e15 : Int32) => (some e15)))
abbrev rm_X5_worstAt : Room := { frames := 1, cells := 0, slots := 0, locals := 21 }
set_option maxHeartbeats 4000000 in
set_option maxRecDepth 100000 in
theorem c_X5_worstAt (l : Launch) (D : va_G) (cI cC cR : ClassId) (h0 h1 h2 h3 h4 h5 h6 h7 h8 : Nat) (sp : Nat → Int32) (we : Nat → Int32) (le : Nat → Int32) (ta : Nat → Int32) (num : Int32) (p1 : Int32) (Z : Nat) (r : Int32) (hF : f_X5_worstAt Z sp we num p1 = some r) : MPi l yX5_worstAt cX5_worstAt 4 (some .int) rm_X5_worstAt D (TY cI cC cR) [.ref h0, .int p1] (wX5 cI h0 h1 h2 h3 h4 h5 h6 h7 h8 sp we le ta num) (.int r) := by
  refine me_p pn_X5 (Nat.le_of_ble_eq_true rfl) rfl (fun Γ X hret => ?_)
  unfold f_X5_worstAt at hF
  refine kw_bipush X dX5_worstAt_0 cb_m9 ?_
  refine kw_istore_n (lo' := [(0, .ref h0), (1, .int p1), (2, .int (-9))]) X dX5_worstAt_2 rfl (by decide) [1, 2, 0] rfl ?_
  refine kw_iconst X dX5_worstAt_3 ci_0 ?_
  refine kw_istore_n (lo' := [(0, .ref h0), (1, .int p1), (2, .int (-9)), (3, .int 0)]) X dX5_worstAt_4 rfl (by decide) [1, 2, 3, 0] rfl ?_
  obtain ⟨e15, hx, hF⟩ := ob1_ex hF
  have J : KW Γ 0 0 (wX5 cI h0 h1 h2 h3 h4 h5 h6 h7 h8 sp we le ta num) [(2, .int e15)] 58 [] := by
    refine kw_iload_n X dX5_worstAt_58 rfl 0 rfl ?_
    cases hF
    exact hret _ _ _ (vp_nar_int _) dX5_worstAt_59
  have hL5 : ∀ (F : Nat) (v2_16 : Int32) (v3_17 : Int32), f_X5_worstAt_L5 sp we num p1 F v2_16 v3_17 = some (e15) → KW Γ 0 0 (wX5 cI h0 h1 h2 h3 h4 h5 h6 h7 h8 sp we le ta num) [(0, .ref h0), (1, .int p1), (2, .int v2_16), (3, .int v3_17)] 5 [] := by
    intro F
    induction F with
    | zero => intro v2_16 v3_17 hF; exact none_some hF
    | succ F ih5 =>
      intro v2_16 v3_17 hF
      rw [f_X5_worstAt_L5] at hF
      refine kw_iload_n X dX5_worstAt_5 rfl 3 rfl ?_
      refine kw_aload_n X dX5_worstAt_6 rfl 0 rfl ?_
      refine kw_get X inX5 0 rfl rfl 4 (by decide) rfl gw_113 rfl dX5_worstAt_7 ?_
      refine kw_icmp_ge X 58 dX5_worstAt_10 (by decide) (fun q18 => ?_) (fun q18 => ?_)
      · replace hF := (if_neg q18).symm.trans hF
        refine kw_loc (lo' := [(2, .int v2_16)]) [2] rfl ?_
        cases hF
        exact J
      · replace hF := (if_pos q18).symm.trans hF
        refine kw_aload_n X dX5_worstAt_13 rfl 0 rfl ?_
        refine kw_get X inX5 0 rfl rfl 0 (by decide) rfl gw_103 rfl dX5_worstAt_14 ?_
        refine kw_iload_n X dX5_worstAt_17 rfl 3 rfl ?_
        refine kw_vp X (r := .int (f_X2_at 60 sp v3_17)) (As := [.int v3_17]) (st := []) (c_X2_at l D cI cC cR h1 h2 60 (by decide) sp v3_17 (f_X2_at 60 sp v3_17) rfl) vl_X5_43 yv_X2_at ⟨Nat.le_of_ble_eq_true rfl, Nat.le_of_ble_eq_true rfl⟩ ⟨rfl, rfl⟩ ⟨Nat.zero_le _, Nat.zero_le _⟩ 1 rfl rfl [1, 2] rfl rfl rfl rfl (Nat.le_of_ble_eq_true rfl) dX5_worstAt_18 ?_
        refine kw_iload_n X dX5_worstAt_21 rfl 1 rfl ?_
        obtain ⟨v2_22, hx, hF⟩ := pl1_ex hF
        have J : KW Γ 0 0 (wX5 cI h0 h1 h2 h3 h4 h5 h6 h7 h8 sp we le ta num) [(0, .ref h0), (1, .int p1), (2, .int v2_22), (3, .int v3_17)] 52 [] := by
          refine kw_iinc (lo' := [(0, .ref h0), (1, .int p1), (2, .int v2_22), (3, .int (v3_17 + 1))]) X dX5_worstAt_52 3 rfl (congrArg (fun w => v3_17 + w) ci_1) (by decide) [1, 2, 3, 0] rfl ?_
          refine kw_goto X 5 dX5_worstAt_55 (by decide) ?_
          exact ih5 _ _ hF
        replace hF := hx
        refine kw_icmp_ne X 52 dX5_worstAt_22 (by decide) (fun q19 => ?_) (fun q19 => ?_)
        · replace hF := (if_neg q19).symm.trans hF
          cases hF
          exact J
        · replace hF := (if_pos q19).symm.trans hF
          refine kw_iload_n X dX5_worstAt_25 rfl 2 rfl ?_
          refine kw_bipush X dX5_worstAt_26 cb_m9 ?_
          refine kw_icmp_eq X 50 dX5_worstAt_28 (by decide) (fun q23 => ?_) (fun q23 => ?_)
          · replace hF := (if_pos q23).symm.trans hF
            refine kw_iload_n X dX5_worstAt_50 rfl 3 rfl ?_
            refine kw_istore_n (lo' := [(0, .ref h0), (1, .int p1), (2, .int v3_17), (3, .int v3_17)]) X dX5_worstAt_51 rfl (by decide) [1, 2, 0, 3] rfl ?_
            cases hF
            exact J
          · replace hF := (if_neg q23).symm.trans hF
            refine kw_aload_n X dX5_worstAt_31 rfl 0 rfl ?_
            refine kw_get X inX5 0 rfl rfl 1 (by decide) rfl gw_106 rfl dX5_worstAt_32 ?_
            refine kw_iload_n X dX5_worstAt_35 rfl 3 rfl ?_
            refine kw_vp X (r := .int (f_X2_at 60 we v3_17)) (As := [.int v3_17]) (st := []) (c_X2_at l D cI cC cR h3 h4 60 (by decide) we v3_17 (f_X2_at 60 we v3_17) rfl) vl_X5_43 yv_X2_at ⟨Nat.le_of_ble_eq_true rfl, Nat.le_of_ble_eq_true rfl⟩ ⟨rfl, rfl⟩ ⟨Nat.zero_le _, Nat.zero_le _⟩ 3 rfl rfl [3, 4] rfl rfl rfl rfl (Nat.le_of_ble_eq_true rfl) dX5_worstAt_36 ?_
            refine kw_aload_n X dX5_worstAt_39 rfl 0 rfl ?_
            refine kw_get X inX5 0 rfl rfl 1 (by decide) rfl gw_106 rfl dX5_worstAt_40 ?_
            refine kw_iload_n X dX5_worstAt_43 rfl 2 rfl ?_
            refine kw_vp X (r := .int (f_X2_at 60 we v2_16)) (As := [.int v2_16]) (st := [.int (f_X2_at 60 we v3_17)]) (c_X2_at l D cI cC cR h3 h4 60 (by decide) we v2_16 (f_X2_at 60 we v2_16) rfl) vl_X5_43 yv_X2_at ⟨Nat.le_of_ble_eq_true rfl, Nat.le_of_ble_eq_true rfl⟩ ⟨rfl, rfl⟩ ⟨Nat.zero_le _, Nat.zero_le _⟩ 3 rfl rfl [3, 4] rfl rfl rfl rfl (Nat.le_of_ble_eq_true rfl) dX5_worstAt_44 ?_
            refine kw_icmp_le X 52 dX5_worstAt_47 (by decide) (fun q24 => ?_) (fun q24 => ?_)
            · replace hF := (if_neg q24).symm.trans hF
              cases hF
              exact J
            · replace hF := (if_pos q24).symm.trans hF
              refine kw_iload_n X dX5_worstAt_50 rfl 3 rfl ?_
              refine kw_istore_n (lo' := [(0, .ref h0), (1, .int p1), (2, .int v3_17), (3, .int v3_17)]) X dX5_worstAt_51 rfl (by decide) [1, 2, 0, 3] rfl ?_
              cases hF
              exact J
  exact hL5 Z _ _ hx
-- X5_meanWearAt
def f_X5_meanWearAt_L17 (sp : Nat → Int32) (we : Nat → Int32) (num : Int32) (p1 : Int32) : Nat → Int32 → Int32 → Option (Int32)
  | 0, _, _ => none
  | F + 1, v3_12, v4_13 => (if v4_13 < num then (pl1 (if (f_X2_at 60 sp v4_13) = p1 then (v3_12 + (f_X2_at 60 we v4_13)) else v3_12) (fun (v3_16 : Int32) => (f_X5_meanWearAt_L17 sp we num p1 F v3_16 (v4_13 + 1)))) else (some (v3_12)))
def f_X5_meanWearAt (Z : Nat) (sp : Nat → Int32) (we : Nat → Int32) (ta : Nat → Int32) (num : Int32) (p1 : Int32) : Option (Int32) :=
  (if 0 < (f_X5_numberAt ta p1) then (ob1 (f_X5_meanWearAt_L17 sp we num p1 Z 0 0) (fun (e10 : Int32) => ob1 (odiv (100 * e10) (8 * (f_X5_numberAt ta p1))) (fun d11 => (some ((100 * e10) / (8 * (f_X5_numberAt ta p1))))))) else (some 0))
abbrev rm_X5_meanWearAt : Room := { frames := 2, cells := 0, slots := 0, locals := 42 }
set_option maxHeartbeats 4000000 in
set_option maxRecDepth 100000 in
theorem c_X5_meanWearAt (l : Launch) (D : va_G) (cI cC cR : ClassId) (h0 h1 h2 h3 h4 h5 h6 h7 h8 : Nat) (sp : Nat → Int32) (we : Nat → Int32) (le : Nat → Int32) (ta : Nat → Int32) (num : Int32) (p1 : Int32) (Z : Nat) (r : Int32) (hF : f_X5_meanWearAt Z sp we ta num p1 = some r) : MPi l yX5_meanWearAt cX5_meanWearAt 5 (some .int) rm_X5_meanWearAt D (TY cI cC cR) [.ref h0, .int p1] (wX5 cI h0 h1 h2 h3 h4 h5 h6 h7 h8 sp we le ta num) (.int r) := by
  refine me_p pn_X5 (Nat.le_of_ble_eq_true rfl) rfl (fun Γ X hret => ?_)
  unfold f_X5_meanWearAt at hF
  refine kw_aload_n X dX5_meanWearAt_0 rfl 0 rfl ?_
  refine kw_iload_n X dX5_meanWearAt_1 rfl 1 rfl ?_
  refine kw_vp X (r := .int (f_X5_numberAt ta p1)) (As := [.int p1]) (st := []) (c_X5_numberAt l D cI cC cR h0 h1 h2 h3 h4 h5 h6 h7 h8 sp we le ta num p1 (f_X5_numberAt ta p1) rfl) vl_X5_50 yv_X5_numberAt ⟨Nat.le_of_ble_eq_true rfl, Nat.le_of_ble_eq_true rfl⟩ ⟨rfl, rfl⟩ ⟨Nat.zero_le _, Nat.zero_le _⟩ 0 rfl rfl [0, 1, 2, 3, 4, 5, 6, 7, 8] rfl rfl rfl rfl (Nat.le_of_ble_eq_true rfl) dX5_meanWearAt_2 ?_
  refine kw_istore_n (lo' := [(0, .ref h0), (1, .int p1), (2, .int (f_X5_numberAt ta p1))]) X dX5_meanWearAt_5 rfl (by decide) [1, 2, 0] rfl ?_
  refine kw_iload_n X dX5_meanWearAt_6 rfl 2 rfl ?_
  refine kw_if_gt X 12 dX5_meanWearAt_7 (by decide) (fun q1 => ?_) (fun q1 => ?_)
  · replace hF := (if_pos q1).symm.trans hF
    refine kw_iconst X dX5_meanWearAt_12 ci_0 ?_
    refine kw_istore_n (lo' := [(0, .ref h0), (1, .int p1), (2, .int (f_X5_numberAt ta p1)), (3, .int 0)]) X dX5_meanWearAt_13 rfl (by decide) [1, 2, 3, 0] rfl ?_
    refine kw_iconst X dX5_meanWearAt_14 ci_0 ?_
    refine kw_istore (lo' := [(0, .ref h0), (1, .int p1), (2, .int (f_X5_numberAt ta p1)), (3, .int 0), (4, .int 0)]) X dX5_meanWearAt_15 (by decide) [1, 2, 3, 4, 0] rfl ?_
    obtain ⟨e10, hx, hF⟩ := ob1_ex hF
    have J : KW Γ 0 0 (wX5 cI h0 h1 h2 h3 h4 h5 h6 h7 h8 sp we le ta num) [(2, .int (f_X5_numberAt ta p1)), (3, .int e10)] 57 [] := by
      refine kw_bipush X dX5_meanWearAt_57 cb_100 ?_
      refine kw_iload_n X dX5_meanWearAt_59 rfl 1 rfl ?_
      refine kw_imul X dX5_meanWearAt_60 ?_
      refine kw_bipush X dX5_meanWearAt_61 cb_8 ?_
      refine kw_iload_n X dX5_meanWearAt_63 rfl 0 rfl ?_
      refine kw_imul X dX5_meanWearAt_64 ?_
      obtain ⟨d11, hx, hF⟩ := ob1_ex hF
      obtain ⟨hnz, rfl⟩ := odiv_ex hx
      refine kw_idiv X dX5_meanWearAt_65 hnz ?_
      cases hF
      exact hret _ _ _ (vp_nar_int _) dX5_meanWearAt_66
    have hL17 : ∀ (F : Nat) (v3_12 : Int32) (v4_13 : Int32), f_X5_meanWearAt_L17 sp we num p1 F v3_12 v4_13 = some (e10) → KW Γ 0 0 (wX5 cI h0 h1 h2 h3 h4 h5 h6 h7 h8 sp we le ta num) [(0, .ref h0), (1, .int p1), (2, .int (f_X5_numberAt ta p1)), (3, .int v3_12), (4, .int v4_13)] 17 [] := by
      intro F
      induction F with
      | zero => intro v3_12 v4_13 hF; exact none_some hF
      | succ F ih17 =>
        intro v3_12 v4_13 hF
        rw [f_X5_meanWearAt_L17] at hF
        refine kw_iload X dX5_meanWearAt_17 4 rfl ?_
        refine kw_aload_n X dX5_meanWearAt_19 rfl 0 rfl ?_
        refine kw_get X inX5 0 rfl rfl 4 (by decide) rfl gw_113 rfl dX5_meanWearAt_20 ?_
        refine kw_icmp_ge X 57 dX5_meanWearAt_23 (by decide) (fun q14 => ?_) (fun q14 => ?_)
        · replace hF := (if_neg q14).symm.trans hF
          refine kw_loc (lo' := [(2, .int (f_X5_numberAt ta p1)), (3, .int v3_12)]) [2, 3] rfl ?_
          cases hF
          exact J
        · replace hF := (if_pos q14).symm.trans hF
          refine kw_aload_n X dX5_meanWearAt_26 rfl 0 rfl ?_
          refine kw_get X inX5 0 rfl rfl 0 (by decide) rfl gw_103 rfl dX5_meanWearAt_27 ?_
          refine kw_iload X dX5_meanWearAt_30 4 rfl ?_
          refine kw_vp X (r := .int (f_X2_at 60 sp v4_13)) (As := [.int v4_13]) (st := []) (c_X2_at l D cI cC cR h1 h2 60 (by decide) sp v4_13 (f_X2_at 60 sp v4_13) rfl) vl_X5_43 yv_X2_at ⟨Nat.le_of_ble_eq_true rfl, Nat.le_of_ble_eq_true rfl⟩ ⟨rfl, rfl⟩ ⟨Nat.zero_le _, Nat.zero_le _⟩ 1 rfl rfl [1, 2] rfl rfl rfl rfl (Nat.le_of_ble_eq_true rfl) dX5_meanWearAt_32 ?_
          refine kw_iload_n X dX5_meanWearAt_35 rfl 1 rfl ?_
          obtain ⟨v3_16, hx, hF⟩ := pl1_ex hF
          have J : KW Γ 0 0 (wX5 cI h0 h1 h2 h3 h4 h5 h6 h7 h8 sp we le ta num) [(0, .ref h0), (1, .int p1), (2, .int (f_X5_numberAt ta p1)), (3, .int v3_16), (4, .int v4_13)] 51 [] := by
            refine kw_iinc (lo' := [(0, .ref h0), (1, .int p1), (2, .int (f_X5_numberAt ta p1)), (3, .int v3_16), (4, .int (v4_13 + 1))]) X dX5_meanWearAt_51 4 rfl (congrArg (fun w => v4_13 + w) ci_1) (by decide) [1, 2, 3, 4, 0] rfl ?_
            refine kw_goto X 17 dX5_meanWearAt_54 (by decide) ?_
            exact ih17 _ _ hF
          replace hF := hx
          refine kw_icmp_ne X 51 dX5_meanWearAt_36 (by decide) (fun q15 => ?_) (fun q15 => ?_)
          · replace hF := (if_neg q15).symm.trans hF
            cases hF
            exact J
          · replace hF := (if_pos q15).symm.trans hF
            refine kw_iload_n X dX5_meanWearAt_39 rfl 3 rfl ?_
            refine kw_aload_n X dX5_meanWearAt_40 rfl 0 rfl ?_
            refine kw_get X inX5 0 rfl rfl 1 (by decide) rfl gw_106 rfl dX5_meanWearAt_41 ?_
            refine kw_iload X dX5_meanWearAt_44 4 rfl ?_
            refine kw_vp X (r := .int (f_X2_at 60 we v4_13)) (As := [.int v4_13]) (st := [.int v3_12]) (c_X2_at l D cI cC cR h3 h4 60 (by decide) we v4_13 (f_X2_at 60 we v4_13) rfl) vl_X5_43 yv_X2_at ⟨Nat.le_of_ble_eq_true rfl, Nat.le_of_ble_eq_true rfl⟩ ⟨rfl, rfl⟩ ⟨Nat.zero_le _, Nat.zero_le _⟩ 3 rfl rfl [3, 4] rfl rfl rfl rfl (Nat.le_of_ble_eq_true rfl) dX5_meanWearAt_46 ?_
            refine kw_iadd X dX5_meanWearAt_49 ?_
            refine kw_istore_n (lo' := [(0, .ref h0), (1, .int p1), (2, .int (f_X5_numberAt ta p1)), (3, .int (v3_12 + (f_X2_at 60 we v4_13))), (4, .int v4_13)]) X dX5_meanWearAt_50 rfl (by decide) [1, 2, 3, 0, 4] rfl ?_
            cases hF
            exact J
    exact hL17 Z _ _ hx
  · replace hF := (if_neg q1).symm.trans hF
    refine kw_iconst X dX5_meanWearAt_10 ci_0 ?_
    cases hF
    exact hret _ _ _ (vp_nar_int _) dX5_meanWearAt_11
end
