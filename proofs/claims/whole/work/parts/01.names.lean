-- ===== PART A: goes FIRST, ahead of the names: the tables' words, and 'selects' of the private methods out of them =====
/-- a private method of a class that the tables say can be made, by its rows of tables_1 -/
def lw_okq (q : MethodName × Nat) : Prop := (q.1.cls ≠ "java/lang/invoke/MethodHandle" ∧ q.1.cls ≠ "java/lang/invoke/VarHandle") ∧ Cond.instantiable q.1.cls q.2 ∈ tables_1 ∧ Cond.privateMethod q.1 ∈ tables_1 ∧ Cond.instanceMethod q.1 ∈ tables_1
theorem lw_p0 : lw_okq (⟨"CarriedRows$Text", "readLaw", "()I"⟩, 5) := ⟨⟨by decide +kernel, by decide +kernel⟩, List.mem_of_getElem? (i := 24) (by decide +kernel), List.mem_of_getElem? (i := 375) (by decide +kernel), List.mem_of_getElem? (i := 376) (by decide +kernel)⟩
theorem lw_p1 : lw_okq (⟨"CarriedRows$Text", "readNumber", "(II)I"⟩, 5) := ⟨⟨by decide +kernel, by decide +kernel⟩, List.mem_of_getElem? (i := 24) (by decide +kernel), List.mem_of_getElem? (i := 380) (by decide +kernel), List.mem_of_getElem? (i := 381) (by decide +kernel)⟩
theorem lw_p2 : lw_okq (⟨"CarriedRows$Text", "isByte", "(IC)Z"⟩, 5) := ⟨⟨by decide +kernel, by decide +kernel⟩, List.mem_of_getElem? (i := 24) (by decide +kernel), List.mem_of_getElem? (i := 384) (by decide +kernel), List.mem_of_getElem? (i := 385) (by decide +kernel)⟩
theorem lw_p3 : lw_okq (⟨"CarriedRows$Text", "isFigure", "(I)Z"⟩, 5) := ⟨⟨by decide +kernel, by decide +kernel⟩, List.mem_of_getElem? (i := 24) (by decide +kernel), List.mem_of_getElem? (i := 388) (by decide +kernel), List.mem_of_getElem? (i := 389) (by decide +kernel)⟩
theorem lw_p4 : lw_okq (⟨"CarriedRows$Text", "readStarts", "(I)I"⟩, 5) := ⟨⟨by decide +kernel, by decide +kernel⟩, List.mem_of_getElem? (i := 24) (by decide +kernel), List.mem_of_getElem? (i := 392) (by decide +kernel), List.mem_of_getElem? (i := 393) (by decide +kernel)⟩
theorem lw_p5 : lw_okq (⟨"CarriedRows$Row", "carriedOn", "([JI)J"⟩, 3) := ⟨⟨by decide +kernel, by decide +kernel⟩, List.mem_of_getElem? (i := 30) (by decide +kernel), List.mem_of_getElem? (i := 431) (by decide +kernel), List.mem_of_getElem? (i := 432) (by decide +kernel)⟩
theorem lw_p6 : lw_okq (⟨"CarriedRows$Rests", "place", "(I)I"⟩, 6) := ⟨⟨by decide +kernel, by decide +kernel⟩, List.mem_of_getElem? (i := 154) (by decide +kernel), List.mem_of_getElem? (i := 456) (by decide +kernel), List.mem_of_getElem? (i := 457) (by decide +kernel)⟩
theorem lw_p7 : lw_okq (⟨"CarriedRows$Rests", "square", "()V"⟩, 6) := ⟨⟨by decide +kernel, by decide +kernel⟩, List.mem_of_getElem? (i := 154) (by decide +kernel), List.mem_of_getElem? (i := 460) (by decide +kernel), List.mem_of_getElem? (i := 461) (by decide +kernel)⟩
theorem lw_p8 : lw_okq (⟨"CarriedRows$Rests", "timesZ", "()V"⟩, 6) := ⟨⟨by decide +kernel, by decide +kernel⟩, List.mem_of_getElem? (i := 154) (by decide +kernel), List.mem_of_getElem? (i := 464) (by decide +kernel), List.mem_of_getElem? (i := 465) (by decide +kernel)⟩
theorem lw_p9 : lw_okq (⟨"CarriedRows$Rounds", "findTurn", "()I"⟩, 5) := ⟨⟨by decide +kernel, by decide +kernel⟩, List.mem_of_getElem? (i := 179) (by decide +kernel), List.mem_of_getElem? (i := 485) (by decide +kernel), List.mem_of_getElem? (i := 486) (by decide +kernel)⟩
theorem lw_p10 : lw_okq (⟨"CarriedRows$Longest", "tryLaw", "(III)V"⟩, 5) := ⟨⟨by decide +kernel, by decide +kernel⟩, List.mem_of_getElem? (i := 205) (by decide +kernel), List.mem_of_getElem? (i := 543) (by decide +kernel), List.mem_of_getElem? (i := 544) (by decide +kernel)⟩
theorem lw_p11 : lw_okq (⟨"CarriedRows$Longest", "turnOfTried", "(II)I"⟩, 5) := ⟨⟨by decide +kernel, by decide +kernel⟩, List.mem_of_getElem? (i := 205) (by decide +kernel), List.mem_of_getElem? (i := 547) (by decide +kernel), List.mem_of_getElem? (i := 548) (by decide +kernel)⟩
theorem lw_p12 : lw_okq (⟨"CarriedRows$Numbers", "solve", "()Z"⟩, 8) := ⟨⟨by decide +kernel, by decide +kernel⟩, List.mem_of_getElem? (i := 90) (by decide +kernel), List.mem_of_getElem? (i := 574) (by decide +kernel), List.mem_of_getElem? (i := 575) (by decide +kernel)⟩
theorem lw_p13 : lw_okq (⟨"CarriedRows$Numbers", "leadLines", "(I)I"⟩, 8) := ⟨⟨by decide +kernel, by decide +kernel⟩, List.mem_of_getElem? (i := 90) (by decide +kernel), List.mem_of_getElem? (i := 579) (by decide +kernel), List.mem_of_getElem? (i := 580) (by decide +kernel)⟩
theorem lw_p14 : lw_okq (⟨"CarriedRows$Numbers", "lineWith", "(III)I"⟩, 8) := ⟨⟨by decide +kernel, by decide +kernel⟩, List.mem_of_getElem? (i := 90) (by decide +kernel), List.mem_of_getElem? (i := 583) (by decide +kernel), List.mem_of_getElem? (i := 584) (by decide +kernel)⟩
theorem lw_p15 : lw_okq (⟨"CarriedRows$Numbers", "scale", "([II)V"⟩, 8) := ⟨⟨by decide +kernel, by decide +kernel⟩, List.mem_of_getElem? (i := 90) (by decide +kernel), List.mem_of_getElem? (i := 587) (by decide +kernel), List.mem_of_getElem? (i := 588) (by decide +kernel)⟩
def lw_privs_1 : List (MethodName × Nat) := [(⟨"CarriedRows$Text", "readLaw", "()I"⟩, 5), (⟨"CarriedRows$Text", "readNumber", "(II)I"⟩, 5), (⟨"CarriedRows$Text", "isByte", "(IC)Z"⟩, 5), (⟨"CarriedRows$Text", "isFigure", "(I)Z"⟩, 5), (⟨"CarriedRows$Text", "readStarts", "(I)I"⟩, 5), (⟨"CarriedRows$Row", "carriedOn", "([JI)J"⟩, 3), (⟨"CarriedRows$Rests", "place", "(I)I"⟩, 6), (⟨"CarriedRows$Rests", "square", "()V"⟩, 6), (⟨"CarriedRows$Rests", "timesZ", "()V"⟩, 6), (⟨"CarriedRows$Rounds", "findTurn", "()I"⟩, 5), (⟨"CarriedRows$Longest", "tryLaw", "(III)V"⟩, 5), (⟨"CarriedRows$Longest", "turnOfTried", "(II)I"⟩, 5), (⟨"CarriedRows$Numbers", "solve", "()Z"⟩, 8), (⟨"CarriedRows$Numbers", "leadLines", "(I)I"⟩, 8), (⟨"CarriedRows$Numbers", "lineWith", "(III)I"⟩, 8), (⟨"CarriedRows$Numbers", "scale", "([II)V"⟩, 8)]
theorem lw_r1 : ∀ q ∈ lw_privs_1, lw_okq q := List.forall_mem_cons.mpr ⟨lw_p0, List.forall_mem_cons.mpr ⟨lw_p1, List.forall_mem_cons.mpr ⟨lw_p2, List.forall_mem_cons.mpr ⟨lw_p3, List.forall_mem_cons.mpr ⟨lw_p4, List.forall_mem_cons.mpr ⟨lw_p5, List.forall_mem_cons.mpr ⟨lw_p6, List.forall_mem_cons.mpr ⟨lw_p7, List.forall_mem_cons.mpr ⟨lw_p8, List.forall_mem_cons.mpr ⟨lw_p9, List.forall_mem_cons.mpr ⟨lw_p10, List.forall_mem_cons.mpr ⟨lw_p11, List.forall_mem_cons.mpr ⟨lw_p12, List.forall_mem_cons.mpr ⟨lw_p13, List.forall_mem_cons.mpr ⟨lw_p14, List.forall_mem_cons.mpr ⟨lw_p15, fun _ h => absurd h List.not_mem_nil⟩⟩⟩⟩⟩⟩⟩⟩⟩⟩⟩⟩⟩⟩⟩⟩
theorem lw_p16 : lw_okq (⟨"CarriedRows$Numbers", "clear", "(III)V"⟩, 8) := ⟨⟨by decide +kernel, by decide +kernel⟩, List.mem_of_getElem? (i := 90) (by decide +kernel), List.mem_of_getElem? (i := 592) (by decide +kernel), List.mem_of_getElem? (i := 593) (by decide +kernel)⟩
theorem lw_p17 : lw_okq (⟨"CarriedRows$Maker", "makeLaw", "(ILCarriedRows$Row;LCarriedRows$Row;I)Z"⟩, 6) := ⟨⟨by decide +kernel, by decide +kernel⟩, List.mem_of_getElem? (i := 234) (by decide +kernel), List.mem_of_getElem? (i := 626) (by decide +kernel), List.mem_of_getElem? (i := 627) (by decide +kernel)⟩
theorem lw_p18 : lw_okq (⟨"CarriedRows$Maker", "multiplyPolynomials", "(LCarriedRows$Row;LCarriedRows$Row;)Z"⟩, 6) := ⟨⟨by decide +kernel, by decide +kernel⟩, List.mem_of_getElem? (i := 234) (by decide +kernel), List.mem_of_getElem? (i := 630) (by decide +kernel), List.mem_of_getElem? (i := 631) (by decide +kernel)⟩
theorem lw_p19 : lw_okq (⟨"CarriedRows$Maker", "multiplyRoots", "(LCarriedRows$Row;LCarriedRows$Row;)Z"⟩, 6) := ⟨⟨by decide +kernel, by decide +kernel⟩, List.mem_of_getElem? (i := 234) (by decide +kernel), List.mem_of_getElem? (i := 640) (by decide +kernel), List.mem_of_getElem? (i := 641) (by decide +kernel)⟩
theorem lw_p20 : lw_okq (⟨"CarriedRows$Maker", "lawBySums", "(I)Z"⟩, 6) := ⟨⟨by decide +kernel, by decide +kernel⟩, List.mem_of_getElem? (i := 234) (by decide +kernel), List.mem_of_getElem? (i := 648) (by decide +kernel), List.mem_of_getElem? (i := 649) (by decide +kernel)⟩
theorem lw_p21 : lw_okq (⟨"CarriedRows$Maker", "raiseRoots", "(LCarriedRows$Row;I)Z"⟩, 6) := ⟨⟨by decide +kernel, by decide +kernel⟩, List.mem_of_getElem? (i := 234) (by decide +kernel), List.mem_of_getElem? (i := 652) (by decide +kernel), List.mem_of_getElem? (i := 653) (by decide +kernel)⟩
theorem lw_p22 : lw_okq (⟨"CarriedRows$Maker", "makeStarts", "(ILCarriedRows$Row;LCarriedRows$Row;I)Z"⟩, 6) := ⟨⟨by decide +kernel, by decide +kernel⟩, List.mem_of_getElem? (i := 234) (by decide +kernel), List.mem_of_getElem? (i := 657) (by decide +kernel), List.mem_of_getElem? (i := 658) (by decide +kernel)⟩
theorem lw_p23 : lw_okq (⟨"CarriedRows$Maker", "lastPlaceOfX", "(II)I"⟩, 6) := ⟨⟨by decide +kernel, by decide +kernel⟩, List.mem_of_getElem? (i := 234) (by decide +kernel), List.mem_of_getElem? (i := 661) (by decide +kernel), List.mem_of_getElem? (i := 662) (by decide +kernel)⟩
theorem lw_p24 : lw_okq (⟨"CarriedRows$Maker", "numberMade", "(III)J"⟩, 6) := ⟨⟨by decide +kernel, by decide +kernel⟩, List.mem_of_getElem? (i := 234) (by decide +kernel), List.mem_of_getElem? (i := 666) (by decide +kernel), List.mem_of_getElem? (i := 667) (by decide +kernel)⟩
theorem lw_p25 : lw_okq (⟨"CarriedRows$Maker", "fold", "(I)J"⟩, 6) := ⟨⟨by decide +kernel, by decide +kernel⟩, List.mem_of_getElem? (i := 234) (by decide +kernel), List.mem_of_getElem? (i := 675) (by decide +kernel), List.mem_of_getElem? (i := 676) (by decide +kernel)⟩
theorem lw_p26 : lw_okq (⟨"CarriedRows", "sharesStrongly", "(II)Z"⟩, 10) := ⟨⟨by decide +kernel, by decide +kernel⟩, List.mem_of_getElem? (i := 16) (by decide +kernel), List.mem_of_getElem? (i := 689) (by decide +kernel), List.mem_of_getElem? (i := 690) (by decide +kernel)⟩
theorem lw_p27 : lw_okq (⟨"CarriedRows", "divides", "(II)Z"⟩, 10) := ⟨⟨by decide +kernel, by decide +kernel⟩, List.mem_of_getElem? (i := 16) (by decide +kernel), List.mem_of_getElem? (i := 693) (by decide +kernel), List.mem_of_getElem? (i := 694) (by decide +kernel)⟩
theorem lw_p28 : lw_okq (⟨"CarriedRows$Poly", "clear", "()V"⟩, 2) := ⟨⟨by decide +kernel, by decide +kernel⟩, List.mem_of_getElem? (i := 268) (by decide +kernel), List.mem_of_getElem? (i := 712) (by decide +kernel), List.mem_of_getElem? (i := 713) (by decide +kernel)⟩
theorem lw_p29 : lw_okq (⟨"CarriedRows$Parts", "raisePower", "()V"⟩, 12) := ⟨⟨by decide +kernel, by decide +kernel⟩, List.mem_of_getElem? (i := 262) (by decide +kernel), List.mem_of_getElem? (i := 721) (by decide +kernel), List.mem_of_getElem? (i := 722) (by decide +kernel)⟩
theorem lw_p30 : lw_okq (⟨"CarriedRows$Parts", "timesPower", "(LCarriedRows$Poly;)V"⟩, 12) := ⟨⟨by decide +kernel, by decide +kernel⟩, List.mem_of_getElem? (i := 262) (by decide +kernel), List.mem_of_getElem? (i := 734) (by decide +kernel), List.mem_of_getElem? (i := 735) (by decide +kernel)⟩
theorem lw_p31 : lw_okq (⟨"CarriedRows$Poly", "findDegree", "(I)V"⟩, 2) := ⟨⟨by decide +kernel, by decide +kernel⟩, List.mem_of_getElem? (i := 268) (by decide +kernel), List.mem_of_getElem? (i := 742) (by decide +kernel), List.mem_of_getElem? (i := 743) (by decide +kernel)⟩
def lw_privs_2 : List (MethodName × Nat) := [(⟨"CarriedRows$Numbers", "clear", "(III)V"⟩, 8), (⟨"CarriedRows$Maker", "makeLaw", "(ILCarriedRows$Row;LCarriedRows$Row;I)Z"⟩, 6), (⟨"CarriedRows$Maker", "multiplyPolynomials", "(LCarriedRows$Row;LCarriedRows$Row;)Z"⟩, 6), (⟨"CarriedRows$Maker", "multiplyRoots", "(LCarriedRows$Row;LCarriedRows$Row;)Z"⟩, 6), (⟨"CarriedRows$Maker", "lawBySums", "(I)Z"⟩, 6), (⟨"CarriedRows$Maker", "raiseRoots", "(LCarriedRows$Row;I)Z"⟩, 6), (⟨"CarriedRows$Maker", "makeStarts", "(ILCarriedRows$Row;LCarriedRows$Row;I)Z"⟩, 6), (⟨"CarriedRows$Maker", "lastPlaceOfX", "(II)I"⟩, 6), (⟨"CarriedRows$Maker", "numberMade", "(III)J"⟩, 6), (⟨"CarriedRows$Maker", "fold", "(I)J"⟩, 6), (⟨"CarriedRows", "sharesStrongly", "(II)Z"⟩, 10), (⟨"CarriedRows", "divides", "(II)Z"⟩, 10), (⟨"CarriedRows$Poly", "clear", "()V"⟩, 2), (⟨"CarriedRows$Parts", "raisePower", "()V"⟩, 12), (⟨"CarriedRows$Parts", "timesPower", "(LCarriedRows$Poly;)V"⟩, 12), (⟨"CarriedRows$Poly", "findDegree", "(I)V"⟩, 2)]
theorem lw_r2 : ∀ q ∈ lw_privs_2, lw_okq q := List.forall_mem_cons.mpr ⟨lw_p16, List.forall_mem_cons.mpr ⟨lw_p17, List.forall_mem_cons.mpr ⟨lw_p18, List.forall_mem_cons.mpr ⟨lw_p19, List.forall_mem_cons.mpr ⟨lw_p20, List.forall_mem_cons.mpr ⟨lw_p21, List.forall_mem_cons.mpr ⟨lw_p22, List.forall_mem_cons.mpr ⟨lw_p23, List.forall_mem_cons.mpr ⟨lw_p24, List.forall_mem_cons.mpr ⟨lw_p25, List.forall_mem_cons.mpr ⟨lw_p26, List.forall_mem_cons.mpr ⟨lw_p27, List.forall_mem_cons.mpr ⟨lw_p28, List.forall_mem_cons.mpr ⟨lw_p29, List.forall_mem_cons.mpr ⟨lw_p30, List.forall_mem_cons.mpr ⟨lw_p31, fun _ h => absurd h List.not_mem_nil⟩⟩⟩⟩⟩⟩⟩⟩⟩⟩⟩⟩⟩⟩⟩⟩
theorem lw_p32 : lw_okq (⟨"CarriedRows$Parts", "share", "()V"⟩, 12) := ⟨⟨by decide +kernel, by decide +kernel⟩, List.mem_of_getElem? (i := 262) (by decide +kernel), List.mem_of_getElem? (i := 756) (by decide +kernel), List.mem_of_getElem? (i := 757) (by decide +kernel)⟩
theorem lw_p33 : lw_okq (⟨"CarriedRows$Parts", "takeOut", "(II)V"⟩, 12) := ⟨⟨by decide +kernel, by decide +kernel⟩, List.mem_of_getElem? (i := 262) (by decide +kernel), List.mem_of_getElem? (i := 760) (by decide +kernel), List.mem_of_getElem? (i := 761) (by decide +kernel)⟩
theorem lw_p34 : lw_okq (⟨"CarriedRows", "ordersTogether", "()I"⟩, 10) := ⟨⟨by decide +kernel, by decide +kernel⟩, List.mem_of_getElem? (i := 16) (by decide +kernel), List.mem_of_getElem? (i := 768) (by decide +kernel), List.mem_of_getElem? (i := 769) (by decide +kernel)⟩
theorem lw_p35 : lw_okq (⟨"CarriedRowsModel", "readAll", "()I"⟩, 31) := ⟨⟨by decide +kernel, by decide +kernel⟩, List.mem_of_getElem? (i := 772) (by decide +kernel), List.mem_of_getElem? (i := 889) (by decide +kernel), List.mem_of_getElem? (i := 890) (by decide +kernel)⟩
theorem lw_p36 : lw_okq (⟨"CarriedRowsModel", "number", "(J)Z"⟩, 31) := ⟨⟨by decide +kernel, by decide +kernel⟩, List.mem_of_getElem? (i := 772) (by decide +kernel), List.mem_of_getElem? (i := 894) (by decide +kernel), List.mem_of_getElem? (i := 895) (by decide +kernel)⟩
theorem lw_p37 : lw_okq (⟨"CarriedRowsModel", "isFigure", "(I)Z"⟩, 31) := ⟨⟨by decide +kernel, by decide +kernel⟩, List.mem_of_getElem? (i := 772) (by decide +kernel), List.mem_of_getElem? (i := 898) (by decide +kernel), List.mem_of_getElem? (i := 899) (by decide +kernel)⟩
theorem lw_p38 : lw_okq (⟨"CarriedRowsModel", "keep", "(I)V"⟩, 31) := ⟨⟨by decide +kernel, by decide +kernel⟩, List.mem_of_getElem? (i := 772) (by decide +kernel), List.mem_of_getElem? (i := 914) (by decide +kernel), List.mem_of_getElem? (i := 915) (by decide +kernel)⟩
theorem lw_p39 : lw_okq (⟨"CarriedRowsModel", "layExact", "(II)I"⟩, 31) := ⟨⟨by decide +kernel, by decide +kernel⟩, List.mem_of_getElem? (i := 772) (by decide +kernel), List.mem_of_getElem? (i := 930) (by decide +kernel), List.mem_of_getElem? (i := 931) (by decide +kernel)⟩
theorem lw_p40 : lw_okq (⟨"CarriedRowsModel", "restOf", "(III)I"⟩, 31) := ⟨⟨by decide +kernel, by decide +kernel⟩, List.mem_of_getElem? (i := 772) (by decide +kernel), List.mem_of_getElem? (i := 945) (by decide +kernel), List.mem_of_getElem? (i := 946) (by decide +kernel)⟩
theorem lw_p41 : lw_okq (⟨"CarriedRowsModel", "times", "([J[JIJ)V"⟩, 31) := ⟨⟨by decide +kernel, by decide +kernel⟩, List.mem_of_getElem? (i := 772) (by decide +kernel), List.mem_of_getElem? (i := 952) (by decide +kernel), List.mem_of_getElem? (i := 953) (by decide +kernel)⟩
theorem lw_p42 : lw_okq (⟨"CarriedRowsModel", "layRound", "(II)Z"⟩, 31) := ⟨⟨by decide +kernel, by decide +kernel⟩, List.mem_of_getElem? (i := 772) (by decide +kernel), List.mem_of_getElem? (i := 961) (by decide +kernel), List.mem_of_getElem? (i := 962) (by decide +kernel)⟩
theorem lw_p43 : lw_okq (⟨"CarriedRowsModel", "begin", "([JII)V"⟩, 31) := ⟨⟨by decide +kernel, by decide +kernel⟩, List.mem_of_getElem? (i := 772) (by decide +kernel), List.mem_of_getElem? (i := 965) (by decide +kernel), List.mem_of_getElem? (i := 966) (by decide +kernel)⟩
theorem lw_p44 : lw_okq (⟨"CarriedRowsModel", "go", "([JII)V"⟩, 31) := ⟨⟨by decide +kernel, by decide +kernel⟩, List.mem_of_getElem? (i := 772) (by decide +kernel), List.mem_of_getElem? (i := 969) (by decide +kernel), List.mem_of_getElem? (i := 970) (by decide +kernel)⟩
theorem lw_p45 : lw_okq (⟨"CarriedRowsModel", "areAlike", "(I)Z"⟩, 31) := ⟨⟨by decide +kernel, by decide +kernel⟩, List.mem_of_getElem? (i := 772) (by decide +kernel), List.mem_of_getElem? (i := 973) (by decide +kernel), List.mem_of_getElem? (i := 974) (by decide +kernel)⟩
theorem lw_p46 : lw_okq (⟨"CarriedRowsModel", "lookFor", "(IIIZ)I"⟩, 31) := ⟨⟨by decide +kernel, by decide +kernel⟩, List.mem_of_getElem? (i := 772) (by decide +kernel), List.mem_of_getElem? (i := 979) (by decide +kernel), List.mem_of_getElem? (i := 980) (by decide +kernel)⟩
theorem lw_p47 : lw_okq (⟨"CarriedRowsModel", "isRoot", "(III)Z"⟩, 31) := ⟨⟨by decide +kernel, by decide +kernel⟩, List.mem_of_getElem? (i := 772) (by decide +kernel), List.mem_of_getElem? (i := 1005) (by decide +kernel), List.mem_of_getElem? (i := 1006) (by decide +kernel)⟩
def lw_privs_3 : List (MethodName × Nat) := [(⟨"CarriedRows$Parts", "share", "()V"⟩, 12), (⟨"CarriedRows$Parts", "takeOut", "(II)V"⟩, 12), (⟨"CarriedRows", "ordersTogether", "()I"⟩, 10), (⟨"CarriedRowsModel", "readAll", "()I"⟩, 31), (⟨"CarriedRowsModel", "number", "(J)Z"⟩, 31), (⟨"CarriedRowsModel", "isFigure", "(I)Z"⟩, 31), (⟨"CarriedRowsModel", "keep", "(I)V"⟩, 31), (⟨"CarriedRowsModel", "layExact", "(II)I"⟩, 31), (⟨"CarriedRowsModel", "restOf", "(III)I"⟩, 31), (⟨"CarriedRowsModel", "times", "([J[JIJ)V"⟩, 31), (⟨"CarriedRowsModel", "layRound", "(II)Z"⟩, 31), (⟨"CarriedRowsModel", "begin", "([JII)V"⟩, 31), (⟨"CarriedRowsModel", "go", "([JII)V"⟩, 31), (⟨"CarriedRowsModel", "areAlike", "(I)Z"⟩, 31), (⟨"CarriedRowsModel", "lookFor", "(IIIZ)I"⟩, 31), (⟨"CarriedRowsModel", "isRoot", "(III)Z"⟩, 31)]
theorem lw_r3 : ∀ q ∈ lw_privs_3, lw_okq q := List.forall_mem_cons.mpr ⟨lw_p32, List.forall_mem_cons.mpr ⟨lw_p33, List.forall_mem_cons.mpr ⟨lw_p34, List.forall_mem_cons.mpr ⟨lw_p35, List.forall_mem_cons.mpr ⟨lw_p36, List.forall_mem_cons.mpr ⟨lw_p37, List.forall_mem_cons.mpr ⟨lw_p38, List.forall_mem_cons.mpr ⟨lw_p39, List.forall_mem_cons.mpr ⟨lw_p40, List.forall_mem_cons.mpr ⟨lw_p41, List.forall_mem_cons.mpr ⟨lw_p42, List.forall_mem_cons.mpr ⟨lw_p43, List.forall_mem_cons.mpr ⟨lw_p44, List.forall_mem_cons.mpr ⟨lw_p45, List.forall_mem_cons.mpr ⟨lw_p46, List.forall_mem_cons.mpr ⟨lw_p47, fun _ h => absurd h List.not_mem_nil⟩⟩⟩⟩⟩⟩⟩⟩⟩⟩⟩⟩⟩⟩⟩⟩
theorem lw_p48 : lw_okq (⟨"CarriedRowsModel", "layCode", "(III)V"⟩, 31) := ⟨⟨by decide +kernel, by decide +kernel⟩, List.mem_of_getElem? (i := 772) (by decide +kernel), List.mem_of_getElem? (i := 1016) (by decide +kernel), List.mem_of_getElem? (i := 1017) (by decide +kernel)⟩
theorem lw_p49 : lw_okq (⟨"CarriedRowsModel", "leastOf", "()I"⟩, 31) := ⟨⟨by decide +kernel, by decide +kernel⟩, List.mem_of_getElem? (i := 772) (by decide +kernel), List.mem_of_getElem? (i := 1032) (by decide +kernel), List.mem_of_getElem? (i := 1033) (by decide +kernel)⟩
theorem lw_p50 : lw_okq (⟨"CarriedRowsModel", "solve", "(I)Z"⟩, 31) := ⟨⟨by decide +kernel, by decide +kernel⟩, List.mem_of_getElem? (i := 772) (by decide +kernel), List.mem_of_getElem? (i := 1036) (by decide +kernel), List.mem_of_getElem? (i := 1037) (by decide +kernel)⟩
theorem lw_p51 : lw_okq (⟨"CarriedRowsModel", "makeSum", "(IIZ)Z"⟩, 31) := ⟨⟨by decide +kernel, by decide +kernel⟩, List.mem_of_getElem? (i := 772) (by decide +kernel), List.mem_of_getElem? (i := 1055) (by decide +kernel), List.mem_of_getElem? (i := 1056) (by decide +kernel)⟩
theorem lw_p52 : lw_okq (⟨"CarriedRowsModel", "multiply", "(II)Z"⟩, 31) := ⟨⟨by decide +kernel, by decide +kernel⟩, List.mem_of_getElem? (i := 772) (by decide +kernel), List.mem_of_getElem? (i := 1059) (by decide +kernel), List.mem_of_getElem? (i := 1060) (by decide +kernel)⟩
theorem lw_p53 : lw_okq (⟨"CarriedRowsModel", "layFirst", "(II)Z"⟩, 31) := ⟨⟨by decide +kernel, by decide +kernel⟩, List.mem_of_getElem? (i := 772) (by decide +kernel), List.mem_of_getElem? (i := 1063) (by decide +kernel), List.mem_of_getElem? (i := 1064) (by decide +kernel)⟩
theorem lw_p54 : lw_okq (⟨"CarriedRowsModel", "start", "(IJ)Z"⟩, 31) := ⟨⟨by decide +kernel, by decide +kernel⟩, List.mem_of_getElem? (i := 772) (by decide +kernel), List.mem_of_getElem? (i := 1067) (by decide +kernel), List.mem_of_getElem? (i := 1068) (by decide +kernel)⟩
theorem lw_p55 : lw_okq (⟨"CarriedRowsModel", "makeProduct", "(II)Z"⟩, 31) := ⟨⟨by decide +kernel, by decide +kernel⟩, List.mem_of_getElem? (i := 772) (by decide +kernel), List.mem_of_getElem? (i := 1071) (by decide +kernel), List.mem_of_getElem? (i := 1072) (by decide +kernel)⟩
theorem lw_p56 : lw_okq (⟨"CarriedRowsModel", "layPowers", "(II[J)Z"⟩, 31) := ⟨⟨by decide +kernel, by decide +kernel⟩, List.mem_of_getElem? (i := 772) (by decide +kernel), List.mem_of_getElem? (i := 1075) (by decide +kernel), List.mem_of_getElem? (i := 1076) (by decide +kernel)⟩
theorem lw_p57 : lw_okq (⟨"CarriedRowsModel", "fromPowers", "(I)Z"⟩, 31) := ⟨⟨by decide +kernel, by decide +kernel⟩, List.mem_of_getElem? (i := 772) (by decide +kernel), List.mem_of_getElem? (i := 1079) (by decide +kernel), List.mem_of_getElem? (i := 1080) (by decide +kernel)⟩
theorem lw_p58 : lw_okq (⟨"CarriedRowsModel", "makeFold", "(II)Z"⟩, 31) := ⟨⟨by decide +kernel, by decide +kernel⟩, List.mem_of_getElem? (i := 772) (by decide +kernel), List.mem_of_getElem? (i := 1087) (by decide +kernel), List.mem_of_getElem? (i := 1088) (by decide +kernel)⟩
theorem lw_p59 : lw_okq (⟨"CarriedRowsModel", "makeEach", "(II)Z"⟩, 31) := ⟨⟨by decide +kernel, by decide +kernel⟩, List.mem_of_getElem? (i := 772) (by decide +kernel), List.mem_of_getElem? (i := 1091) (by decide +kernel), List.mem_of_getElem? (i := 1092) (by decide +kernel)⟩
theorem lw_p60 : lw_okq (⟨"CarriedRowsModel", "makeSums", "(I)Z"⟩, 31) := ⟨⟨by decide +kernel, by decide +kernel⟩, List.mem_of_getElem? (i := 772) (by decide +kernel), List.mem_of_getElem? (i := 1095) (by decide +kernel), List.mem_of_getElem? (i := 1096) (by decide +kernel)⟩
theorem lw_p61 : lw_okq (⟨"CarriedRowsModel", "makeMoved", "(II)Z"⟩, 31) := ⟨⟨by decide +kernel, by decide +kernel⟩, List.mem_of_getElem? (i := 772) (by decide +kernel), List.mem_of_getElem? (i := 1099) (by decide +kernel), List.mem_of_getElem? (i := 1100) (by decide +kernel)⟩
theorem lw_p62 : lw_okq (⟨"CarriedRowsModel", "copyLaw", "(I)V"⟩, 31) := ⟨⟨by decide +kernel, by decide +kernel⟩, List.mem_of_getElem? (i := 772) (by decide +kernel), List.mem_of_getElem? (i := 1103) (by decide +kernel), List.mem_of_getElem? (i := 1104) (by decide +kernel)⟩
theorem lw_p63 : lw_okq (⟨"CarriedRowsModel", "makeTimes", "(II)Z"⟩, 31) := ⟨⟨by decide +kernel, by decide +kernel⟩, List.mem_of_getElem? (i := 772) (by decide +kernel), List.mem_of_getElem? (i := 1107) (by decide +kernel), List.mem_of_getElem? (i := 1108) (by decide +kernel)⟩
def lw_privs_4 : List (MethodName × Nat) := [(⟨"CarriedRowsModel", "layCode", "(III)V"⟩, 31), (⟨"CarriedRowsModel", "leastOf", "()I"⟩, 31), (⟨"CarriedRowsModel", "solve", "(I)Z"⟩, 31), (⟨"CarriedRowsModel", "makeSum", "(IIZ)Z"⟩, 31), (⟨"CarriedRowsModel", "multiply", "(II)Z"⟩, 31), (⟨"CarriedRowsModel", "layFirst", "(II)Z"⟩, 31), (⟨"CarriedRowsModel", "start", "(IJ)Z"⟩, 31), (⟨"CarriedRowsModel", "makeProduct", "(II)Z"⟩, 31), (⟨"CarriedRowsModel", "layPowers", "(II[J)Z"⟩, 31), (⟨"CarriedRowsModel", "fromPowers", "(I)Z"⟩, 31), (⟨"CarriedRowsModel", "makeFold", "(II)Z"⟩, 31), (⟨"CarriedRowsModel", "makeEach", "(II)Z"⟩, 31), (⟨"CarriedRowsModel", "makeSums", "(I)Z"⟩, 31), (⟨"CarriedRowsModel", "makeMoved", "(II)Z"⟩, 31), (⟨"CarriedRowsModel", "copyLaw", "(I)V"⟩, 31), (⟨"CarriedRowsModel", "makeTimes", "(II)Z"⟩, 31)]
theorem lw_r4 : ∀ q ∈ lw_privs_4, lw_okq q := List.forall_mem_cons.mpr ⟨lw_p48, List.forall_mem_cons.mpr ⟨lw_p49, List.forall_mem_cons.mpr ⟨lw_p50, List.forall_mem_cons.mpr ⟨lw_p51, List.forall_mem_cons.mpr ⟨lw_p52, List.forall_mem_cons.mpr ⟨lw_p53, List.forall_mem_cons.mpr ⟨lw_p54, List.forall_mem_cons.mpr ⟨lw_p55, List.forall_mem_cons.mpr ⟨lw_p56, List.forall_mem_cons.mpr ⟨lw_p57, List.forall_mem_cons.mpr ⟨lw_p58, List.forall_mem_cons.mpr ⟨lw_p59, List.forall_mem_cons.mpr ⟨lw_p60, List.forall_mem_cons.mpr ⟨lw_p61, List.forall_mem_cons.mpr ⟨lw_p62, List.forall_mem_cons.mpr ⟨lw_p63, fun _ h => absurd h List.not_mem_nil⟩⟩⟩⟩⟩⟩⟩⟩⟩⟩⟩⟩⟩⟩⟩⟩
theorem lw_p64 : lw_okq (⟨"CarriedRowsModel", "goesIn", "(II)Z"⟩, 31) := ⟨⟨by decide +kernel, by decide +kernel⟩, List.mem_of_getElem? (i := 772) (by decide +kernel), List.mem_of_getElem? (i := 1130) (by decide +kernel), List.mem_of_getElem? (i := 1131) (by decide +kernel)⟩
def lw_privs_5 : List (MethodName × Nat) := [(⟨"CarriedRowsModel", "goesIn", "(II)Z"⟩, 31)]
theorem lw_r5 : ∀ q ∈ lw_privs_5, lw_okq q := List.forall_mem_cons.mpr ⟨lw_p64, fun _ h => absurd h List.not_mem_nil⟩
def lw_privs : List (MethodName × Nat) := lw_privs_1 ++ (lw_privs_2 ++ (lw_privs_3 ++ (lw_privs_4 ++ (lw_privs_5))))
def lw_tbl : List Cond := k2_sels lw_privs ++ tables_1
theorem lw_privs_ok : ∀ q ∈ lw_privs, lw_okq q := by
  show ∀ q ∈ lw_privs_1 ++ (lw_privs_2 ++ (lw_privs_3 ++ (lw_privs_4 ++ (lw_privs_5)))), lw_okq q
  exact List.forall_mem_append.mpr ⟨lw_r1, List.forall_mem_append.mpr ⟨lw_r2, List.forall_mem_append.mpr ⟨lw_r3, List.forall_mem_append.mpr ⟨lw_r4, lw_r5⟩⟩⟩⟩
def AOv (t : FieldType) (U : State) : Prop := ∀ A : Array Value, (Cond.arrayOver (.array t)).before A U = true
theorem AOv.of {t : FieldType} {A : Array Value} {U : State} (h : (Cond.arrayOver (.array t)).before A U = true) : AOv t U := fun _ => h
theorem AOv.moved {t : FieldType} {u U : State} (hvm : u.vm.Alike U.vm) (h : AOv t u) : AOv t U := fun A => by
  have e := Cond.arrayOver_setVmC (args := A) hvm (.array t)
  have f : (Cond.arrayOver (.array t)).before A (u.setVm U.vm) = true := e.trans (h A)
  simp only [Cond.before, Cond.holds, Cond.value, State.vm_setVm] at f ⊢
  exact f
def RX0 : String := "CarriedRows$Longest"
def TX0 : u_T := fun k => match k with
  | 0 => ("CarriedRows$Longest", "walk", "LCarriedRows$Walk;", true)
  | 1 => ("CarriedRows$Longest", "tried", "LCarriedRows$Row;", true)
  | 2 => ("CarriedRows$Longest", "leader", "LCarriedRows$Row;", true)
  | 3 => ("CarriedRows$Longest", "laws", "I", false)
  | _ => ("CarriedRows$Longest", "turn", "I", false)
def tyX0 : Nat → FieldType := fun k => match k with
  | 0 => .object "CarriedRows$Walk"
  | 1 => .object "CarriedRows$Row"
  | 2 => .object "CarriedRows$Row"
  | 3 => .int
  | _ => .int
abbrev wsX00 : List Cond := u_ws RX0 TX0 5
theorem nmX0 : ∀ a, a < 5 → ∀ b, b < 5 → a ≠ b → (TX0 a).2.1 ≠ (TX0 b).2.1 := by decide +kernel
theorem tyX0_ok : ∀ k, k < 5 → parseFieldDescriptor (TX0 k).2.2.1 = some (tyX0 k) := by decide +kernel
abbrev cX0_init : ByteArray := prog_2_method_1_code
def yX0_init : MethodName := ⟨RX0, "<init>", "()V"⟩
abbrev cX0_search : ByteArray := prog_2_method_2_code
def yX0_search : MethodName := ⟨RX0, "search", "(II)V"⟩
abbrev cX0_tryLaw : ByteArray := prog_2_method_3_code
def yX0_tryLaw : MethodName := ⟨RX0, "tryLaw", "(III)V"⟩
abbrev cX0_turnOfTried : ByteArray := prog_2_method_4_code
def yX0_turnOfTried : MethodName := ⟨RX0, "turnOfTried", "(II)I"⟩
def RX1 : String := "CarriedRows$Maker"
def TX1 : u_T := fun k => match k with
  | 0 => ("CarriedRows$Maker", "made", "LCarriedRows$Row;", true)
  | 1 => ("CarriedRows$Maker", "ones", "LCarriedRows$Row;", true)
  | 2 => ("CarriedRows$Maker", "xNumbers", "[J", true)
  | 3 => ("CarriedRows$Maker", "yNumbers", "[J", true)
  | 4 => ("CarriedRows$Maker", "xPowers", "[J", true)
  | _ => ("CarriedRows$Maker", "yPowers", "[J", true)
def tyX1 : Nat → FieldType := fun k => match k with
  | 0 => .object "CarriedRows$Row"
  | 1 => .object "CarriedRows$Row"
  | 2 => .array .long
  | 3 => .array .long
  | 4 => .array .long
  | _ => .array .long
abbrev wsX10 : List Cond := u_ws RX1 TX1 6
theorem nmX1 : ∀ a, a < 6 → ∀ b, b < 6 → a ≠ b → (TX1 a).2.1 ≠ (TX1 b).2.1 := by decide +kernel
theorem tyX1_ok : ∀ k, k < 6 → parseFieldDescriptor (TX1 k).2.2.1 = some (tyX1 k) := by decide +kernel
abbrev cX1_init : ByteArray := prog_3_method_1_code
def yX1_init : MethodName := ⟨RX1, "<init>", "()V"⟩
abbrev cX1_build : ByteArray := prog_3_method_2_code
def yX1_build : MethodName := ⟨RX1, "build", "(ILCarriedRows$Row;LCarriedRows$Row;I)Z"⟩
abbrev cX1_makeLaw : ByteArray := prog_3_method_3_code
def yX1_makeLaw : MethodName := ⟨RX1, "makeLaw", "(ILCarriedRows$Row;LCarriedRows$Row;I)Z"⟩
abbrev cX1_multiplyPolynomials : ByteArray := prog_3_method_4_code
def yX1_multiplyPolynomials : MethodName := ⟨RX1, "multiplyPolynomials", "(LCarriedRows$Row;LCarriedRows$Row;)Z"⟩
abbrev cX1_multiplyRoots : ByteArray := prog_3_method_5_code
def yX1_multiplyRoots : MethodName := ⟨RX1, "multiplyRoots", "(LCarriedRows$Row;LCarriedRows$Row;)Z"⟩
abbrev cX1_raiseRoots : ByteArray := prog_3_method_6_code
def yX1_raiseRoots : MethodName := ⟨RX1, "raiseRoots", "(LCarriedRows$Row;I)Z"⟩
abbrev cX1_sumPowers : ByteArray := prog_3_method_7_code
def yX1_sumPowers : MethodName := ⟨RX1, "sumPowers", "(LCarriedRows$Row;[JI)Z"⟩
abbrev cX1_lawBySums : ByteArray := prog_3_method_8_code
def yX1_lawBySums : MethodName := ⟨RX1, "lawBySums", "(I)Z"⟩
abbrev cX1_makeStarts : ByteArray := prog_3_method_9_code
def yX1_makeStarts : MethodName := ⟨RX1, "makeStarts", "(ILCarriedRows$Row;LCarriedRows$Row;I)Z"⟩
abbrev cX1_lastPlaceOfX : ByteArray := prog_3_method_10_code
def yX1_lastPlaceOfX : MethodName := ⟨RX1, "lastPlaceOfX", "(II)I"⟩
abbrev cX1_numberMade : ByteArray := prog_3_method_11_code
def yX1_numberMade : MethodName := ⟨RX1, "numberMade", "(III)J"⟩
abbrev cX1_fold : ByteArray := prog_3_method_12_code
def yX1_fold : MethodName := ⟨RX1, "fold", "(I)J"⟩
abbrev cX1_product : ByteArray := prog_3_method_13_code
def yX1_product : MethodName := ⟨RX1, "product", "(JJ)J"⟩
def RX2 : String := "CarriedRows$Numbers"
def TX2 : u_T := fun k => match k with
  | 0 => ("CarriedRows$Numbers", "values", "[I", true)
  | 1 => ("CarriedRows$Numbers", "size", "I", false)
  | 2 => ("CarriedRows$Numbers", "p", "I", false)
  | 3 => ("CarriedRows$Numbers", "span", "I", false)
  | 4 => ("CarriedRows$Numbers", "law", "[I", true)
  | 5 => ("CarriedRows$Numbers", "lines", "[[I", true)
  | 6 => ("CarriedRows$Numbers", "leads", "[I", true)
  | _ => ("CarriedRows$Numbers", "walk", "LCarriedRows$Walk;", true)
def tyX2 : Nat → FieldType := fun k => match k with
  | 0 => .array .int
  | 1 => .int
  | 2 => .int
  | 3 => .int
  | 4 => .array .int
  | 5 => .array (.array .int)
  | 6 => .array .int
  | _ => .object "CarriedRows$Walk"
abbrev wsX20 : List Cond := u_ws RX2 TX2 8
theorem nmX2 : ∀ a, a < 8 → ∀ b, b < 8 → a ≠ b → (TX2 a).2.1 ≠ (TX2 b).2.1 := by decide +kernel
theorem tyX2_ok : ∀ k, k < 8 → parseFieldDescriptor (TX2 k).2.2.1 = some (tyX2 k) := by decide +kernel
abbrev cX2_init : ByteArray := prog_4_method_1_code
def yX2_init : MethodName := ⟨RX2, "<init>", "()V"⟩
abbrev cX2_append : ByteArray := prog_4_method_2_code
def yX2_append : MethodName := ⟨RX2, "append", "(I)Z"⟩
abbrev cX2_brokenBy : ByteArray := prog_4_method_3_code
def yX2_brokenBy : MethodName := ⟨RX2, "brokenBy", "(LCarriedRows$Row;)I"⟩
abbrev cX2_carriedOn : ByteArray := prog_4_method_4_code
def yX2_carriedOn : MethodName := ⟨RX2, "carriedOn", "()I"⟩
abbrev cX2_findLeastLaw : ByteArray := prog_4_method_5_code
def yX2_findLeastLaw : MethodName := ⟨RX2, "findLeastLaw", "()V"⟩
abbrev cX2_solve : ByteArray := prog_4_method_6_code
def yX2_solve : MethodName := ⟨RX2, "solve", "()Z"⟩
abbrev cX2_leadLines : ByteArray := prog_4_method_7_code
def yX2_leadLines : MethodName := ⟨RX2, "leadLines", "(I)I"⟩
abbrev cX2_lineWith : ByteArray := prog_4_method_8_code
def yX2_lineWith : MethodName := ⟨RX2, "lineWith", "(III)I"⟩
abbrev cX2_scale : ByteArray := prog_4_method_9_code
def yX2_scale : MethodName := ⟨RX2, "scale", "([II)V"⟩
abbrev cX2_clear : ByteArray := prog_4_method_10_code
def yX2_clear : MethodName := ⟨RX2, "clear", "(III)V"⟩
def RX3 : String := "CarriedRows$Parts"
def TX3 : u_T := fun k => match k with
  | 0 => ("CarriedRows$Parts", "left", "LCarriedRows$Poly;", true)
  | 1 => ("CarriedRows$Parts", "power", "LCarriedRows$Poly;", true)
  | 2 => ("CarriedRows$Parts", "base", "LCarriedRows$Poly;", true)
  | 3 => ("CarriedRows$Parts", "product", "LCarriedRows$Poly;", true)
  | 4 => ("CarriedRows$Parts", "quotient", "LCarriedRows$Poly;", true)
  | 5 => ("CarriedRows$Parts", "powerLessZ", "LCarriedRows$Poly;", true)
  | 6 => ("CarriedRows$Parts", "shared", "LCarriedRows$Poly;", true)
  | 7 => ("CarriedRows$Parts", "other", "LCarriedRows$Poly;", true)
  | 8 => ("CarriedRows$Parts", "p", "I", false)
  | 9 => ("CarriedRows$Parts", "all", "I", false)
  | 10 => ("CarriedRows$Parts", "greatestDegree", "I", false)
  | _ => ("CarriedRows$Parts", "unlike", "I", false)
def tyX3 : Nat → FieldType := fun k => match k with
  | 0 => .object "CarriedRows$Poly"
  | 1 => .object "CarriedRows$Poly"
  | 2 => .object "CarriedRows$Poly"
  | 3 => .object "CarriedRows$Poly"
  | 4 => .object "CarriedRows$Poly"
  | 5 => .object "CarriedRows$Poly"
  | 6 => .object "CarriedRows$Poly"
  | 7 => .object "CarriedRows$Poly"
  | 8 => .int
  | 9 => .int
  | 10 => .int
  | _ => .int
abbrev wsX30 : List Cond := u_ws RX3 TX3 12
theorem nmX3 : ∀ a, a < 12 → ∀ b, b < 12 → a ≠ b → (TX3 a).2.1 ≠ (TX3 b).2.1 := by decide +kernel
theorem tyX3_ok : ∀ k, k < 12 → parseFieldDescriptor (TX3 k).2.2.1 = some (tyX3 k) := by decide +kernel
abbrev cX3_init : ByteArray := prog_5_method_1_code
def yX3_init : MethodName := ⟨RX3, "<init>", "()V"⟩
abbrev cX3_part : ByteArray := prog_5_method_2_code
def yX3_part : MethodName := ⟨RX3, "part", "(LCarriedRows$Row;I)V"⟩
abbrev cX3_takeOut : ByteArray := prog_5_method_3_code
def yX3_takeOut : MethodName := ⟨RX3, "takeOut", "(II)V"⟩
abbrev cX3_raisePower : ByteArray := prog_5_method_4_code
def yX3_raisePower : MethodName := ⟨RX3, "raisePower", "()V"⟩
abbrev cX3_timesPower : ByteArray := prog_5_method_5_code
def yX3_timesPower : MethodName := ⟨RX3, "timesPower", "(LCarriedRows$Poly;)V"⟩
abbrev cX3_share : ByteArray := prog_5_method_6_code
def yX3_share : MethodName := ⟨RX3, "share", "()V"⟩
def RX4 : String := "CarriedRows$Poly"
def TX4 : u_T := fun k => match k with
  | 0 => ("CarriedRows$Poly", "numbers", "[I", true)
  | _ => ("CarriedRows$Poly", "degree", "I", false)
def tyX4 : Nat → FieldType := fun k => match k with
  | 0 => .array .int
  | _ => .int
abbrev wsX40 : List Cond := u_ws RX4 TX4 2
theorem nmX4 : ∀ a, a < 2 → ∀ b, b < 2 → a ≠ b → (TX4 a).2.1 ≠ (TX4 b).2.1 := by decide +kernel
theorem tyX4_ok : ∀ k, k < 2 → parseFieldDescriptor (TX4 k).2.2.1 = some (tyX4 k) := by decide +kernel
abbrev cX4_init : ByteArray := prog_6_method_1_code
def yX4_init : MethodName := ⟨RX4, "<init>", "()V"⟩
abbrev cX4_become : ByteArray := prog_6_method_2_code
def yX4_become : MethodName := ⟨RX4, "become", "(LCarriedRows$Poly;)V"⟩
abbrev cX4_becomeLaw : ByteArray := prog_6_method_3_code
def yX4_becomeLaw : MethodName := ⟨RX4, "becomeLaw", "(LCarriedRows$Row;I)V"⟩
abbrev cX4_becomeOne : ByteArray := prog_6_method_4_code
def yX4_becomeOne : MethodName := ⟨RX4, "becomeOne", "()V"⟩
abbrev cX4_becomeZ : ByteArray := prog_6_method_5_code
def yX4_becomeZ : MethodName := ⟨RX4, "becomeZ", "()V"⟩
abbrev cX4_lessZ : ByteArray := prog_6_method_6_code
def yX4_lessZ : MethodName := ⟨RX4, "lessZ", "(I)V"⟩
abbrev cX4_becomeProduct : ByteArray := prog_6_method_7_code
def yX4_becomeProduct : MethodName := ⟨RX4, "becomeProduct", "(LCarriedRows$Poly;LCarriedRows$Poly;I)V"⟩
abbrev cX4_divideBy : ByteArray := prog_6_method_8_code
def yX4_divideBy : MethodName := ⟨RX4, "divideBy", "(LCarriedRows$Poly;ILCarriedRows$Poly;)V"⟩
abbrev cX4_clear : ByteArray := prog_6_method_9_code
def yX4_clear : MethodName := ⟨RX4, "clear", "()V"⟩
abbrev cX4_findDegree : ByteArray := prog_6_method_10_code
def yX4_findDegree : MethodName := ⟨RX4, "findDegree", "(I)V"⟩
def RX5 : String := "CarriedRows$Rests"
def TX5 : u_T := fun k => match k with
  | 0 => ("CarriedRows$Rests", "law", "[J", true)
  | 1 => ("CarriedRows$Rests", "starts", "[J", true)
  | 2 => ("CarriedRows$Rests", "power", "[J", true)
  | 3 => ("CarriedRows$Rests", "product", "[J", true)
  | 4 => ("CarriedRows$Rests", "order", "I", false)
  | _ => ("CarriedRows$Rests", "m", "I", false)
def tyX5 : Nat → FieldType := fun k => match k with
  | 0 => .array .long
  | 1 => .array .long
  | 2 => .array .long
  | 3 => .array .long
  | 4 => .int
  | _ => .int
abbrev wsX50 : List Cond := u_ws RX5 TX5 6
theorem nmX5 : ∀ a, a < 6 → ∀ b, b < 6 → a ≠ b → (TX5 a).2.1 ≠ (TX5 b).2.1 := by decide +kernel
theorem tyX5_ok : ∀ k, k < 6 → parseFieldDescriptor (TX5 k).2.2.1 = some (tyX5 k) := by decide +kernel
abbrev cX5_init : ByteArray := prog_7_method_1_code
def yX5_init : MethodName := ⟨RX5, "<init>", "()V"⟩
abbrev cX5_placeOn : ByteArray := prog_7_method_2_code
def yX5_placeOn : MethodName := ⟨RX5, "placeOn", "(LCarriedRows$Row;II)I"⟩
abbrev cX5_placeBack : ByteArray := prog_7_method_3_code
def yX5_placeBack : MethodName := ⟨RX5, "placeBack", "(LCarriedRows$Row;II)I"⟩
abbrev cX5_place : ByteArray := prog_7_method_4_code
def yX5_place : MethodName := ⟨RX5, "place", "(I)I"⟩
abbrev cX5_square : ByteArray := prog_7_method_5_code
def yX5_square : MethodName := ⟨RX5, "square", "()V"⟩
abbrev cX5_timesZ : ByteArray := prog_7_method_6_code
def yX5_timesZ : MethodName := ⟨RX5, "timesZ", "()V"⟩
def RX6 : String := "CarriedRows$Rounds"
def TX6 : u_T := fun k => match k with
  | 0 => ("CarriedRows$Rounds", "walk", "LCarriedRows$Walk;", true)
  | 1 => ("CarriedRows$Rounds", "early", "[J", true)
  | 2 => ("CarriedRows$Rounds", "late", "[J", true)
  | 3 => ("CarriedRows$Rounds", "tail", "I", false)
  | _ => ("CarriedRows$Rounds", "turn", "I", false)
def tyX6 : Nat → FieldType := fun k => match k with
  | 0 => .object "CarriedRows$Walk"
  | 1 => .array .long
  | 2 => .array .long
  | 3 => .int
  | _ => .int
abbrev wsX60 : List Cond := u_ws RX6 TX6 5
theorem nmX6 : ∀ a, a < 5 → ∀ b, b < 5 → a ≠ b → (TX6 a).2.1 ≠ (TX6 b).2.1 := by decide +kernel
theorem tyX6_ok : ∀ k, k < 5 → parseFieldDescriptor (TX6 k).2.2.1 = some (tyX6 k) := by decide +kernel
abbrev cX6_init : ByteArray := prog_8_method_1_code
def yX6_init : MethodName := ⟨RX6, "<init>", "()V"⟩
abbrev cX6_find : ByteArray := prog_8_method_2_code
def yX6_find : MethodName := ⟨RX6, "find", "(LCarriedRows$Row;I)Z"⟩
abbrev cX6_findTurn : ByteArray := prog_8_method_3_code
def yX6_findTurn : MethodName := ⟨RX6, "findTurn", "()I"⟩
abbrev cX6_noughts : ByteArray := prog_8_method_4_code
def yX6_noughts : MethodName := ⟨RX6, "noughts", "(LCarriedRows$Row;I)I"⟩
abbrev cX6_leastPlaceOf : ByteArray := prog_8_method_5_code
def yX6_leastPlaceOf : MethodName := ⟨RX6, "leastPlaceOf", "(LCarriedRows$Row;II)I"⟩
def RX7 : String := "CarriedRows$Row"
def TX7 : u_T := fun k => match k with
  | 0 => ("CarriedRows$Row", "order", "I", false)
  | 1 => ("CarriedRows$Row", "law", "[J", true)
  | _ => ("CarriedRows$Row", "starts", "[J", true)
def tyX7 : Nat → FieldType := fun k => match k with
  | 0 => .int
  | 1 => .array .long
  | _ => .array .long
abbrev wsX70 : List Cond := u_ws RX7 TX7 3
theorem nmX7 : ∀ a, a < 3 → ∀ b, b < 3 → a ≠ b → (TX7 a).2.1 ≠ (TX7 b).2.1 := by decide +kernel
theorem tyX7_ok : ∀ k, k < 3 → parseFieldDescriptor (TX7 k).2.2.1 = some (tyX7 k) := by decide +kernel
abbrev cX7_init : ByteArray := prog_9_method_1_code
def yX7_init : MethodName := ⟨RX7, "<init>", "()V"⟩
abbrev cX7_become : ByteArray := prog_9_method_2_code
def yX7_become : MethodName := ⟨RX7, "become", "(LCarriedRows$Row;)V"⟩
abbrev cX7_tellNumbers : ByteArray := prog_9_method_3_code
def yX7_tellNumbers : MethodName := ⟨RX7, "tellNumbers", "([JI)I"⟩
abbrev cX7_carriedOn : ByteArray := prog_9_method_4_code
def yX7_carriedOn : MethodName := ⟨RX7, "carriedOn", "([JI)J"⟩
abbrev cX7_isRoot : ByteArray := prog_9_method_5_code
def yX7_isRoot : MethodName := ⟨RX7, "isRoot", "(II)Z"⟩
def RX8 : String := "CarriedRows$Text"
def TX8 : u_T := fun k => match k with
  | 0 => ("CarriedRows$Text", "bytes", "[I", true)
  | 1 => ("CarriedRows$Text", "length", "I", false)
  | 2 => ("CarriedRows$Text", "row", "LCarriedRows$Row;", true)
  | 3 => ("CarriedRows$Text", "number", "I", false)
  | _ => ("CarriedRows$Text", "behind", "I", false)
def tyX8 : Nat → FieldType := fun k => match k with
  | 0 => .array .int
  | 1 => .int
  | 2 => .object "CarriedRows$Row"
  | 3 => .int
  | _ => .int
abbrev wsX80 : List Cond := u_ws RX8 TX8 5
theorem nmX8 : ∀ a, a < 5 → ∀ b, b < 5 → a ≠ b → (TX8 a).2.1 ≠ (TX8 b).2.1 := by decide +kernel
theorem tyX8_ok : ∀ k, k < 5 → parseFieldDescriptor (TX8 k).2.2.1 = some (tyX8 k) := by decide +kernel
abbrev cX8_init : ByteArray := prog_10_method_1_code
def yX8_init : MethodName := ⟨RX8, "<init>", "()V"⟩
abbrev cX8_append : ByteArray := prog_10_method_2_code
def yX8_append : MethodName := ⟨RX8, "append", "(IJ)Z"⟩
abbrev cX8_findFault : ByteArray := prog_10_method_3_code
def yX8_findFault : MethodName := ⟨RX8, "findFault", "()I"⟩
abbrev cX8_readLaw : ByteArray := prog_10_method_4_code
def yX8_readLaw : MethodName := ⟨RX8, "readLaw", "()I"⟩
abbrev cX8_readStarts : ByteArray := prog_10_method_5_code
def yX8_readStarts : MethodName := ⟨RX8, "readStarts", "(I)I"⟩
abbrev cX8_readNumber : ByteArray := prog_10_method_6_code
def yX8_readNumber : MethodName := ⟨RX8, "readNumber", "(II)I"⟩
abbrev cX8_isFigure : ByteArray := prog_10_method_7_code
def yX8_isFigure : MethodName := ⟨RX8, "isFigure", "(I)Z"⟩
abbrev cX8_isByte : ByteArray := prog_10_method_8_code
def yX8_isByte : MethodName := ⟨RX8, "isByte", "(IC)Z"⟩
def RX9 : String := "CarriedRows$Walk"
def TX9 : u_T := fun k => match k with
  | 0 => ("CarriedRows$Walk", "law", "[I", true)
  | 1 => ("CarriedRows$Walk", "state", "[I", true)
  | 2 => ("CarriedRows$Walk", "order", "I", false)
  | 3 => ("CarriedRows$Walk", "m", "I", false)
  | 4 => ("CarriedRows$Walk", "top", "J", false)
  | _ => ("CarriedRows$Walk", "code", "J", false)
def tyX9 : Nat → FieldType := fun k => match k with
  | 0 => .array .int
  | 1 => .array .int
  | 2 => .int
  | 3 => .int
  | 4 => .long
  | _ => .long
abbrev wsX90 : List Cond := u_ws RX9 TX9 6
theorem nmX9 : ∀ a, a < 6 → ∀ b, b < 6 → a ≠ b → (TX9 a).2.1 ≠ (TX9 b).2.1 := by decide +kernel
theorem tyX9_ok : ∀ k, k < 6 → parseFieldDescriptor (TX9 k).2.2.1 = some (tyX9 k) := by decide +kernel
abbrev cX9_init : ByteArray := prog_11_method_1_code
def yX9_init : MethodName := ⟨RX9, "<init>", "()V"⟩
abbrev cX9_begin : ByteArray := prog_11_method_2_code
def yX9_begin : MethodName := ⟨RX9, "begin", "(LCarriedRows$Row;I)V"⟩
abbrev cX9_step : ByteArray := prog_11_method_3_code
def yX9_step : MethodName := ⟨RX9, "step", "()V"⟩
abbrev cX9_here : ByteArray := prog_11_method_4_code
def yX9_here : MethodName := ⟨RX9, "here", "()I"⟩
def RX10 : String := "CarriedRows"
def TX10 : u_T := fun k => match k with
  | 0 => ("CarriedRows", "text", "LCarriedRows$Text;", true)
  | 1 => ("CarriedRows", "registers", "[LCarriedRows$Row;", true)
  | 2 => ("CarriedRows", "numbers", "LCarriedRows$Numbers;", true)
  | 3 => ("CarriedRows", "rests", "LCarriedRows$Rests;", true)
  | 4 => ("CarriedRows", "rounds", "LCarriedRows$Rounds;", true)
  | 5 => ("CarriedRows", "longestLaws", "LCarriedRows$Longest;", true)
  | 6 => ("CarriedRows", "maker", "LCarriedRows$Maker;", true)
  | 7 => ("CarriedRows", "parts", "LCarriedRows$Parts;", true)
  | 8 => ("CarriedRows", "exactNumbers", "[J", true)
  | _ => ("CarriedRows", "otherNumbers", "[J", true)
def tyX10 : Nat → FieldType := fun k => match k with
  | 0 => .object "CarriedRows$Text"
  | 1 => .array (.object "CarriedRows$Row")
  | 2 => .object "CarriedRows$Numbers"
  | 3 => .object "CarriedRows$Rests"
  | 4 => .object "CarriedRows$Rounds"
  | 5 => .object "CarriedRows$Longest"
  | 6 => .object "CarriedRows$Maker"
  | 7 => .object "CarriedRows$Parts"
  | 8 => .array .long
  | _ => .array .long
abbrev wsX100 : List Cond := u_ws RX10 TX10 10
theorem nmX10 : ∀ a, a < 10 → ∀ b, b < 10 → a ≠ b → (TX10 a).2.1 ≠ (TX10 b).2.1 := by decide +kernel
theorem tyX10_ok : ∀ k, k < 10 → parseFieldDescriptor (TX10 k).2.2.1 = some (tyX10 k) := by decide +kernel
abbrev cX10_init : ByteArray := prog_1_method_1_code
def yX10_init : MethodName := ⟨RX10, "<init>", "()V"⟩
abbrev cX10_write : ByteArray := prog_1_method_2_code
def yX10_write : MethodName := ⟨RX10, "write", "(IJ)I"⟩
abbrev cX10_wipe : ByteArray := prog_1_method_3_code
def yX10_wipe : MethodName := ⟨RX10, "wipe", "()I"⟩
abbrev cX10_fault : ByteArray := prog_1_method_4_code
def yX10_fault : MethodName := ⟨RX10, "fault", "()I"⟩
abbrev cX10_take : ByteArray := prog_1_method_5_code
def yX10_take : MethodName := ⟨RX10, "take", "(I)I"⟩
abbrev cX10_told : ByteArray := prog_1_method_6_code
def yX10_told : MethodName := ⟨RX10, "told", "(III)I"⟩
abbrev cX10_exact : ByteArray := prog_1_method_7_code
def yX10_exact : MethodName := ⟨RX10, "exact", "(II)J"⟩
abbrev cX10_rest : ByteArray := prog_1_method_8_code
def yX10_rest : MethodName := ⟨RX10, "rest", "(III)I"⟩
abbrev cX10_round : ByteArray := prog_1_method_9_code
def yX10_round : MethodName := ⟨RX10, "round", "(III)I"⟩
abbrev cX10_first : ByteArray := prog_1_method_10_code
def yX10_first : MethodName := ⟨RX10, "first", "(III)I"⟩
abbrev cX10_back : ByteArray := prog_1_method_11_code
def yX10_back : MethodName := ⟨RX10, "back", "(III)I"⟩
abbrev cX10_roots : ByteArray := prog_1_method_12_code
def yX10_roots : MethodName := ⟨RX10, "roots", "(III)I"⟩
abbrev cX10_longest : ByteArray := prog_1_method_13_code
def yX10_longest : MethodName := ⟨RX10, "longest", "(III)I"⟩
abbrev cX10_prime : ByteArray := prog_1_method_14_code
def yX10_prime : MethodName := ⟨RX10, "prime", "(I)I"⟩
abbrev cX10_add : ByteArray := prog_1_method_15_code
def yX10_add : MethodName := ⟨RX10, "add", "(I)I"⟩
abbrev cX10_least : ByteArray := prog_1_method_16_code
def yX10_least : MethodName := ⟨RX10, "least", "(I)I"⟩
abbrev cX10_breaks : ByteArray := prog_1_method_17_code
def yX10_breaks : MethodName := ⟨RX10, "breaks", "(I)I"⟩
abbrev cX10_next : ByteArray := prog_1_method_18_code
def yX10_next : MethodName := ⟨RX10, "next", "()I"⟩
abbrev cX10_make : ByteArray := prog_1_method_19_code
def yX10_make : MethodName := ⟨RX10, "make", "(IIIII)I"⟩
abbrev cX10_same : ByteArray := prog_1_method_20_code
def yX10_same : MethodName := ⟨RX10, "same", "(II)I"⟩
abbrev cX10_dividing : ByteArray := prog_1_method_21_code
def yX10_dividing : MethodName := ⟨RX10, "dividing", "(IZI)I"⟩
abbrev cX10_parted : ByteArray := prog_1_method_22_code
def yX10_parted : MethodName := ⟨RX10, "parted", "(III)I"⟩
abbrev cX10_count : ByteArray := prog_1_method_23_code
def yX10_count : MethodName := ⟨RX10, "count", "(I)I"⟩
abbrev cX10_ordersTogether : ByteArray := prog_1_method_24_code
def yX10_ordersTogether : MethodName := ⟨RX10, "ordersTogether", "()I"⟩
abbrev cX10_divides : ByteArray := prog_1_method_25_code
def yX10_divides : MethodName := ⟨RX10, "divides", "(II)Z"⟩
abbrev cX10_sharesStrongly : ByteArray := prog_1_method_26_code
def yX10_sharesStrongly : MethodName := ⟨RX10, "sharesStrongly", "(II)Z"⟩
abbrev cX10_isPart : ByteArray := prog_1_method_27_code
def yX10_isPart : MethodName := ⟨RX10, "isPart", "(JJ)Z"⟩
abbrev cX10_isMeasure : ByteArray := prog_1_method_28_code
def yX10_isMeasure : MethodName := ⟨RX10, "isMeasure", "(II)Z"⟩
abbrev cX10_isRegister : ByteArray := prog_1_method_29_code
def yX10_isRegister : MethodName := ⟨RX10, "isRegister", "(I)Z"⟩
abbrev cX10_isIn : ByteArray := prog_1_method_30_code
def yX10_isIn : MethodName := ⟨RX10, "isIn", "(III)Z"⟩
abbrev cX10_isPrime : ByteArray := prog_1_method_31_code
def yX10_isPrime : MethodName := ⟨RX10, "isPrime", "(I)Z"⟩
abbrev cX10_commonPart : ByteArray := prog_1_method_32_code
def yX10_commonPart : MethodName := ⟨RX10, "commonPart", "(JJ)J"⟩
abbrev cX10_inverse : ByteArray := prog_1_method_33_code
def yX10_inverse : MethodName := ⟨RX10, "inverse", "(JI)I"⟩
def RX11 : String := "CarriedRowsModel"
def TX11 : u_T := fun k => match k with
  | 0 => ("CarriedRowsModel", "order", "[I", true)
  | 1 => ("CarriedRowsModel", "law", "[J", true)
  | 2 => ("CarriedRowsModel", "starts", "[J", true)
  | 3 => ("CarriedRowsModel", "length", "I", false)
  | 4 => ("CarriedRowsModel", "text", "[I", true)
  | 5 => ("CarriedRowsModel", "prime", "I", false)
  | 6 => ("CarriedRowsModel", "numberMany", "I", false)
  | 7 => ("CarriedRowsModel", "numbers", "[I", true)
  | 8 => ("CarriedRowsModel", "at", "I", false)
  | 9 => ("CarriedRowsModel", "wrong", "I", false)
  | 10 => ("CarriedRowsModel", "value", "J", false)
  | 11 => ("CarriedRowsModel", "exactMany", "I", false)
  | 12 => ("CarriedRowsModel", "exacts", "[J", true)
  | 13 => ("CarriedRowsModel", "power", "[J", true)
  | 14 => ("CarriedRowsModel", "step", "[J", true)
  | 15 => ("CarriedRowsModel", "both", "[J", true)
  | 16 => ("CarriedRowsModel", "slow", "[J", true)
  | 17 => ("CarriedRowsModel", "fast", "[J", true)
  | 18 => ("CarriedRowsModel", "tail", "I", false)
  | 19 => ("CarriedRowsModel", "round", "I", false)
  | 20 => ("CarriedRowsModel", "lines", "[J", true)
  | 21 => ("CarriedRowsModel", "found", "[J", true)
  | 22 => ("CarriedRowsModel", "poly", "[J", true)
  | 23 => ("CarriedRowsModel", "powersX", "[J", true)
  | 24 => ("CarriedRowsModel", "powersY", "[J", true)
  | 25 => ("CarriedRowsModel", "powers", "[J", true)
  | 26 => ("CarriedRowsModel", "firstX", "[J", true)
  | 27 => ("CarriedRowsModel", "degree", "I", false)
  | 28 => ("CarriedRowsModel", "left", "[J", true)
  | 29 => ("CarriedRowsModel", "tried", "[J", true)
  | _ => ("CarriedRowsModel", "work", "[J", true)
def tyX11 : Nat → FieldType := fun k => match k with
  | 0 => .array .int
  | 1 => .array .long
  | 2 => .array .long
  | 3 => .int
  | 4 => .array .int
  | 5 => .int
  | 6 => .int
  | 7 => .array .int
  | 8 => .int
  | 9 => .int
  | 10 => .long
  | 11 => .int
  | 12 => .array .long
  | 13 => .array .long
  | 14 => .array .long
  | 15 => .array .long
  | 16 => .array .long
  | 17 => .array .long
  | 18 => .int
  | 19 => .int
  | 20 => .array .long
  | 21 => .array .long
  | 22 => .array .long
  | 23 => .array .long
  | 24 => .array .long
  | 25 => .array .long
  | 26 => .array .long
  | 27 => .int
  | 28 => .array .long
  | 29 => .array .long
  | _ => .array .long
abbrev wsX110 : List Cond := u_ws RX11 TX11 31
theorem nmX11 : ∀ a, a < 31 → ∀ b, b < 31 → a ≠ b → (TX11 a).2.1 ≠ (TX11 b).2.1 := by decide +kernel
theorem tyX11_ok : ∀ k, k < 31 → parseFieldDescriptor (TX11 k).2.2.1 = some (tyX11 k) := by decide +kernel
abbrev cX11_init : ByteArray := prog_13_method_1_code
def yX11_init : MethodName := ⟨RX11, "<init>", "()V"⟩
abbrev cX11_in : ByteArray := prog_13_method_2_code
def yX11_in : MethodName := ⟨RX11, "in", "(JJJ)Z"⟩
abbrev cX11_isReg : ByteArray := prog_13_method_3_code
def yX11_isReg : MethodName := ⟨RX11, "isReg", "(I)Z"⟩
abbrev cX11_size : ByteArray := prog_13_method_4_code
def yX11_size : MethodName := ⟨RX11, "size", "(J)J"⟩
abbrev cX11_modulo : ByteArray := prog_13_method_5_code
def yX11_modulo : MethodName := ⟨RX11, "modulo", "(JJ)J"⟩
abbrev cX11_shared : ByteArray := prog_13_method_6_code
def yX11_shared : MethodName := ⟨RX11, "shared", "(JJ)J"⟩
abbrev cX11_write : ByteArray := prog_13_method_7_code
def yX11_write : MethodName := ⟨RX11, "write", "(IJ)I"⟩
abbrev cX11_wipe : ByteArray := prog_13_method_8_code
def yX11_wipe : MethodName := ⟨RX11, "wipe", "()I"⟩
abbrev cX11_isFigure : ByteArray := prog_13_method_9_code
def yX11_isFigure : MethodName := ⟨RX11, "isFigure", "(I)Z"⟩
abbrev cX11_number : ByteArray := prog_13_method_10_code
def yX11_number : MethodName := ⟨RX11, "number", "(J)Z"⟩
abbrev cX11_readAll : ByteArray := prog_13_method_11_code
def yX11_readAll : MethodName := ⟨RX11, "readAll", "()I"⟩
abbrev cX11_fault : ByteArray := prog_13_method_12_code
def yX11_fault : MethodName := ⟨RX11, "fault", "()I"⟩
abbrev cX11_keep : ByteArray := prog_13_method_13_code
def yX11_keep : MethodName := ⟨RX11, "keep", "(I)V"⟩
abbrev cX11_take : ByteArray := prog_13_method_14_code
def yX11_take : MethodName := ⟨RX11, "take", "(I)I"⟩
abbrev cX11_told : ByteArray := prog_13_method_15_code
def yX11_told : MethodName := ⟨RX11, "told", "(III)I"⟩
abbrev cX11_layExact : ByteArray := prog_13_method_16_code
def yX11_layExact : MethodName := ⟨RX11, "layExact", "(II)I"⟩
abbrev cX11_exact : ByteArray := prog_13_method_17_code
def yX11_exact : MethodName := ⟨RX11, "exact", "(II)J"⟩
abbrev cX11_times : ByteArray := prog_13_method_18_code
def yX11_times : MethodName := ⟨RX11, "times", "([J[JIJ)V"⟩
abbrev cX11_restOf : ByteArray := prog_13_method_19_code
def yX11_restOf : MethodName := ⟨RX11, "restOf", "(III)I"⟩
abbrev cX11_rest : ByteArray := prog_13_method_20_code
def yX11_rest : MethodName := ⟨RX11, "rest", "(III)I"⟩
abbrev cX11_begin : ByteArray := prog_13_method_21_code
def yX11_begin : MethodName := ⟨RX11, "begin", "([JII)V"⟩
abbrev cX11_go : ByteArray := prog_13_method_22_code
def yX11_go : MethodName := ⟨RX11, "go", "([JII)V"⟩
abbrev cX11_areAlike : ByteArray := prog_13_method_23_code
def yX11_areAlike : MethodName := ⟨RX11, "areAlike", "(I)Z"⟩
abbrev cX11_layRound : ByteArray := prog_13_method_24_code
def yX11_layRound : MethodName := ⟨RX11, "layRound", "(II)Z"⟩
abbrev cX11_lookFor : ByteArray := prog_13_method_25_code
def yX11_lookFor : MethodName := ⟨RX11, "lookFor", "(IIIZ)I"⟩
abbrev cX11_round : ByteArray := prog_13_method_26_code
def yX11_round : MethodName := ⟨RX11, "round", "(III)I"⟩
abbrev cX11_first : ByteArray := prog_13_method_27_code
def yX11_first : MethodName := ⟨RX11, "first", "(III)I"⟩
abbrev cX11_inverse : ByteArray := prog_13_method_28_code
def yX11_inverse : MethodName := ⟨RX11, "inverse", "(JJ)J"⟩
abbrev cX11_back : ByteArray := prog_13_method_29_code
def yX11_back : MethodName := ⟨RX11, "back", "(III)I"⟩
abbrev cX11_isPrime : ByteArray := prog_13_method_30_code
def yX11_isPrime : MethodName := ⟨RX11, "isPrime", "(I)Z"⟩
abbrev cX11_isRoot : ByteArray := prog_13_method_31_code
def yX11_isRoot : MethodName := ⟨RX11, "isRoot", "(III)Z"⟩
abbrev cX11_roots : ByteArray := prog_13_method_32_code
def yX11_roots : MethodName := ⟨RX11, "roots", "(III)I"⟩
abbrev cX11_longest : ByteArray := prog_13_method_33_code
def yX11_longest : MethodName := ⟨RX11, "longest", "(III)I"⟩
abbrev cX11_layCode : ByteArray := prog_13_method_34_code
def yX11_layCode : MethodName := ⟨RX11, "layCode", "(III)V"⟩
abbrev cX11_prime : ByteArray := prog_13_method_35_code
def yX11_prime : MethodName := ⟨RX11, "prime", "(I)I"⟩
abbrev cX11_add : ByteArray := prog_13_method_36_code
def yX11_add : MethodName := ⟨RX11, "add", "(I)I"⟩
abbrev cX11_solve : ByteArray := prog_13_method_37_code
def yX11_solve : MethodName := ⟨RX11, "solve", "(I)Z"⟩
abbrev cX11_leastOf : ByteArray := prog_13_method_38_code
def yX11_leastOf : MethodName := ⟨RX11, "leastOf", "()I"⟩
abbrev cX11_least : ByteArray := prog_13_method_39_code
def yX11_least : MethodName := ⟨RX11, "least", "(I)I"⟩
abbrev cX11_breaks : ByteArray := prog_13_method_40_code
def yX11_breaks : MethodName := ⟨RX11, "breaks", "(I)I"⟩
abbrev cX11_next : ByteArray := prog_13_method_41_code
def yX11_next : MethodName := ⟨RX11, "next", "()I"⟩
abbrev cX11_multiply : ByteArray := prog_13_method_42_code
def yX11_multiply : MethodName := ⟨RX11, "multiply", "(II)Z"⟩
abbrev cX11_start : ByteArray := prog_13_method_43_code
def yX11_start : MethodName := ⟨RX11, "start", "(IJ)Z"⟩
abbrev cX11_layPowers : ByteArray := prog_13_method_44_code
def yX11_layPowers : MethodName := ⟨RX11, "layPowers", "(II[J)Z"⟩
abbrev cX11_fromPowers : ByteArray := prog_13_method_45_code
def yX11_fromPowers : MethodName := ⟨RX11, "fromPowers", "(I)Z"⟩
abbrev cX11_layFirst : ByteArray := prog_13_method_46_code
def yX11_layFirst : MethodName := ⟨RX11, "layFirst", "(II)Z"⟩
abbrev cX11_isGreat : ByteArray := prog_13_method_47_code
def yX11_isGreat : MethodName := ⟨RX11, "isGreat", "(JJ)Z"⟩
abbrev cX11_makeSum : ByteArray := prog_13_method_48_code
def yX11_makeSum : MethodName := ⟨RX11, "makeSum", "(IIZ)Z"⟩
abbrev cX11_makeProduct : ByteArray := prog_13_method_49_code
def yX11_makeProduct : MethodName := ⟨RX11, "makeProduct", "(II)Z"⟩
abbrev cX11_makeFold : ByteArray := prog_13_method_50_code
def yX11_makeFold : MethodName := ⟨RX11, "makeFold", "(II)Z"⟩
abbrev cX11_makeEach : ByteArray := prog_13_method_51_code
def yX11_makeEach : MethodName := ⟨RX11, "makeEach", "(II)Z"⟩
abbrev cX11_makeSums : ByteArray := prog_13_method_52_code
def yX11_makeSums : MethodName := ⟨RX11, "makeSums", "(I)Z"⟩
abbrev cX11_copyLaw : ByteArray := prog_13_method_53_code
def yX11_copyLaw : MethodName := ⟨RX11, "copyLaw", "(I)V"⟩
abbrev cX11_makeMoved : ByteArray := prog_13_method_54_code
def yX11_makeMoved : MethodName := ⟨RX11, "makeMoved", "(II)Z"⟩
abbrev cX11_makeTimes : ByteArray := prog_13_method_55_code
def yX11_makeTimes : MethodName := ⟨RX11, "makeTimes", "(II)Z"⟩
abbrev cX11_make : ByteArray := prog_13_method_56_code
def yX11_make : MethodName := ⟨RX11, "make", "(IIIII)I"⟩
abbrev cX11_same : ByteArray := prog_13_method_57_code
def yX11_same : MethodName := ⟨RX11, "same", "(II)I"⟩
abbrev cX11_isPart : ByteArray := prog_13_method_58_code
def yX11_isPart : MethodName := ⟨RX11, "isPart", "(JJ)Z"⟩
abbrev cX11_common : ByteArray := prog_13_method_59_code
def yX11_common : MethodName := ⟨RX11, "common", "(II)I"⟩
abbrev cX11_dividing : ByteArray := prog_13_method_60_code
def yX11_dividing : MethodName := ⟨RX11, "dividing", "(IZI)I"⟩
abbrev cX11_goesIn : ByteArray := prog_13_method_61_code
def yX11_goesIn : MethodName := ⟨RX11, "goesIn", "(II)Z"⟩
abbrev cX11_parted : ByteArray := prog_13_method_62_code
def yX11_parted : MethodName := ⟨RX11, "parted", "(III)I"⟩
abbrev cX11_count : ByteArray := prog_13_method_63_code
def yX11_count : MethodName := ⟨RX11, "count", "(I)I"⟩
def RJ9 : String := "java/lang/Math"
def TJ9 : u_T := fun k => match k with
  | _ => ("", "", "", false)
def tyJ9 : Nat → FieldType := fun k => match k with
  | _ => .int
abbrev wsJ90 : List Cond := u_ws RJ9 TJ9 0
theorem nmJ9 : ∀ a, a < 0 → ∀ b, b < 0 → a ≠ b → (TJ9 a).2.1 ≠ (TJ9 b).2.1 := by decide +kernel
theorem tyJ9_ok : ∀ k, k < 0 → parseFieldDescriptor (TJ9 k).2.2.1 = some (tyJ9 k) := by decide +kernel
abbrev cJ9_floorMod_f86c9 : ByteArray := prog_14_method_52_code
def yJ9_floorMod_f86c9 : MethodName := ⟨RJ9, "floorMod", "(JJ)J"⟩
abbrev cJ9_abs_067f4 : ByteArray := prog_14_method_61_code
def yJ9_abs_067f4 : MethodName := ⟨RJ9, "abs", "(J)J"⟩
abbrev cJ9_max_7cf53 : ByteArray := prog_14_method_65_code
def yJ9_max_7cf53 : MethodName := ⟨RJ9, "max", "(II)I"⟩
abbrev cJ9_min_7cf53 : ByteArray := prog_14_method_69_code
def yJ9_min_7cf53 : MethodName := ⟨RJ9, "min", "(II)I"⟩
def RJ10 : String := "java/lang/System"
def TJ10 : u_T := fun k => match k with
  | _ => ("", "", "", false)
def tyJ10 : Nat → FieldType := fun k => match k with
  | _ => .int
abbrev wsJ100 : List Cond := u_ws RJ10 TJ10 0
theorem nmJ10 : ∀ a, a < 0 → ∀ b, b < 0 → a ≠ b → (TJ10 a).2.1 ≠ (TJ10 b).2.1 := by decide +kernel
theorem tyJ10_ok : ∀ k, k < 0 → parseFieldDescriptor (TJ10 k).2.2.1 = some (tyJ10 k) := by decide +kernel
def RL : String := "CarriedRowsLaw"
abbrev cL_law : ByteArray := code
def yL_law : MethodName := ⟨RL, "law", "([I)Z"⟩
