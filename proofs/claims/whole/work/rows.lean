section
-- ===== PART A: goes FIRST, ahead of the names: the tables' words, and 'selects' of the private methods out of them =====
/-- a private method of a class that the tables say can be made, by its rows of tables_1 -/
def lw_okq (q : MethodName × Nat) : Prop := (q.1.cls ≠ "java/lang/invoke/MethodHandle" ∧ q.1.cls ≠ "java/lang/invoke/VarHandle") ∧ Cond.instantiable q.1.cls q.2 ∈ tables_1 ∧ Cond.privateMethod q.1 ∈ tables_1 ∧ Cond.instanceMethod q.1 ∈ tables_1
theorem lw_p0 : lw_okq (⟨"VarietyCircuit", "putBytes", "(I)V"⟩, 12) := ⟨⟨by decide +kernel, by decide +kernel⟩, List.mem_of_getElem? (i := 17) (by decide +kernel), List.mem_of_getElem? (i := 208) (by decide +kernel), List.mem_of_getElem? (i := 209) (by decide +kernel)⟩
theorem lw_p1 : lw_okq (⟨"VarietyCircuit", "turnAt", "(I)LVarietyCircuit$Turn;"⟩, 12) := ⟨⟨by decide +kernel, by decide +kernel⟩, List.mem_of_getElem? (i := 17) (by decide +kernel), List.mem_of_getElem? (i := 216) (by decide +kernel), List.mem_of_getElem? (i := 217) (by decide +kernel)⟩
theorem lw_p2 : lw_okq (⟨"VarietyCircuit$ContractReader", "step", "()V"⟩, 5) := ⟨⟨by decide +kernel, by decide +kernel⟩, List.mem_of_getElem? (i := 223) (by decide +kernel), List.mem_of_getElem? (i := 254) (by decide +kernel), List.mem_of_getElem? (i := 255) (by decide +kernel)⟩
theorem lw_p3 : lw_okq (⟨"VarietyCircuit$ContractReader", "isBlank", "(I)Z"⟩, 5) := ⟨⟨by decide +kernel, by decide +kernel⟩, List.mem_of_getElem? (i := 223) (by decide +kernel), List.mem_of_getElem? (i := 258) (by decide +kernel), List.mem_of_getElem? (i := 259) (by decide +kernel)⟩
theorem lw_p4 : lw_okq (⟨"VarietyCircuit$ContractReader", "byteAt", "(I)I"⟩, 5) := ⟨⟨by decide +kernel, by decide +kernel⟩, List.mem_of_getElem? (i := 223) (by decide +kernel), List.mem_of_getElem? (i := 262) (by decide +kernel), List.mem_of_getElem? (i := 263) (by decide +kernel)⟩
theorem lw_p5 : lw_okq (⟨"VarietyCircuit$ContractReader", "isLetter", "(I)Z"⟩, 5) := ⟨⟨by decide +kernel, by decide +kernel⟩, List.mem_of_getElem? (i := 223) (by decide +kernel), List.mem_of_getElem? (i := 266) (by decide +kernel), List.mem_of_getElem? (i := 267) (by decide +kernel)⟩
theorem lw_p6 : lw_okq (⟨"VarietyCircuit$ContractReader", "isDigit", "(I)Z"⟩, 5) := ⟨⟨by decide +kernel, by decide +kernel⟩, List.mem_of_getElem? (i := 223) (by decide +kernel), List.mem_of_getElem? (i := 271) (by decide +kernel), List.mem_of_getElem? (i := 272) (by decide +kernel)⟩
theorem lw_p7 : lw_okq (⟨"VarietyCircuit$ContractReader", "readStatement", "()Z"⟩, 5) := ⟨⟨by decide +kernel, by decide +kernel⟩, List.mem_of_getElem? (i := 223) (by decide +kernel), List.mem_of_getElem? (i := 275) (by decide +kernel), List.mem_of_getElem? (i := 276) (by decide +kernel)⟩
theorem lw_p8 : lw_okq (⟨"VarietyCircuit$ContractReader", "readOpening", "()I"⟩, 5) := ⟨⟨by decide +kernel, by decide +kernel⟩, List.mem_of_getElem? (i := 223) (by decide +kernel), List.mem_of_getElem? (i := 279) (by decide +kernel), List.mem_of_getElem? (i := 280) (by decide +kernel)⟩
theorem lw_p9 : lw_okq (⟨"VarietyCircuit$ContractReader", "holds", "(Ljava/lang/String;)Z"⟩, 5) := ⟨⟨by decide +kernel, by decide +kernel⟩, List.mem_of_getElem? (i := 223) (by decide +kernel), List.mem_of_getElem? (i := 284) (by decide +kernel), List.mem_of_getElem? (i := 285) (by decide +kernel)⟩
theorem lw_p10 : lw_okq (⟨"VarietyCircuit$ContractReader", "stepTo", "(Ljava/lang/String;)Z"⟩, 5) := ⟨⟨by decide +kernel, by decide +kernel⟩, List.mem_of_getElem? (i := 223) (by decide +kernel), List.mem_of_getElem? (i := 340) (by decide +kernel), List.mem_of_getElem? (i := 341) (by decide +kernel)⟩
theorem lw_p11 : lw_okq (⟨"VarietyCircuit$ContractReader", "stepToNumber", "()I"⟩, 5) := ⟨⟨by decide +kernel, by decide +kernel⟩, List.mem_of_getElem? (i := 223) (by decide +kernel), List.mem_of_getElem? (i := 347) (by decide +kernel), List.mem_of_getElem? (i := 348) (by decide +kernel)⟩
theorem lw_p12 : lw_okq (⟨"VarietyCircuit", "hallAt", "(I)LVarietyCircuit$Hall;"⟩, 12) := ⟨⟨by decide +kernel, by decide +kernel⟩, List.mem_of_getElem? (i := 17) (by decide +kernel), List.mem_of_getElem? (i := 421) (by decide +kernel), List.mem_of_getElem? (i := 422) (by decide +kernel)⟩
theorem lw_p13 : lw_okq (⟨"VarietyCircuit", "barTo", "(LVarietyCircuit$Turn;LVarietyCircuit$Hall;I)I"⟩, 12) := ⟨⟨by decide +kernel, by decide +kernel⟩, List.mem_of_getElem? (i := 17) (by decide +kernel), List.mem_of_getElem? (i := 425) (by decide +kernel), List.mem_of_getElem? (i := 426) (by decide +kernel)⟩
theorem lw_p14 : lw_okq (⟨"VarietyCircuit", "isOpen", "(I)Z"⟩, 12) := ⟨⟨by decide +kernel, by decide +kernel⟩, List.mem_of_getElem? (i := 17) (by decide +kernel), List.mem_of_getElem? (i := 429) (by decide +kernel), List.mem_of_getElem? (i := 430) (by decide +kernel)⟩
theorem lw_p15 : lw_okq (⟨"VarietyCircuit$Contract", "tells", "(II)Z"⟩, 5) := ⟨⟨by decide +kernel, by decide +kernel⟩, List.mem_of_getElem? (i := 376) (by decide +kernel), List.mem_of_getElem? (i := 452) (by decide +kernel), List.mem_of_getElem? (i := 453) (by decide +kernel)⟩
def lw_privs_1 : List (MethodName × Nat) := [(⟨"VarietyCircuit", "putBytes", "(I)V"⟩, 12), (⟨"VarietyCircuit", "turnAt", "(I)LVarietyCircuit$Turn;"⟩, 12), (⟨"VarietyCircuit$ContractReader", "step", "()V"⟩, 5), (⟨"VarietyCircuit$ContractReader", "isBlank", "(I)Z"⟩, 5), (⟨"VarietyCircuit$ContractReader", "byteAt", "(I)I"⟩, 5), (⟨"VarietyCircuit$ContractReader", "isLetter", "(I)Z"⟩, 5), (⟨"VarietyCircuit$ContractReader", "isDigit", "(I)Z"⟩, 5), (⟨"VarietyCircuit$ContractReader", "readStatement", "()Z"⟩, 5), (⟨"VarietyCircuit$ContractReader", "readOpening", "()I"⟩, 5), (⟨"VarietyCircuit$ContractReader", "holds", "(Ljava/lang/String;)Z"⟩, 5), (⟨"VarietyCircuit$ContractReader", "stepTo", "(Ljava/lang/String;)Z"⟩, 5), (⟨"VarietyCircuit$ContractReader", "stepToNumber", "()I"⟩, 5), (⟨"VarietyCircuit", "hallAt", "(I)LVarietyCircuit$Hall;"⟩, 12), (⟨"VarietyCircuit", "barTo", "(LVarietyCircuit$Turn;LVarietyCircuit$Hall;I)I"⟩, 12), (⟨"VarietyCircuit", "isOpen", "(I)Z"⟩, 12), (⟨"VarietyCircuit$Contract", "tells", "(II)Z"⟩, 5)]
theorem lw_r1 : ∀ q ∈ lw_privs_1, lw_okq q := List.forall_mem_cons.mpr ⟨lw_p0, List.forall_mem_cons.mpr ⟨lw_p1, List.forall_mem_cons.mpr ⟨lw_p2, List.forall_mem_cons.mpr ⟨lw_p3, List.forall_mem_cons.mpr ⟨lw_p4, List.forall_mem_cons.mpr ⟨lw_p5, List.forall_mem_cons.mpr ⟨lw_p6, List.forall_mem_cons.mpr ⟨lw_p7, List.forall_mem_cons.mpr ⟨lw_p8, List.forall_mem_cons.mpr ⟨lw_p9, List.forall_mem_cons.mpr ⟨lw_p10, List.forall_mem_cons.mpr ⟨lw_p11, List.forall_mem_cons.mpr ⟨lw_p12, List.forall_mem_cons.mpr ⟨lw_p13, List.forall_mem_cons.mpr ⟨lw_p14, List.forall_mem_cons.mpr ⟨lw_p15, fun _ h => absurd h List.not_mem_nil⟩⟩⟩⟩⟩⟩⟩⟩⟩⟩⟩⟩⟩⟩⟩⟩
theorem lw_p16 : lw_okq (⟨"VarietyCircuit", "isBarredByOtherWeeks", "(LVarietyCircuit$Turn;LVarietyCircuit$Hall;I)Z"⟩, 12) := ⟨⟨by decide +kernel, by decide +kernel⟩, List.mem_of_getElem? (i := 17) (by decide +kernel), List.mem_of_getElem? (i := 464) (by decide +kernel), List.mem_of_getElem? (i := 465) (by decide +kernel)⟩
theorem lw_p17 : lw_okq (⟨"VarietyCircuit", "barOnBill", "(LVarietyCircuit$Turn;LVarietyCircuit$Hall;ILVarietyCircuit$Contract;)I"⟩, 12) := ⟨⟨by decide +kernel, by decide +kernel⟩, List.mem_of_getElem? (i := 17) (by decide +kernel), List.mem_of_getElem? (i := 468) (by decide +kernel), List.mem_of_getElem? (i := 469) (by decide +kernel)⟩
theorem lw_p18 : lw_okq (⟨"VarietyCircuit", "gather", "(LVarietyCircuit$Hall;I)V"⟩, 12) := ⟨⟨by decide +kernel, by decide +kernel⟩, List.mem_of_getElem? (i := 17) (by decide +kernel), List.mem_of_getElem? (i := 472) (by decide +kernel), List.mem_of_getElem? (i := 473) (by decide +kernel)⟩
theorem lw_p19 : lw_okq (⟨"VarietyCircuit", "putOn", "(LVarietyCircuit$Turn;LVarietyCircuit$Hall;I)V"⟩, 12) := ⟨⟨by decide +kernel, by decide +kernel⟩, List.mem_of_getElem? (i := 17) (by decide +kernel), List.mem_of_getElem? (i := 511) (by decide +kernel), List.mem_of_getElem? (i := 512) (by decide +kernel)⟩
theorem lw_p20 : lw_okq (⟨"VarietyCircuit", "takeOff", "(LVarietyCircuit$Turn;I)V"⟩, 12) := ⟨⟨by decide +kernel, by decide +kernel⟩, List.mem_of_getElem? (i := 17) (by decide +kernel), List.mem_of_getElem? (i := 523) (by decide +kernel), List.mem_of_getElem? (i := 524) (by decide +kernel)⟩
theorem lw_p21 : lw_okq (⟨"VarietyCircuit", "layBest", "(II)V"⟩, 12) := ⟨⟨by decide +kernel, by decide +kernel⟩, List.mem_of_getElem? (i := 17) (by decide +kernel), List.mem_of_getElem? (i := 560) (by decide +kernel), List.mem_of_getElem? (i := 561) (by decide +kernel)⟩
theorem lw_p22 : lw_okq (⟨"VarietyCircuit$BestOrder", "findWhoMayStand", "(LVarietyCircuit$Bill;II)V"⟩, 7) := ⟨⟨by decide +kernel, by decide +kernel⟩, List.mem_of_getElem? (i := 46) (by decide +kernel), List.mem_of_getElem? (i := 569) (by decide +kernel), List.mem_of_getElem? (i := 570) (by decide +kernel)⟩
theorem lw_p23 : lw_okq (⟨"VarietyCircuit$BestOrder", "findLeast", "()V"⟩, 7) := ⟨⟨by decide +kernel, by decide +kernel⟩, List.mem_of_getElem? (i := 46) (by decide +kernel), List.mem_of_getElem? (i := 577) (by decide +kernel), List.mem_of_getElem? (i := 578) (by decide +kernel)⟩
theorem lw_p24 : lw_okq (⟨"VarietyCircuit$BestOrder", "leastFrom", "(III)I"⟩, 7) := ⟨⟨by decide +kernel, by decide +kernel⟩, List.mem_of_getElem? (i := 46) (by decide +kernel), List.mem_of_getElem? (i := 590) (by decide +kernel), List.mem_of_getElem? (i := 591) (by decide +kernel)⟩
theorem lw_p25 : lw_okq (⟨"VarietyCircuit$BestOrder", "sumThrough", "(III)I"⟩, 7) := ⟨⟨by decide +kernel, by decide +kernel⟩, List.mem_of_getElem? (i := 46) (by decide +kernel), List.mem_of_getElem? (i := 594) (by decide +kernel), List.mem_of_getElem? (i := 595) (by decide +kernel)⟩
theorem lw_p26 : lw_okq (⟨"VarietyCircuit$BestOrder", "waitBetween", "(II)I"⟩, 7) := ⟨⟨by decide +kernel, by decide +kernel⟩, List.mem_of_getElem? (i := 46) (by decide +kernel), List.mem_of_getElem? (i := 598) (by decide +kernel), List.mem_of_getElem? (i := 599) (by decide +kernel)⟩
theorem lw_p27 : lw_okq (⟨"VarietyCircuit$BestOrder", "layLeast", "(LVarietyCircuit$Bill;)V"⟩, 7) := ⟨⟨by decide +kernel, by decide +kernel⟩, List.mem_of_getElem? (i := 46) (by decide +kernel), List.mem_of_getElem? (i := 602) (by decide +kernel), List.mem_of_getElem? (i := 603) (by decide +kernel)⟩
theorem lw_p28 : lw_okq (⟨"VarietyCircuit$BestOrder", "firstOfLeast", "()I"⟩, 7) := ⟨⟨by decide +kernel, by decide +kernel⟩, List.mem_of_getElem? (i := 46) (by decide +kernel), List.mem_of_getElem? (i := 606) (by decide +kernel), List.mem_of_getElem? (i := 607) (by decide +kernel)⟩
theorem lw_p29 : lw_okq (⟨"VarietyCircuit$BestOrder", "nextOfLeast", "(III)I"⟩, 7) := ⟨⟨by decide +kernel, by decide +kernel⟩, List.mem_of_getElem? (i := 46) (by decide +kernel), List.mem_of_getElem? (i := 611) (by decide +kernel), List.mem_of_getElem? (i := 612) (by decide +kernel)⟩
theorem lw_p30 : lw_okq (⟨"VarietyCircuit", "greatestDraw", "(LVarietyCircuit$Hall;ILVarietyCircuit$Turn;)LVarietyCircuit$Turn;"⟩, 12) := ⟨⟨by decide +kernel, by decide +kernel⟩, List.mem_of_getElem? (i := 17) (by decide +kernel), List.mem_of_getElem? (i := 627) (by decide +kernel), List.mem_of_getElem? (i := 628) (by decide +kernel)⟩
theorem lw_p31 : lw_okq (⟨"VarietyCircuitModel", "four", "(I)V"⟩, 36) := ⟨⟨by decide +kernel, by decide +kernel⟩, List.mem_of_getElem? (i := 648) (by decide +kernel), List.mem_of_getElem? (i := 782) (by decide +kernel), List.mem_of_getElem? (i := 783) (by decide +kernel)⟩
def lw_privs_2 : List (MethodName × Nat) := [(⟨"VarietyCircuit", "isBarredByOtherWeeks", "(LVarietyCircuit$Turn;LVarietyCircuit$Hall;I)Z"⟩, 12), (⟨"VarietyCircuit", "barOnBill", "(LVarietyCircuit$Turn;LVarietyCircuit$Hall;ILVarietyCircuit$Contract;)I"⟩, 12), (⟨"VarietyCircuit", "gather", "(LVarietyCircuit$Hall;I)V"⟩, 12), (⟨"VarietyCircuit", "putOn", "(LVarietyCircuit$Turn;LVarietyCircuit$Hall;I)V"⟩, 12), (⟨"VarietyCircuit", "takeOff", "(LVarietyCircuit$Turn;I)V"⟩, 12), (⟨"VarietyCircuit", "layBest", "(II)V"⟩, 12), (⟨"VarietyCircuit$BestOrder", "findWhoMayStand", "(LVarietyCircuit$Bill;II)V"⟩, 7), (⟨"VarietyCircuit$BestOrder", "findLeast", "()V"⟩, 7), (⟨"VarietyCircuit$BestOrder", "leastFrom", "(III)I"⟩, 7), (⟨"VarietyCircuit$BestOrder", "sumThrough", "(III)I"⟩, 7), (⟨"VarietyCircuit$BestOrder", "waitBetween", "(II)I"⟩, 7), (⟨"VarietyCircuit$BestOrder", "layLeast", "(LVarietyCircuit$Bill;)V"⟩, 7), (⟨"VarietyCircuit$BestOrder", "firstOfLeast", "()I"⟩, 7), (⟨"VarietyCircuit$BestOrder", "nextOfLeast", "(III)I"⟩, 7), (⟨"VarietyCircuit", "greatestDraw", "(LVarietyCircuit$Hall;ILVarietyCircuit$Turn;)LVarietyCircuit$Turn;"⟩, 12), (⟨"VarietyCircuitModel", "four", "(I)V"⟩, 36)]
theorem lw_r2 : ∀ q ∈ lw_privs_2, lw_okq q := List.forall_mem_cons.mpr ⟨lw_p16, List.forall_mem_cons.mpr ⟨lw_p17, List.forall_mem_cons.mpr ⟨lw_p18, List.forall_mem_cons.mpr ⟨lw_p19, List.forall_mem_cons.mpr ⟨lw_p20, List.forall_mem_cons.mpr ⟨lw_p21, List.forall_mem_cons.mpr ⟨lw_p22, List.forall_mem_cons.mpr ⟨lw_p23, List.forall_mem_cons.mpr ⟨lw_p24, List.forall_mem_cons.mpr ⟨lw_p25, List.forall_mem_cons.mpr ⟨lw_p26, List.forall_mem_cons.mpr ⟨lw_p27, List.forall_mem_cons.mpr ⟨lw_p28, List.forall_mem_cons.mpr ⟨lw_p29, List.forall_mem_cons.mpr ⟨lw_p30, List.forall_mem_cons.mpr ⟨lw_p31, fun _ h => absurd h List.not_mem_nil⟩⟩⟩⟩⟩⟩⟩⟩⟩⟩⟩⟩⟩⟩⟩⟩
theorem lw_p32 : lw_okq (⟨"VarietyCircuitModel", "isTurn", "(I)Z"⟩, 36) := ⟨⟨by decide +kernel, by decide +kernel⟩, List.mem_of_getElem? (i := 648) (by decide +kernel), List.mem_of_getElem? (i := 790) (by decide +kernel), List.mem_of_getElem? (i := 791) (by decide +kernel)⟩
theorem lw_p33 : lw_okq (⟨"VarietyCircuitModel", "blanks", "()V"⟩, 36) := ⟨⟨by decide +kernel, by decide +kernel⟩, List.mem_of_getElem? (i := 648) (by decide +kernel), List.mem_of_getElem? (i := 797) (by decide +kernel), List.mem_of_getElem? (i := 798) (by decide +kernel)⟩
theorem lw_p34 : lw_okq (⟨"VarietyCircuitModel", "statement", "(I)Z"⟩, 36) := ⟨⟨by decide +kernel, by decide +kernel⟩, List.mem_of_getElem? (i := 648) (by decide +kernel), List.mem_of_getElem? (i := 801) (by decide +kernel), List.mem_of_getElem? (i := 802) (by decide +kernel)⟩
theorem lw_p35 : lw_okq (⟨"VarietyCircuitModel", "takes", "(J)Z"⟩, 36) := ⟨⟨by decide +kernel, by decide +kernel⟩, List.mem_of_getElem? (i := 648) (by decide +kernel), List.mem_of_getElem? (i := 806) (by decide +kernel), List.mem_of_getElem? (i := 807) (by decide +kernel)⟩
theorem lw_p36 : lw_okq (⟨"VarietyCircuitModel", "word", "()J"⟩, 36) := ⟨⟨by decide +kernel, by decide +kernel⟩, List.mem_of_getElem? (i := 648) (by decide +kernel), List.mem_of_getElem? (i := 810) (by decide +kernel), List.mem_of_getElem? (i := 811) (by decide +kernel)⟩
theorem lw_p37 : lw_okq (⟨"VarietyCircuitModel", "takesNumber", "()Z"⟩, 36) := ⟨⟨by decide +kernel, by decide +kernel⟩, List.mem_of_getElem? (i := 648) (by decide +kernel), List.mem_of_getElem? (i := 814) (by decide +kernel), List.mem_of_getElem? (i := 815) (by decide +kernel)⟩
theorem lw_p38 : lw_okq (⟨"VarietyCircuitModel", "inForce", "(III)I"⟩, 36) := ⟨⟨by decide +kernel, by decide +kernel⟩, List.mem_of_getElem? (i := 648) (by decide +kernel), List.mem_of_getElem? (i := 834) (by decide +kernel), List.mem_of_getElem? (i := 835) (by decide +kernel)⟩
theorem lw_p39 : lw_okq (⟨"VarietyCircuitModel", "isHall", "(I)Z"⟩, 36) := ⟨⟨by decide +kernel, by decide +kernel⟩, List.mem_of_getElem? (i := 648) (by decide +kernel), List.mem_of_getElem? (i := 842) (by decide +kernel), List.mem_of_getElem? (i := 843) (by decide +kernel)⟩
theorem lw_p40 : lw_okq (⟨"VarietyCircuitModel", "hallOf", "(II)I"⟩, 36) := ⟨⟨by decide +kernel, by decide +kernel⟩, List.mem_of_getElem? (i := 648) (by decide +kernel), List.mem_of_getElem? (i := 846) (by decide +kernel), List.mem_of_getElem? (i := 847) (by decide +kernel)⟩
theorem lw_p41 : lw_okq (⟨"VarietyCircuitModel", "isFarFrom", "(III)Z"⟩, 36) := ⟨⟨by decide +kernel, by decide +kernel⟩, List.mem_of_getElem? (i := 648) (by decide +kernel), List.mem_of_getElem? (i := 850) (by decide +kernel), List.mem_of_getElem? (i := 851) (by decide +kernel)⟩
theorem lw_p42 : lw_okq (⟨"VarietyCircuitModel", "tells", "(III)Z"⟩, 36) := ⟨⟨by decide +kernel, by decide +kernel⟩, List.mem_of_getElem? (i := 648) (by decide +kernel), List.mem_of_getElem? (i := 855) (by decide +kernel), List.mem_of_getElem? (i := 856) (by decide +kernel)⟩
theorem lw_p43 : lw_okq (⟨"VarietyCircuitModel", "bars", "(IIII)Z"⟩, 36) := ⟨⟨by decide +kernel, by decide +kernel⟩, List.mem_of_getElem? (i := 648) (by decide +kernel), List.mem_of_getElem? (i := 859) (by decide +kernel), List.mem_of_getElem? (i := 860) (by decide +kernel)⟩
theorem lw_p44 : lw_okq (⟨"VarietyCircuitModel", "many", "(II)I"⟩, 36) := ⟨⟨by decide +kernel, by decide +kernel⟩, List.mem_of_getElem? (i := 648) (by decide +kernel), List.mem_of_getElem? (i := 868) (by decide +kernel), List.mem_of_getElem? (i := 869) (by decide +kernel)⟩
theorem lw_p45 : lw_okq (⟨"VarietyCircuitModel", "isBooked", "(II)Z"⟩, 36) := ⟨⟨by decide +kernel, by decide +kernel⟩, List.mem_of_getElem? (i := 648) (by decide +kernel), List.mem_of_getElem? (i := 879) (by decide +kernel), List.mem_of_getElem? (i := 880) (by decide +kernel)⟩
theorem lw_p46 : lw_okq (⟨"VarietyCircuitModel", "lastOf", "(II)I"⟩, 36) := ⟨⟨by decide +kernel, by decide +kernel⟩, List.mem_of_getElem? (i := 648) (by decide +kernel), List.mem_of_getElem? (i := 891) (by decide +kernel), List.mem_of_getElem? (i := 892) (by decide +kernel)⟩
theorem lw_p47 : lw_okq (⟨"VarietyCircuitModel", "lays", "(II)Z"⟩, 36) := ⟨⟨by decide +kernel, by decide +kernel⟩, List.mem_of_getElem? (i := 648) (by decide +kernel), List.mem_of_getElem? (i := 900) (by decide +kernel), List.mem_of_getElem? (i := 901) (by decide +kernel)⟩
def lw_privs_3 : List (MethodName × Nat) := [(⟨"VarietyCircuitModel", "isTurn", "(I)Z"⟩, 36), (⟨"VarietyCircuitModel", "blanks", "()V"⟩, 36), (⟨"VarietyCircuitModel", "statement", "(I)Z"⟩, 36), (⟨"VarietyCircuitModel", "takes", "(J)Z"⟩, 36), (⟨"VarietyCircuitModel", "word", "()J"⟩, 36), (⟨"VarietyCircuitModel", "takesNumber", "()Z"⟩, 36), (⟨"VarietyCircuitModel", "inForce", "(III)I"⟩, 36), (⟨"VarietyCircuitModel", "isHall", "(I)Z"⟩, 36), (⟨"VarietyCircuitModel", "hallOf", "(II)I"⟩, 36), (⟨"VarietyCircuitModel", "isFarFrom", "(III)Z"⟩, 36), (⟨"VarietyCircuitModel", "tells", "(III)Z"⟩, 36), (⟨"VarietyCircuitModel", "bars", "(IIII)Z"⟩, 36), (⟨"VarietyCircuitModel", "many", "(II)I"⟩, 36), (⟨"VarietyCircuitModel", "isBooked", "(II)Z"⟩, 36), (⟨"VarietyCircuitModel", "lastOf", "(II)I"⟩, 36), (⟨"VarietyCircuitModel", "lays", "(II)Z"⟩, 36)]
theorem lw_r3 : ∀ q ∈ lw_privs_3, lw_okq q := List.forall_mem_cons.mpr ⟨lw_p32, List.forall_mem_cons.mpr ⟨lw_p33, List.forall_mem_cons.mpr ⟨lw_p34, List.forall_mem_cons.mpr ⟨lw_p35, List.forall_mem_cons.mpr ⟨lw_p36, List.forall_mem_cons.mpr ⟨lw_p37, List.forall_mem_cons.mpr ⟨lw_p38, List.forall_mem_cons.mpr ⟨lw_p39, List.forall_mem_cons.mpr ⟨lw_p40, List.forall_mem_cons.mpr ⟨lw_p41, List.forall_mem_cons.mpr ⟨lw_p42, List.forall_mem_cons.mpr ⟨lw_p43, List.forall_mem_cons.mpr ⟨lw_p44, List.forall_mem_cons.mpr ⟨lw_p45, List.forall_mem_cons.mpr ⟨lw_p46, List.forall_mem_cons.mpr ⟨lw_p47, fun _ h => absurd h List.not_mem_nil⟩⟩⟩⟩⟩⟩⟩⟩⟩⟩⟩⟩⟩⟩⟩⟩
theorem lw_p48 : lw_okq (⟨"VarietyCircuitModel", "mayLie", "(III)Z"⟩, 36) := ⟨⟨by decide +kernel, by decide +kernel⟩, List.mem_of_getElem? (i := 648) (by decide +kernel), List.mem_of_getElem? (i := 908) (by decide +kernel), List.mem_of_getElem? (i := 909) (by decide +kernel)⟩
theorem lw_p49 : lw_okq (⟨"VarietyCircuitModel", "wait", "(II)I"⟩, 36) := ⟨⟨by decide +kernel, by decide +kernel⟩, List.mem_of_getElem? (i := 648) (by decide +kernel), List.mem_of_getElem? (i := 912) (by decide +kernel), List.mem_of_getElem? (i := 913) (by decide +kernel)⟩
theorem lw_p50 : lw_okq (⟨"VarietyCircuitModel", "bestFor", "(III)I"⟩, 36) := ⟨⟨by decide +kernel, by decide +kernel⟩, List.mem_of_getElem? (i := 648) (by decide +kernel), List.mem_of_getElem? (i := 924) (by decide +kernel), List.mem_of_getElem? (i := 925) (by decide +kernel)⟩
def lw_privs_4 : List (MethodName × Nat) := [(⟨"VarietyCircuitModel", "mayLie", "(III)Z"⟩, 36), (⟨"VarietyCircuitModel", "wait", "(II)I"⟩, 36), (⟨"VarietyCircuitModel", "bestFor", "(III)I"⟩, 36)]
theorem lw_r4 : ∀ q ∈ lw_privs_4, lw_okq q := List.forall_mem_cons.mpr ⟨lw_p48, List.forall_mem_cons.mpr ⟨lw_p49, List.forall_mem_cons.mpr ⟨lw_p50, fun _ h => absurd h List.not_mem_nil⟩⟩⟩
def lw_privs : List (MethodName × Nat) := lw_privs_1 ++ (lw_privs_2 ++ (lw_privs_3 ++ (lw_privs_4)))
def lw_tbl : List Cond := k2_sels lw_privs ++ tables_1
theorem lw_privs_ok : ∀ q ∈ lw_privs, lw_okq q := by
  show ∀ q ∈ lw_privs_1 ++ (lw_privs_2 ++ (lw_privs_3 ++ (lw_privs_4))), lw_okq q
  exact List.forall_mem_append.mpr ⟨lw_r1, List.forall_mem_append.mpr ⟨lw_r2, List.forall_mem_append.mpr ⟨lw_r3, lw_r4⟩⟩⟩
def RX0 : String := "VarietyCircuit$BestOrder"
def TX0 : u_T := fun k => match k with
  | 0 => ("VarietyCircuit$BestOrder", "isFront", "[Z", true)
  | 1 => ("VarietyCircuit$BestOrder", "isFull", "[Z", true)
  | 2 => ("VarietyCircuit$BestOrder", "mayStand", "[I", true)
  | 3 => ("VarietyCircuit$BestOrder", "leastBehind", "[I", true)
  | 4 => ("VarietyCircuit$BestOrder", "laid", "[I", true)
  | 5 => ("VarietyCircuit$BestOrder", "size", "I", false)
  | _ => ("VarietyCircuit$BestOrder", "sum", "I", false)
def tyX0 : Nat → FieldType := fun k => match k with
  | 0 => .array .boolean
  | 1 => .array .boolean
  | 2 => .array .int
  | 3 => .array .int
  | 4 => .array .int
  | 5 => .int
  | _ => .int
abbrev wsX00 : List Cond := u_ws RX0 TX0 7
theorem nmX0 : ∀ a, a < 7 → ∀ b, b < 7 → a ≠ b → (TX0 a).2.1 ≠ (TX0 b).2.1 := by decide +kernel
theorem tyX0_ok : ∀ k, k < 7 → parseFieldDescriptor (TX0 k).2.2.1 = some (tyX0 k) := by decide +kernel
abbrev cX0_init : ByteArray := prog_2_method_1_code
def yX0_init : MethodName := ⟨RX0, "<init>", "()V"⟩
abbrev cX0_numberAt : ByteArray := prog_2_method_2_code
def yX0_numberAt : MethodName := ⟨RX0, "numberAt", "(I)I"⟩
abbrev cX0_lay : ByteArray := prog_2_method_3_code
def yX0_lay : MethodName := ⟨RX0, "lay", "(LVarietyCircuit$Bill;II)V"⟩
abbrev cX0_findWhoMayStand : ByteArray := prog_2_method_4_code
def yX0_findWhoMayStand : MethodName := ⟨RX0, "findWhoMayStand", "(LVarietyCircuit$Bill;II)V"⟩
abbrev cX0_findLeast : ByteArray := prog_2_method_5_code
def yX0_findLeast : MethodName := ⟨RX0, "findLeast", "()V"⟩
abbrev cX0_leastFrom : ByteArray := prog_2_method_6_code
def yX0_leastFrom : MethodName := ⟨RX0, "leastFrom", "(III)I"⟩
abbrev cX0_sumThrough : ByteArray := prog_2_method_7_code
def yX0_sumThrough : MethodName := ⟨RX0, "sumThrough", "(III)I"⟩
abbrev cX0_waitBetween : ByteArray := prog_2_method_8_code
def yX0_waitBetween : MethodName := ⟨RX0, "waitBetween", "(II)I"⟩
abbrev cX0_layLeast : ByteArray := prog_2_method_9_code
def yX0_layLeast : MethodName := ⟨RX0, "layLeast", "(LVarietyCircuit$Bill;)V"⟩
abbrev cX0_firstOfLeast : ByteArray := prog_2_method_10_code
def yX0_firstOfLeast : MethodName := ⟨RX0, "firstOfLeast", "()I"⟩
abbrev cX0_nextOfLeast : ByteArray := prog_2_method_11_code
def yX0_nextOfLeast : MethodName := ⟨RX0, "nextOfLeast", "(III)I"⟩
abbrev cX0_has : ByteArray := prog_2_method_12_code
def yX0_has : MethodName := ⟨RX0, "has", "(II)Z"⟩
def RX1 : String := "VarietyCircuit$Bill"
def TX1 : u_T := fun k => match k with
  | 0 => ("VarietyCircuit$Bill", "members", "[LVarietyCircuit$Turn;", true)
  | _ => ("VarietyCircuit$Bill", "size", "I", false)
def tyX1 : Nat → FieldType := fun k => match k with
  | 0 => .array (.object "VarietyCircuit$Turn")
  | _ => .int
abbrev wsX10 : List Cond := u_ws RX1 TX1 2
theorem nmX1 : ∀ a, a < 2 → ∀ b, b < 2 → a ≠ b → (TX1 a).2.1 ≠ (TX1 b).2.1 := by decide +kernel
theorem tyX1_ok : ∀ k, k < 2 → parseFieldDescriptor (TX1 k).2.2.1 = some (tyX1 k) := by decide +kernel
abbrev cX1_init : ByteArray := prog_3_method_1_code
def yX1_init : MethodName := ⟨RX1, "<init>", "()V"⟩
abbrev cX1_put : ByteArray := prog_3_method_2_code
def yX1_put : MethodName := ⟨RX1, "put", "(LVarietyCircuit$Turn;)V"⟩
abbrev cX1_memberAt : ByteArray := prog_3_method_3_code
def yX1_memberAt : MethodName := ⟨RX1, "memberAt", "(I)LVarietyCircuit$Turn;"⟩
abbrev cX1_numberAt : ByteArray := prog_3_method_4_code
def yX1_numberAt : MethodName := ⟨RX1, "numberAt", "(I)I"⟩
abbrev cX1_minutesOfAll : ByteArray := prog_3_method_5_code
def yX1_minutesOfAll : MethodName := ⟨RX1, "minutesOfAll", "()I"⟩
abbrev cX1_payOfAll : ByteArray := prog_3_method_6_code
def yX1_payOfAll : MethodName := ⟨RX1, "payOfAll", "(II)I"⟩
abbrev cX1_topCount : ByteArray := prog_3_method_7_code
def yX1_topCount : MethodName := ⟨RX1, "topCount", "()I"⟩
abbrev cX1_drawOfTops : ByteArray := prog_3_method_8_code
def yX1_drawOfTops : MethodName := ⟨RX1, "drawOfTops", "()I"⟩
abbrev cX1_hasLike : ByteArray := prog_3_method_9_code
def yX1_hasLike : MethodName := ⟨RX1, "hasLike", "(I)Z"⟩
abbrev cX1_isApartFrom : ByteArray := prog_3_method_10_code
def yX1_isApartFrom : MethodName := ⟨RX1, "isApartFrom", "(LVarietyCircuit$Turn;LVarietyCircuit$Contract;II)Z"⟩
def RX2 : String := "VarietyCircuit$Contract"
def TX2 : u_T := fun k => match k with
  | 0 => ("VarietyCircuit$Contract", "number", "I", true)
  | 1 => ("VarietyCircuit$Contract", "from", "I", true)
  | 2 => ("VarietyCircuit$Contract", "signed", "I", true)
  | 3 => ("VarietyCircuit$Contract", "earlier", "LVarietyCircuit$Contract;", true)
  | _ => ("VarietyCircuit$Contract", "latest", "LVarietyCircuit$Statement;", true)
def tyX2 : Nat → FieldType := fun k => match k with
  | 0 => .int
  | 1 => .int
  | 2 => .int
  | 3 => .object "VarietyCircuit$Contract"
  | _ => .object "VarietyCircuit$Statement"
abbrev wsX20 : List Cond := u_ws RX2 TX2 5
theorem nmX2 : ∀ a, a < 5 → ∀ b, b < 5 → a ≠ b → (TX2 a).2.1 ≠ (TX2 b).2.1 := by decide +kernel
theorem tyX2_ok : ∀ k, k < 5 → parseFieldDescriptor (TX2 k).2.2.1 = some (tyX2 k) := by decide +kernel
abbrev cX2_init : ByteArray := prog_4_method_1_code
def yX2_init : MethodName := ⟨RX2, "<init>", "(IIILVarietyCircuit$Statement;LVarietyCircuit$Contract;)V"⟩
abbrev cX2_lastNumber : ByteArray := prog_4_method_2_code
def yX2_lastNumber : MethodName := ⟨RX2, "lastNumber", "(I)I"⟩
abbrev cX2_isNeverIn : ByteArray := prog_4_method_3_code
def yX2_isNeverIn : MethodName := ⟨RX2, "isNeverIn", "(LVarietyCircuit$Hall;)Z"⟩
abbrev cX2_isApartFrom : ByteArray := prog_4_method_4_code
def yX2_isApartFrom : MethodName := ⟨RX2, "isApartFrom", "(LVarietyCircuit$Turn;)Z"⟩
abbrev cX2_hasBar : ByteArray := prog_4_method_5_code
def yX2_hasBar : MethodName := ⟨RX2, "hasBar", "(II)Z"⟩
abbrev cX2_tells : ByteArray := prog_4_method_6_code
def yX2_tells : MethodName := ⟨RX2, "tells", "(II)Z"⟩
def RX3 : String := "VarietyCircuit$ContractReader"
def TX3 : u_T := fun k => match k with
  | 0 => ("VarietyCircuit$ContractReader", "bytes", "[B", true)
  | 1 => ("VarietyCircuit$ContractReader", "length", "I", true)
  | 2 => ("VarietyCircuit$ContractReader", "end", "I", false)
  | 3 => ("VarietyCircuit$ContractReader", "start", "I", false)
  | _ => ("VarietyCircuit$ContractReader", "latest", "LVarietyCircuit$Statement;", false)
def tyX3 : Nat → FieldType := fun k => match k with
  | 0 => .array .byte
  | 1 => .int
  | 2 => .int
  | 3 => .int
  | _ => .object "VarietyCircuit$Statement"
abbrev wsX30 : List Cond := u_ws RX3 TX3 5
theorem nmX3 : ∀ a, a < 5 → ∀ b, b < 5 → a ≠ b → (TX3 a).2.1 ≠ (TX3 b).2.1 := by decide +kernel
theorem tyX3_ok : ∀ k, k < 5 → parseFieldDescriptor (TX3 k).2.2.1 = some (tyX3 k) := by decide +kernel
abbrev cX3_init : ByteArray := prog_5_method_1_code
def yX3_init : MethodName := ⟨RX3, "<init>", "([BI)V"⟩
abbrev cX3_readText : ByteArray := prog_5_method_2_code
def yX3_readText : MethodName := ⟨RX3, "readText", "()Z"⟩
abbrev cX3_readStatement : ByteArray := prog_5_method_3_code
def yX3_readStatement : MethodName := ⟨RX3, "readStatement", "()Z"⟩
abbrev cX3_readOpening : ByteArray := prog_5_method_4_code
def yX3_readOpening : MethodName := ⟨RX3, "readOpening", "()I"⟩
abbrev cX3_stepTo : ByteArray := prog_5_method_5_code
def yX3_stepTo : MethodName := ⟨RX3, "stepTo", "(Ljava/lang/String;)Z"⟩
abbrev cX3_stepToNumber : ByteArray := prog_5_method_6_code
def yX3_stepToNumber : MethodName := ⟨RX3, "stepToNumber", "()I"⟩
abbrev cX3_step : ByteArray := prog_5_method_7_code
def yX3_step : MethodName := ⟨RX3, "step", "()V"⟩
abbrev cX3_holds : ByteArray := prog_5_method_8_code
def yX3_holds : MethodName := ⟨RX3, "holds", "(Ljava/lang/String;)Z"⟩
abbrev cX3_byteAt : ByteArray := prog_5_method_9_code
def yX3_byteAt : MethodName := ⟨RX3, "byteAt", "(I)I"⟩
abbrev cX3_isBlank : ByteArray := prog_5_method_10_code
def yX3_isBlank : MethodName := ⟨RX3, "isBlank", "(I)Z"⟩
abbrev cX3_isLetter : ByteArray := prog_5_method_11_code
def yX3_isLetter : MethodName := ⟨RX3, "isLetter", "(I)Z"⟩
abbrev cX3_isDigit : ByteArray := prog_5_method_12_code
def yX3_isDigit : MethodName := ⟨RX3, "isDigit", "(I)Z"⟩
def RX4 : String := "VarietyCircuit$Hall"
def TX4 : u_T := fun k => match k with
  | 0 => ("VarietyCircuit$Hall", "number", "I", true)
  | 1 => ("VarietyCircuit$Hall", "mile", "I", true)
  | 2 => ("VarietyCircuit$Hall", "seats", "I", true)
  | _ => ("VarietyCircuit$Hall", "minutes", "I", true)
def tyX4 : Nat → FieldType := fun k => match k with
  | 0 => .int
  | 1 => .int
  | 2 => .int
  | _ => .int
abbrev wsX40 : List Cond := u_ws RX4 TX4 4
theorem nmX4 : ∀ a, a < 4 → ∀ b, b < 4 → a ≠ b → (TX4 a).2.1 ≠ (TX4 b).2.1 := by decide +kernel
theorem tyX4_ok : ∀ k, k < 4 → parseFieldDescriptor (TX4 k).2.2.1 = some (tyX4 k) := by decide +kernel
abbrev cX4_init : ByteArray := prog_6_method_1_code
def yX4_init : MethodName := ⟨RX4, "<init>", "(IIII)V"⟩
abbrev cX4_milesTo : ByteArray := prog_6_method_2_code
def yX4_milesTo : MethodName := ⟨RX4, "milesTo", "(LVarietyCircuit$Hall;)I"⟩
def RX5 : String := "VarietyCircuit$Statement"
def TX5 : u_T := fun k => match k with
  | 0 => ("VarietyCircuit$Statement", "kind", "I", true)
  | 1 => ("VarietyCircuit$Statement", "number", "I", true)
  | 2 => ("VarietyCircuit$Statement", "weeksAway", "I", true)
  | _ => ("VarietyCircuit$Statement", "earlier", "LVarietyCircuit$Statement;", true)
def tyX5 : Nat → FieldType := fun k => match k with
  | 0 => .int
  | 1 => .int
  | 2 => .int
  | _ => .object "VarietyCircuit$Statement"
abbrev wsX50 : List Cond := u_ws RX5 TX5 4
theorem nmX5 : ∀ a, a < 4 → ∀ b, b < 4 → a ≠ b → (TX5 a).2.1 ≠ (TX5 b).2.1 := by decide +kernel
theorem tyX5_ok : ∀ k, k < 4 → parseFieldDescriptor (TX5 k).2.2.1 = some (tyX5 k) := by decide +kernel
abbrev cX5_init : ByteArray := prog_7_method_1_code
def yX5_init : MethodName := ⟨RX5, "<init>", "(IIILVarietyCircuit$Statement;)V"⟩
def RX6 : String := "VarietyCircuit$Turn"
def TX6 : u_T := fun k => match k with
  | 0 => ("VarietyCircuit$Turn", "number", "I", true)
  | 1 => ("VarietyCircuit$Turn", "minutes", "I", true)
  | 2 => ("VarietyCircuit$Turn", "kind", "I", true)
  | 3 => ("VarietyCircuit$Turn", "full", "Z", true)
  | 4 => ("VarietyCircuit$Turn", "like", "I", true)
  | 5 => ("VarietyCircuit$Turn", "draw", "I", true)
  | 6 => ("VarietyCircuit$Turn", "hallByWeek", "[LVarietyCircuit$Hall;", true)
  | 7 => ("VarietyCircuit$Turn", "latest", "LVarietyCircuit$Contract;", false)
  | 8 => ("VarietyCircuit$Turn", "bookings", "I", false)
  | _ => ("VarietyCircuit$Turn", "failures", "I", false)
def tyX6 : Nat → FieldType := fun k => match k with
  | 0 => .int
  | 1 => .int
  | 2 => .int
  | 3 => .boolean
  | 4 => .int
  | 5 => .int
  | 6 => .array (.object "VarietyCircuit$Hall")
  | 7 => .object "VarietyCircuit$Contract"
  | 8 => .int
  | _ => .int
abbrev wsX60 : List Cond := u_ws RX6 TX6 10
theorem nmX6 : ∀ a, a < 10 → ∀ b, b < 10 → a ≠ b → (TX6 a).2.1 ≠ (TX6 b).2.1 := by decide +kernel
theorem tyX6_ok : ∀ k, k < 10 → parseFieldDescriptor (TX6 k).2.2.1 = some (tyX6 k) := by decide +kernel
abbrev cX6_init : ByteArray := prog_8_method_1_code
def yX6_init : MethodName := ⟨RX6, "<init>", "(IIIZII)V"⟩
abbrev cX6_hallIn : ByteArray := prog_8_method_2_code
def yX6_hallIn : MethodName := ⟨RX6, "hallIn", "(I)LVarietyCircuit$Hall;"⟩
abbrev cX6_setHallIn : ByteArray := prog_8_method_3_code
def yX6_setHallIn : MethodName := ⟨RX6, "setHallIn", "(ILVarietyCircuit$Hall;)V"⟩
abbrev cX6_isSoonIn : ByteArray := prog_8_method_4_code
def yX6_isSoonIn : MethodName := ⟨RX6, "isSoonIn", "(LVarietyCircuit$Hall;I)Z"⟩
abbrev cX6_contractIn : ByteArray := prog_8_method_5_code
def yX6_contractIn : MethodName := ⟨RX6, "contractIn", "(II)LVarietyCircuit$Contract;"⟩
def RX7 : String := "VarietyCircuit"
def TX7 : u_T := fun k => match k with
  | 0 => ("VarietyCircuit", "turns", "[LVarietyCircuit$Turn;", true)
  | 1 => ("VarietyCircuit", "halls", "[LVarietyCircuit$Hall;", true)
  | 2 => ("VarietyCircuit", "tape", "[B", true)
  | 3 => ("VarietyCircuit", "gathered", "LVarietyCircuit$Bill;", true)
  | 4 => ("VarietyCircuit", "best", "LVarietyCircuit$BestOrder;", true)
  | 5 => ("VarietyCircuit", "turnCount", "I", false)
  | 6 => ("VarietyCircuit", "hallCount", "I", false)
  | 7 => ("VarietyCircuit", "contractCount", "I", false)
  | 8 => ("VarietyCircuit", "bookingCount", "I", false)
  | 9 => ("VarietyCircuit", "tapeCount", "I", false)
  | 10 => ("VarietyCircuit", "now", "I", false)
  | _ => ("VarietyCircuit", "faultPlace", "I", false)
def tyX7 : Nat → FieldType := fun k => match k with
  | 0 => .array (.object "VarietyCircuit$Turn")
  | 1 => .array (.object "VarietyCircuit$Hall")
  | 2 => .array .byte
  | 3 => .object "VarietyCircuit$Bill"
  | 4 => .object "VarietyCircuit$BestOrder"
  | 5 => .int
  | 6 => .int
  | 7 => .int
  | 8 => .int
  | 9 => .int
  | 10 => .int
  | _ => .int
abbrev wsX70 : List Cond := u_ws RX7 TX7 12
theorem nmX7 : ∀ a, a < 12 → ∀ b, b < 12 → a ≠ b → (TX7 a).2.1 ≠ (TX7 b).2.1 := by decide +kernel
theorem tyX7_ok : ∀ k, k < 12 → parseFieldDescriptor (TX7 k).2.2.1 = some (tyX7 k) := by decide +kernel
abbrev cX7_init : ByteArray := prog_1_method_1_code
def yX7_init : MethodName := ⟨RX7, "<init>", "()V"⟩
abbrev cX7_weeks : ByteArray := prog_1_method_2_code
def yX7_weeks : MethodName := ⟨RX7, "weeks", "(I)I"⟩
abbrev cX7_turn : ByteArray := prog_1_method_3_code
def yX7_turn : MethodName := ⟨RX7, "turn", "(IIZII)I"⟩
abbrev cX7_hall : ByteArray := prog_1_method_4_code
def yX7_hall : MethodName := ⟨RX7, "hall", "(III)I"⟩
abbrev cX7_feed : ByteArray := prog_1_method_5_code
def yX7_feed : MethodName := ⟨RX7, "feed", "(IIIII)I"⟩
abbrev cX7_sign : ByteArray := prog_1_method_6_code
def yX7_sign : MethodName := ⟨RX7, "sign", "(III)I"⟩
abbrev cX7_fault : ByteArray := prog_1_method_7_code
def yX7_fault : MethodName := ⟨RX7, "fault", "()I"⟩
abbrev cX7_force : ByteArray := prog_1_method_8_code
def yX7_force : MethodName := ⟨RX7, "force", "(III)I"⟩
abbrev cX7_why : ByteArray := prog_1_method_9_code
def yX7_why : MethodName := ⟨RX7, "why", "(III)I"⟩
abbrev cX7_book : ByteArray := prog_1_method_10_code
def yX7_book : MethodName := ⟨RX7, "book", "(III)I"⟩
abbrev cX7_cancel : ByteArray := prog_1_method_11_code
def yX7_cancel : MethodName := ⟨RX7, "cancel", "(II)Z"⟩
abbrev cX7_where : ByteArray := prog_1_method_12_code
def yX7_where : MethodName := ⟨RX7, "where", "(II)I"⟩
abbrev cX7_bill : ByteArray := prog_1_method_13_code
def yX7_bill : MethodName := ⟨RX7, "bill", "(III)I"⟩
abbrev cX7_order : ByteArray := prog_1_method_14_code
def yX7_order : MethodName := ⟨RX7, "order", "(III)I"⟩
abbrev cX7_waits : ByteArray := prog_1_method_15_code
def yX7_waits : MethodName := ⟨RX7, "waits", "(II)I"⟩
abbrev cX7_fail : ByteArray := prog_1_method_16_code
def yX7_fail : MethodName := ⟨RX7, "fail", "(II)I"⟩
abbrev cX7_fill : ByteArray := prog_1_method_17_code
def yX7_fill : MethodName := ⟨RX7, "fill", "(III)I"⟩
abbrev cX7_pay : ByteArray := prog_1_method_18_code
def yX7_pay : MethodName := ⟨RX7, "pay", "(III)I"⟩
abbrev cX7_turnOf : ByteArray := prog_1_method_19_code
def yX7_turnOf : MethodName := ⟨RX7, "turnOf", "(II)I"⟩
abbrev cX7_count : ByteArray := prog_1_method_20_code
def yX7_count : MethodName := ⟨RX7, "count", "(I)I"⟩
abbrev cX7_isWithin : ByteArray := prog_1_method_21_code
def yX7_isWithin : MethodName := ⟨RX7, "isWithin", "(III)Z"⟩
abbrev cX7_isWeek : ByteArray := prog_1_method_22_code
def yX7_isWeek : MethodName := ⟨RX7, "isWeek", "(I)Z"⟩
abbrev cX7_isOpen : ByteArray := prog_1_method_23_code
def yX7_isOpen : MethodName := ⟨RX7, "isOpen", "(I)Z"⟩
abbrev cX7_turnAt : ByteArray := prog_1_method_24_code
def yX7_turnAt : MethodName := ⟨RX7, "turnAt", "(I)LVarietyCircuit$Turn;"⟩
abbrev cX7_hallAt : ByteArray := prog_1_method_25_code
def yX7_hallAt : MethodName := ⟨RX7, "hallAt", "(I)LVarietyCircuit$Hall;"⟩
abbrev cX7_putBytes : ByteArray := prog_1_method_26_code
def yX7_putBytes : MethodName := ⟨RX7, "putBytes", "(I)V"⟩
abbrev cX7_contractAsKnown : ByteArray := prog_1_method_27_code
def yX7_contractAsKnown : MethodName := ⟨RX7, "contractAsKnown", "(LVarietyCircuit$Turn;II)LVarietyCircuit$Contract;"⟩
abbrev cX7_gather : ByteArray := prog_1_method_28_code
def yX7_gather : MethodName := ⟨RX7, "gather", "(LVarietyCircuit$Hall;I)V"⟩
abbrev cX7_layBest : ByteArray := prog_1_method_29_code
def yX7_layBest : MethodName := ⟨RX7, "layBest", "(II)V"⟩
abbrev cX7_putOn : ByteArray := prog_1_method_30_code
def yX7_putOn : MethodName := ⟨RX7, "putOn", "(LVarietyCircuit$Turn;LVarietyCircuit$Hall;I)V"⟩
abbrev cX7_takeOff : ByteArray := prog_1_method_31_code
def yX7_takeOff : MethodName := ⟨RX7, "takeOff", "(LVarietyCircuit$Turn;I)V"⟩
abbrev cX7_greatestDraw : ByteArray := prog_1_method_32_code
def yX7_greatestDraw : MethodName := ⟨RX7, "greatestDraw", "(LVarietyCircuit$Hall;ILVarietyCircuit$Turn;)LVarietyCircuit$Turn;"⟩
abbrev cX7_barTo : ByteArray := prog_1_method_33_code
def yX7_barTo : MethodName := ⟨RX7, "barTo", "(LVarietyCircuit$Turn;LVarietyCircuit$Hall;I)I"⟩
abbrev cX7_barOnBill : ByteArray := prog_1_method_34_code
def yX7_barOnBill : MethodName := ⟨RX7, "barOnBill", "(LVarietyCircuit$Turn;LVarietyCircuit$Hall;ILVarietyCircuit$Contract;)I"⟩
abbrev cX7_isTooFar : ByteArray := prog_1_method_35_code
def yX7_isTooFar : MethodName := ⟨RX7, "isTooFar", "(LVarietyCircuit$Hall;LVarietyCircuit$Hall;)Z"⟩
abbrev cX7_isBarredByOwn : ByteArray := prog_1_method_36_code
def yX7_isBarredByOwn : MethodName := ⟨RX7, "isBarredByOwn", "(LVarietyCircuit$Turn;LVarietyCircuit$Hall;ILVarietyCircuit$Contract;)Z"⟩
abbrev cX7_isBarredByOtherWeeks : ByteArray := prog_1_method_37_code
def yX7_isBarredByOtherWeeks : MethodName := ⟨RX7, "isBarredByOtherWeeks", "(LVarietyCircuit$Turn;LVarietyCircuit$Hall;I)Z"⟩
def RX8 : String := "VarietyCircuitModel"
def TX8 : u_T := fun k => match k with
  | 0 => ("VarietyCircuitModel", "now", "I", false)
  | 1 => ("VarietyCircuitModel", "turns", "I", false)
  | 2 => ("VarietyCircuitModel", "halls", "I", false)
  | 3 => ("VarietyCircuitModel", "contracts", "I", false)
  | 4 => ("VarietyCircuitModel", "bookings", "I", false)
  | 5 => ("VarietyCircuitModel", "minutes", "[I", true)
  | 6 => ("VarietyCircuitModel", "kind", "[I", true)
  | 7 => ("VarietyCircuitModel", "like", "[I", true)
  | 8 => ("VarietyCircuitModel", "draw", "[I", true)
  | 9 => ("VarietyCircuitModel", "failed", "[I", true)
  | 10 => ("VarietyCircuitModel", "isFull", "[Z", true)
  | 11 => ("VarietyCircuitModel", "mile", "[I", true)
  | 12 => ("VarietyCircuitModel", "seats", "[I", true)
  | 13 => ("VarietyCircuitModel", "longest", "[I", true)
  | 14 => ("VarietyCircuitModel", "places", "[I", true)
  | 15 => ("VarietyCircuitModel", "tape", "[B", true)
  | 16 => ("VarietyCircuitModel", "text", "[B", true)
  | 17 => ("VarietyCircuitModel", "taped", "I", false)
  | 18 => ("VarietyCircuitModel", "size", "I", false)
  | 19 => ("VarietyCircuitModel", "at", "I", false)
  | 20 => ("VarietyCircuitModel", "fault", "I", false)
  | 21 => ("VarietyCircuitModel", "statements", "[I", true)
  | 22 => ("VarietyCircuitModel", "signer", "[I", true)
  | 23 => ("VarietyCircuitModel", "from", "[I", true)
  | 24 => ("VarietyCircuitModel", "signed", "[I", true)
  | 25 => ("VarietyCircuitModel", "sort", "[I", true)
  | 26 => ("VarietyCircuitModel", "first", "[I", true)
  | 27 => ("VarietyCircuitModel", "second", "[I", true)
  | 28 => ("VarietyCircuitModel", "wordEnd", "I", false)
  | 29 => ("VarietyCircuitModel", "number", "I", false)
  | 30 => ("VarietyCircuitModel", "who", "[I", true)
  | 31 => ("VarietyCircuitModel", "wish", "[I", true)
  | 32 => ("VarietyCircuitModel", "row", "[I", true)
  | 33 => ("VarietyCircuitModel", "least", "[I", true)
  | 34 => ("VarietyCircuitModel", "onBill", "I", false)
  | _ => ("VarietyCircuitModel", "bestSum", "I", false)
def tyX8 : Nat → FieldType := fun k => match k with
  | 0 => .int
  | 1 => .int
  | 2 => .int
  | 3 => .int
  | 4 => .int
  | 5 => .array .int
  | 6 => .array .int
  | 7 => .array .int
  | 8 => .array .int
  | 9 => .array .int
  | 10 => .array .boolean
  | 11 => .array .int
  | 12 => .array .int
  | 13 => .array .int
  | 14 => .array .int
  | 15 => .array .byte
  | 16 => .array .byte
  | 17 => .int
  | 18 => .int
  | 19 => .int
  | 20 => .int
  | 21 => .array .int
  | 22 => .array .int
  | 23 => .array .int
  | 24 => .array .int
  | 25 => .array .int
  | 26 => .array .int
  | 27 => .array .int
  | 28 => .int
  | 29 => .int
  | 30 => .array .int
  | 31 => .array .int
  | 32 => .array .int
  | 33 => .array .int
  | 34 => .int
  | _ => .int
abbrev wsX80 : List Cond := u_ws RX8 TX8 36
theorem nmX8 : ∀ a, a < 36 → ∀ b, b < 36 → a ≠ b → (TX8 a).2.1 ≠ (TX8 b).2.1 := by decide +kernel
theorem tyX8_ok : ∀ k, k < 36 → parseFieldDescriptor (TX8 k).2.2.1 = some (tyX8 k) := by decide +kernel
abbrev cX8_init : ByteArray := prog_10_method_1_code
def yX8_init : MethodName := ⟨RX8, "<init>", "()V"⟩
abbrev cX8_isIn : ByteArray := prog_10_method_2_code
def yX8_isIn : MethodName := ⟨RX8, "isIn", "(III)Z"⟩
abbrev cX8_isTurn : ByteArray := prog_10_method_3_code
def yX8_isTurn : MethodName := ⟨RX8, "isTurn", "(I)Z"⟩
abbrev cX8_isHall : ByteArray := prog_10_method_4_code
def yX8_isHall : MethodName := ⟨RX8, "isHall", "(I)Z"⟩
abbrev cX8_isWeek : ByteArray := prog_10_method_5_code
def yX8_isWeek : MethodName := ⟨RX8, "isWeek", "(I)Z"⟩
abbrev cX8_one : ByteArray := prog_10_method_6_code
def yX8_one : MethodName := ⟨RX8, "one", "(Z)I"⟩
abbrev cX8_weeks : ByteArray := prog_10_method_7_code
def yX8_weeks : MethodName := ⟨RX8, "weeks", "(I)I"⟩
abbrev cX8_turn : ByteArray := prog_10_method_8_code
def yX8_turn : MethodName := ⟨RX8, "turn", "(IIZII)I"⟩
abbrev cX8_hall : ByteArray := prog_10_method_9_code
def yX8_hall : MethodName := ⟨RX8, "hall", "(III)I"⟩
abbrev cX8_feed : ByteArray := prog_10_method_10_code
def yX8_feed : MethodName := ⟨RX8, "feed", "(IIIII)I"⟩
abbrev cX8_four : ByteArray := prog_10_method_11_code
def yX8_four : MethodName := ⟨RX8, "four", "(I)V"⟩
abbrev cX8_blanks : ByteArray := prog_10_method_12_code
def yX8_blanks : MethodName := ⟨RX8, "blanks", "()V"⟩
abbrev cX8_word : ByteArray := prog_10_method_13_code
def yX8_word : MethodName := ⟨RX8, "word", "()J"⟩
abbrev cX8_takes : ByteArray := prog_10_method_14_code
def yX8_takes : MethodName := ⟨RX8, "takes", "(J)Z"⟩
abbrev cX8_takesNumber : ByteArray := prog_10_method_15_code
def yX8_takesNumber : MethodName := ⟨RX8, "takesNumber", "()Z"⟩
abbrev cX8_statement : ByteArray := prog_10_method_16_code
def yX8_statement : MethodName := ⟨RX8, "statement", "(I)Z"⟩
abbrev cX8_sign : ByteArray := prog_10_method_17_code
def yX8_sign : MethodName := ⟨RX8, "sign", "(III)I"⟩
abbrev cX8_fault : ByteArray := prog_10_method_18_code
def yX8_fault : MethodName := ⟨RX8, "fault", "()I"⟩
abbrev cX8_inForce : ByteArray := prog_10_method_19_code
def yX8_inForce : MethodName := ⟨RX8, "inForce", "(III)I"⟩
abbrev cX8_force : ByteArray := prog_10_method_20_code
def yX8_force : MethodName := ⟨RX8, "force", "(III)I"⟩
abbrev cX8_lastOf : ByteArray := prog_10_method_21_code
def yX8_lastOf : MethodName := ⟨RX8, "lastOf", "(II)I"⟩
abbrev cX8_tells : ByteArray := prog_10_method_22_code
def yX8_tells : MethodName := ⟨RX8, "tells", "(III)Z"⟩
abbrev cX8_bars : ByteArray := prog_10_method_23_code
def yX8_bars : MethodName := ⟨RX8, "bars", "(IIII)Z"⟩
abbrev cX8_hallOf : ByteArray := prog_10_method_24_code
def yX8_hallOf : MethodName := ⟨RX8, "hallOf", "(II)I"⟩
abbrev cX8_isFarFrom : ByteArray := prog_10_method_25_code
def yX8_isFarFrom : MethodName := ⟨RX8, "isFarFrom", "(III)Z"⟩
abbrev cX8_why : ByteArray := prog_10_method_26_code
def yX8_why : MethodName := ⟨RX8, "why", "(III)I"⟩
abbrev cX8_many : ByteArray := prog_10_method_27_code
def yX8_many : MethodName := ⟨RX8, "many", "(II)I"⟩
abbrev cX8_book : ByteArray := prog_10_method_28_code
def yX8_book : MethodName := ⟨RX8, "book", "(III)I"⟩
abbrev cX8_isBooked : ByteArray := prog_10_method_29_code
def yX8_isBooked : MethodName := ⟨RX8, "isBooked", "(II)Z"⟩
abbrev cX8_cancel : ByteArray := prog_10_method_30_code
def yX8_cancel : MethodName := ⟨RX8, "cancel", "(II)Z"⟩
abbrev cX8_where : ByteArray := prog_10_method_31_code
def yX8_where : MethodName := ⟨RX8, "where", "(II)I"⟩
abbrev cX8_bill : ByteArray := prog_10_method_32_code
def yX8_bill : MethodName := ⟨RX8, "bill", "(III)I"⟩
abbrev cX8_mayLie : ByteArray := prog_10_method_33_code
def yX8_mayLie : MethodName := ⟨RX8, "mayLie", "(III)Z"⟩
abbrev cX8_wait : ByteArray := prog_10_method_34_code
def yX8_wait : MethodName := ⟨RX8, "wait", "(II)I"⟩
abbrev cX8_lays : ByteArray := prog_10_method_35_code
def yX8_lays : MethodName := ⟨RX8, "lays", "(II)Z"⟩
abbrev cX8_many_ : ByteArray := prog_10_method_36_code
def yX8_many_ : MethodName := ⟨RX8, "many", "(I)I"⟩
abbrev cX8_order : ByteArray := prog_10_method_37_code
def yX8_order : MethodName := ⟨RX8, "order", "(III)I"⟩
abbrev cX8_waits : ByteArray := prog_10_method_38_code
def yX8_waits : MethodName := ⟨RX8, "waits", "(II)I"⟩
abbrev cX8_bestFor : ByteArray := prog_10_method_39_code
def yX8_bestFor : MethodName := ⟨RX8, "bestFor", "(III)I"⟩
abbrev cX8_fail : ByteArray := prog_10_method_40_code
def yX8_fail : MethodName := ⟨RX8, "fail", "(II)I"⟩
abbrev cX8_fill : ByteArray := prog_10_method_41_code
def yX8_fill : MethodName := ⟨RX8, "fill", "(III)I"⟩
abbrev cX8_pay : ByteArray := prog_10_method_42_code
def yX8_pay : MethodName := ⟨RX8, "pay", "(III)I"⟩
abbrev cX8_turnOf : ByteArray := prog_10_method_43_code
def yX8_turnOf : MethodName := ⟨RX8, "turnOf", "(II)I"⟩
abbrev cX8_count : ByteArray := prog_10_method_44_code
def yX8_count : MethodName := ⟨RX8, "count", "(I)I"⟩
def RJ6 : String := "java/lang/Integer"
def TJ6 : u_T := fun k => match k with
  | _ => ("", "", "", false)
def tyJ6 : Nat → FieldType := fun k => match k with
  | _ => .int
abbrev wsJ60 : List Cond := u_ws RJ6 TJ6 0
theorem nmJ6 : ∀ a, a < 0 → ∀ b, b < 0 → a ≠ b → (TJ6 a).2.1 ≠ (TJ6 b).2.1 := by decide +kernel
theorem tyJ6_ok : ∀ k, k < 0 → parseFieldDescriptor (TJ6 k).2.2.1 = some (tyJ6 k) := by decide +kernel
abbrev cJ6_bitCount_0f7a4 : ByteArray := prog_11_method_49_code
def yJ6_bitCount_0f7a4 : MethodName := ⟨RJ6, "bitCount", "(I)I"⟩
def RJ9 : String := "java/lang/Math"
def TJ9 : u_T := fun k => match k with
  | _ => ("", "", "", false)
def tyJ9 : Nat → FieldType := fun k => match k with
  | _ => .int
abbrev wsJ90 : List Cond := u_ws RJ9 TJ9 0
theorem nmJ9 : ∀ a, a < 0 → ∀ b, b < 0 → a ≠ b → (TJ9 a).2.1 ≠ (TJ9 b).2.1 := by decide +kernel
theorem tyJ9_ok : ∀ k, k < 0 → parseFieldDescriptor (TJ9 k).2.2.1 = some (tyJ9 k) := by decide +kernel
abbrev cJ9_abs_0f7a4 : ByteArray := prog_12_method_59_code
def yJ9_abs_0f7a4 : MethodName := ⟨RJ9, "abs", "(I)I"⟩
abbrev cJ9_min_7cf53 : ByteArray := prog_12_method_69_code
def yJ9_min_7cf53 : MethodName := ⟨RJ9, "min", "(II)I"⟩
def RJ0 : String := "java/lang/String"
def TJ0 : u_T := fun k => match k with
  | _ => ("", "", "", false)
def tyJ0 : Nat → FieldType := fun k => match k with
  | _ => .int
abbrev wsJ00 : List Cond := u_ws RJ0 TJ0 0
theorem nmJ0 : ∀ a, a < 0 → ∀ b, b < 0 → a ≠ b → (TJ0 a).2.1 ≠ (TJ0 b).2.1 := by decide +kernel
theorem tyJ0_ok : ∀ k, k < 0 → parseFieldDescriptor (TJ0 k).2.2.1 = some (tyJ0 k) := by decide +kernel
abbrev cJ0_length_8abf5 : ByteArray := prog_13_method_54_code
def yJ0_length_8abf5 : MethodName := ⟨RJ0, "length", "()I"⟩
abbrev cJ0_charAt_5068e : ByteArray := prog_13_method_56_code
def yJ0_charAt_5068e : MethodName := ⟨RJ0, "charAt", "(I)C"⟩
abbrev cJ0_coder_7d493 : ByteArray := prog_13_method_152_code
def yJ0_coder_7d493 : MethodName := ⟨RJ0, "coder", "()B"⟩
abbrev cJ0_isLatin1_aae02 : ByteArray := prog_13_method_154_code
def yJ0_isLatin1_aae02 : MethodName := ⟨RJ0, "isLatin1", "()Z"⟩
abbrev cJ0_checkIndex_df160 : ByteArray := prog_13_method_155_code
def yJ0_checkIndex_df160 : MethodName := ⟨RJ0, "checkIndex", "(II)V"⟩
def RJ1 : String := "java/lang/StringLatin1"
def TJ1 : u_T := fun k => match k with
  | _ => ("", "", "", false)
def tyJ1 : Nat → FieldType := fun k => match k with
  | _ => .int
abbrev wsJ10 : List Cond := u_ws RJ1 TJ1 0
theorem nmJ1 : ∀ a, a < 0 → ∀ b, b < 0 → a ≠ b → (TJ1 a).2.1 ≠ (TJ1 b).2.1 := by decide +kernel
theorem tyJ1_ok : ∀ k, k < 0 → parseFieldDescriptor (TJ1 k).2.2.1 = some (tyJ1 k) := by decide +kernel
abbrev cJ1_charAt_3b067 : ByteArray := prog_14_method_2_code
def yJ1_charAt_3b067 : MethodName := ⟨RJ1, "charAt", "([BI)C"⟩
def RJ2 : String := "java/lang/StringUTF16"
def TJ2 : u_T := fun k => match k with
  | _ => ("", "", "", false)
def tyJ2 : Nat → FieldType := fun k => match k with
  | _ => .int
abbrev wsJ20 : List Cond := u_ws RJ2 TJ2 0
theorem nmJ2 : ∀ a, a < 0 → ∀ b, b < 0 → a ≠ b → (TJ2 a).2.1 ≠ (TJ2 b).2.1 := by decide +kernel
theorem tyJ2_ok : ∀ k, k < 0 → parseFieldDescriptor (TJ2 k).2.2.1 = some (tyJ2 k) := by decide +kernel
abbrev cJ2_getChar_3b067 : ByteArray := prog_15_method_5_code
def yJ2_getChar_3b067 : MethodName := ⟨RJ2, "getChar", "([BI)C"⟩
abbrev cJ2_length_9d52b : ByteArray := prog_15_method_6_code
def yJ2_length_9d52b : MethodName := ⟨RJ2, "length", "([B)I"⟩
abbrev cJ2_charAt_3b067 : ByteArray := prog_15_method_83_code
def yJ2_charAt_3b067 : MethodName := ⟨RJ2, "charAt", "([BI)C"⟩
abbrev cJ2_checkIndex_2214a : ByteArray := prog_15_method_91_code
def yJ2_checkIndex_2214a : MethodName := ⟨RJ2, "checkIndex", "(I[B)V"⟩
def RJ3 : String := "jdk/internal/util/Preconditions"
def TJ3 : u_T := fun k => match k with
  | _ => ("", "", "", false)
def tyJ3 : Nat → FieldType := fun k => match k with
  | _ => .int
abbrev wsJ30 : List Cond := u_ws RJ3 TJ3 0
theorem nmJ3 : ∀ a, a < 0 → ∀ b, b < 0 → a ≠ b → (TJ3 a).2.1 ≠ (TJ3 b).2.1 := by decide +kernel
theorem tyJ3_ok : ∀ k, k < 0 → parseFieldDescriptor (TJ3 k).2.2.1 = some (tyJ3 k) := by decide +kernel
abbrev cJ3_checkIndex_8e157 : ByteArray := prog_16_method_11_code
def yJ3_checkIndex_8e157 : MethodName := ⟨RJ3, "checkIndex", "(IILjava/util/function/BiFunction;)I"⟩
def RL : String := "VarietyCircuitLaw"
abbrev cL_law : ByteArray := code
def yL_law : MethodName := ⟨RL, "law", "([I)Z"⟩
theorem dX0_init_0 : decode cX0_init 0 = .ok (.aload_n 0, 1) := by decide +kernel
theorem dX0_init_1 : decode cX0_init 1 = .ok (.invokespecial 3, 3) := by decide +kernel
theorem dX0_init_4 : decode cX0_init 4 = .ok (.aload_n 0, 1) := by decide +kernel
theorem dX0_init_5 : decode cX0_init 5 = .ok (.bipush 9, 2) := by decide +kernel
theorem dX0_init_7 : decode cX0_init 7 = .ok (.newarray .boolean, 2) := by decide +kernel
theorem dX0_init_9 : decode cX0_init 9 = .ok (.putfield 9, 3) := by decide +kernel
theorem dX0_init_12 : decode cX0_init 12 = .ok (.aload_n 0, 1) := by decide +kernel
theorem dX0_init_13 : decode cX0_init 13 = .ok (.bipush 9, 2) := by decide +kernel
theorem dX0_init_15 : decode cX0_init 15 = .ok (.newarray .boolean, 2) := by decide +kernel
theorem dX0_init_17 : decode cX0_init 17 = .ok (.putfield 15, 3) := by decide +kernel
theorem dX0_init_20 : decode cX0_init 20 = .ok (.aload_n 0, 1) := by decide +kernel
theorem dX0_init_21 : decode cX0_init 21 = .ok (.bipush 9, 2) := by decide +kernel
theorem dX0_init_23 : decode cX0_init 23 = .ok (.newarray .int, 2) := by decide +kernel
theorem dX0_init_25 : decode cX0_init 25 = .ok (.putfield 18, 3) := by decide +kernel
theorem dX0_init_28 : decode cX0_init 28 = .ok (.aload_n 0, 1) := by decide +kernel
theorem dX0_init_29 : decode cX0_init 29 = .ok (.sipush 4608, 3) := by decide +kernel
theorem dX0_init_32 : decode cX0_init 32 = .ok (.newarray .int, 2) := by decide +kernel
theorem dX0_init_34 : decode cX0_init 34 = .ok (.putfield 22, 3) := by decide +kernel
theorem dX0_init_37 : decode cX0_init 37 = .ok (.aload_n 0, 1) := by decide +kernel
theorem dX0_init_38 : decode cX0_init 38 = .ok (.bipush 9, 2) := by decide +kernel
theorem dX0_init_40 : decode cX0_init 40 = .ok (.newarray .int, 2) := by decide +kernel
theorem dX0_init_42 : decode cX0_init 42 = .ok (.putfield 25, 3) := by decide +kernel
theorem dX0_init_45 : decode cX0_init 45 = .ok (.aload_n 0, 1) := by decide +kernel
theorem dX0_init_46 : decode cX0_init 46 = .ok (.iconst (-1), 1) := by decide +kernel
theorem dX0_init_47 : decode cX0_init 47 = .ok (.putfield 28, 3) := by decide +kernel
theorem dX0_init_50 : decode cX0_init 50 = .ok (.return_, 1) := by decide +kernel
theorem dX0_numberAt_0 : decode cX0_numberAt 0 = .ok (.aload_n 0, 1) := by decide +kernel
theorem dX0_numberAt_1 : decode cX0_numberAt 1 = .ok (.getfield 28, 3) := by decide +kernel
theorem dX0_numberAt_4 : decode cX0_numberAt 4 = .ok (.iconst (-1), 1) := by decide +kernel
theorem dX0_numberAt_5 : decode cX0_numberAt 5 = .ok (.if_icmp .eq 26, 3) := by decide +kernel
theorem dX0_numberAt_8 : decode cX0_numberAt 8 = .ok (.iload_n 1, 1) := by decide +kernel
theorem dX0_numberAt_9 : decode cX0_numberAt 9 = .ok (.iconst 0, 1) := by decide +kernel
theorem dX0_numberAt_10 : decode cX0_numberAt 10 = .ok (.aload_n 0, 1) := by decide +kernel
theorem dX0_numberAt_11 : decode cX0_numberAt 11 = .ok (.getfield 32, 3) := by decide +kernel
theorem dX0_numberAt_14 : decode cX0_numberAt 14 = .ok (.iconst 1, 1) := by decide +kernel
theorem dX0_numberAt_15 : decode cX0_numberAt 15 = .ok (.isub, 1) := by decide +kernel
theorem dX0_numberAt_16 : decode cX0_numberAt 16 = .ok (.invokestatic 35, 3) := by decide +kernel
theorem dX0_numberAt_19 : decode cX0_numberAt 19 = .ok (.ifCond .eq 12, 3) := by decide +kernel
theorem dX0_numberAt_22 : decode cX0_numberAt 22 = .ok (.aload_n 0, 1) := by decide +kernel
theorem dX0_numberAt_23 : decode cX0_numberAt 23 = .ok (.getfield 25, 3) := by decide +kernel
theorem dX0_numberAt_26 : decode cX0_numberAt 26 = .ok (.iload_n 1, 1) := by decide +kernel
theorem dX0_numberAt_27 : decode cX0_numberAt 27 = .ok (.iaload, 1) := by decide +kernel
theorem dX0_numberAt_28 : decode cX0_numberAt 28 = .ok (.goto 4, 3) := by decide +kernel
theorem dX0_numberAt_31 : decode cX0_numberAt 31 = .ok (.iconst (-1), 1) := by decide +kernel
theorem dX0_numberAt_32 : decode cX0_numberAt 32 = .ok (.ireturn, 1) := by decide +kernel
theorem dX0_lay_0 : decode cX0_lay 0 = .ok (.aload_n 0, 1) := by decide +kernel
theorem dX0_lay_1 : decode cX0_lay 1 = .ok (.aload_n 1, 1) := by decide +kernel
theorem dX0_lay_2 : decode cX0_lay 2 = .ok (.getfield 39, 3) := by decide +kernel
theorem dX0_lay_5 : decode cX0_lay 5 = .ok (.bipush 9, 2) := by decide +kernel
theorem dX0_lay_7 : decode cX0_lay 7 = .ok (.invokestatic 42, 3) := by decide +kernel
theorem dX0_lay_10 : decode cX0_lay 10 = .ok (.putfield 32, 3) := by decide +kernel
theorem dX0_lay_13 : decode cX0_lay 13 = .ok (.aload_n 0, 1) := by decide +kernel
theorem dX0_lay_14 : decode cX0_lay 14 = .ok (.iconst (-1), 1) := by decide +kernel
theorem dX0_lay_15 : decode cX0_lay 15 = .ok (.putfield 28, 3) := by decide +kernel
theorem dX0_lay_18 : decode cX0_lay 18 = .ok (.aload_n 0, 1) := by decide +kernel
theorem dX0_lay_19 : decode cX0_lay 19 = .ok (.getfield 32, 3) := by decide +kernel
theorem dX0_lay_22 : decode cX0_lay 22 = .ok (.ifCond .le 19, 3) := by decide +kernel
theorem dX0_lay_25 : decode cX0_lay 25 = .ok (.aload_n 0, 1) := by decide +kernel
theorem dX0_lay_26 : decode cX0_lay 26 = .ok (.aload_n 1, 1) := by decide +kernel
theorem dX0_lay_27 : decode cX0_lay 27 = .ok (.iload_n 2, 1) := by decide +kernel
theorem dX0_lay_28 : decode cX0_lay 28 = .ok (.iload_n 3, 1) := by decide +kernel
theorem dX0_lay_29 : decode cX0_lay 29 = .ok (.invokevirtual 48, 3) := by decide +kernel
theorem dX0_lay_32 : decode cX0_lay 32 = .ok (.aload_n 0, 1) := by decide +kernel
theorem dX0_lay_33 : decode cX0_lay 33 = .ok (.invokevirtual 52, 3) := by decide +kernel
theorem dX0_lay_36 : decode cX0_lay 36 = .ok (.aload_n 0, 1) := by decide +kernel
theorem dX0_lay_37 : decode cX0_lay 37 = .ok (.aload_n 1, 1) := by decide +kernel
theorem dX0_lay_38 : decode cX0_lay 38 = .ok (.invokevirtual 55, 3) := by decide +kernel
theorem dX0_lay_41 : decode cX0_lay 41 = .ok (.return_, 1) := by decide +kernel
theorem dX0_findWhoMayStand_0 : decode cX0_findWhoMayStand 0 = .ok (.iconst 0, 1) := by decide +kernel
theorem dX0_findWhoMayStand_1 : decode cX0_findWhoMayStand 1 = .ok (.istore 4, 2) := by decide +kernel
theorem dX0_findWhoMayStand_3 : decode cX0_findWhoMayStand 3 = .ok (.iload 4, 2) := by decide +kernel
theorem dX0_findWhoMayStand_5 : decode cX0_findWhoMayStand 5 = .ok (.aload_n 0, 1) := by decide +kernel
theorem dX0_findWhoMayStand_6 : decode cX0_findWhoMayStand 6 = .ok (.getfield 32, 3) := by decide +kernel
theorem dX0_findWhoMayStand_9 : decode cX0_findWhoMayStand 9 = .ok (.if_icmp .ge 17, 3) := by decide +kernel
theorem dX0_findWhoMayStand_12 : decode cX0_findWhoMayStand 12 = .ok (.aload_n 0, 1) := by decide +kernel
theorem dX0_findWhoMayStand_13 : decode cX0_findWhoMayStand 13 = .ok (.getfield 18, 3) := by decide +kernel
theorem dX0_findWhoMayStand_16 : decode cX0_findWhoMayStand 16 = .ok (.iload 4, 2) := by decide +kernel
theorem dX0_findWhoMayStand_18 : decode cX0_findWhoMayStand 18 = .ok (.iconst 0, 1) := by decide +kernel
theorem dX0_findWhoMayStand_19 : decode cX0_findWhoMayStand 19 = .ok (.iastore, 1) := by decide +kernel
theorem dX0_findWhoMayStand_20 : decode cX0_findWhoMayStand 20 = .ok (.iinc 4 1, 3) := by decide +kernel
theorem dX0_findWhoMayStand_23 : decode cX0_findWhoMayStand 23 = .ok (.goto (-20), 3) := by decide +kernel
theorem dX0_findWhoMayStand_26 : decode cX0_findWhoMayStand 26 = .ok (.iconst 0, 1) := by decide +kernel
theorem dX0_findWhoMayStand_27 : decode cX0_findWhoMayStand 27 = .ok (.istore 4, 2) := by decide +kernel
theorem dX0_findWhoMayStand_29 : decode cX0_findWhoMayStand 29 = .ok (.iload 4, 2) := by decide +kernel
theorem dX0_findWhoMayStand_31 : decode cX0_findWhoMayStand 31 = .ok (.aload_n 0, 1) := by decide +kernel
theorem dX0_findWhoMayStand_32 : decode cX0_findWhoMayStand 32 = .ok (.getfield 32, 3) := by decide +kernel
theorem dX0_findWhoMayStand_35 : decode cX0_findWhoMayStand 35 = .ok (.if_icmp .ge 215, 3) := by decide +kernel
theorem dX0_findWhoMayStand_38 : decode cX0_findWhoMayStand 38 = .ok (.aload_n 1, 1) := by decide +kernel
theorem dX0_findWhoMayStand_39 : decode cX0_findWhoMayStand 39 = .ok (.iload 4, 2) := by decide +kernel
theorem dX0_findWhoMayStand_41 : decode cX0_findWhoMayStand 41 = .ok (.invokevirtual 59, 3) := by decide +kernel
theorem dX0_findWhoMayStand_44 : decode cX0_findWhoMayStand 44 = .ok (.astore 5, 2) := by decide +kernel
theorem dX0_findWhoMayStand_46 : decode cX0_findWhoMayStand 46 = .ok (.aload_n 0, 1) := by decide +kernel
theorem dX0_findWhoMayStand_47 : decode cX0_findWhoMayStand 47 = .ok (.getfield 9, 3) := by decide +kernel
theorem dX0_findWhoMayStand_50 : decode cX0_findWhoMayStand 50 = .ok (.iload 4, 2) := by decide +kernel
theorem dX0_findWhoMayStand_52 : decode cX0_findWhoMayStand 52 = .ok (.aload 5, 2) := by decide +kernel
theorem dX0_findWhoMayStand_54 : decode cX0_findWhoMayStand 54 = .ok (.ifnull 16, 3) := by decide +kernel
theorem dX0_findWhoMayStand_57 : decode cX0_findWhoMayStand 57 = .ok (.aload 5, 2) := by decide +kernel
theorem dX0_findWhoMayStand_59 : decode cX0_findWhoMayStand 59 = .ok (.getfield 63, 3) := by decide +kernel
theorem dX0_findWhoMayStand_62 : decode cX0_findWhoMayStand 62 = .ok (.iconst 3, 1) := by decide +kernel
theorem dX0_findWhoMayStand_63 : decode cX0_findWhoMayStand 63 = .ok (.if_icmp .ne 7, 3) := by decide +kernel
theorem dX0_findWhoMayStand_66 : decode cX0_findWhoMayStand 66 = .ok (.iconst 1, 1) := by decide +kernel
theorem dX0_findWhoMayStand_67 : decode cX0_findWhoMayStand 67 = .ok (.goto 4, 3) := by decide +kernel
theorem dX0_findWhoMayStand_70 : decode cX0_findWhoMayStand 70 = .ok (.iconst 0, 1) := by decide +kernel
theorem dX0_findWhoMayStand_71 : decode cX0_findWhoMayStand 71 = .ok (.bastore, 1) := by decide +kernel
theorem dX0_findWhoMayStand_72 : decode cX0_findWhoMayStand 72 = .ok (.aload_n 0, 1) := by decide +kernel
theorem dX0_findWhoMayStand_73 : decode cX0_findWhoMayStand 73 = .ok (.getfield 15, 3) := by decide +kernel
theorem dX0_findWhoMayStand_76 : decode cX0_findWhoMayStand 76 = .ok (.iload 4, 2) := by decide +kernel
theorem dX0_findWhoMayStand_78 : decode cX0_findWhoMayStand 78 = .ok (.aload 5, 2) := by decide +kernel
theorem dX0_findWhoMayStand_80 : decode cX0_findWhoMayStand 80 = .ok (.ifnull 15, 3) := by decide +kernel
theorem dX0_findWhoMayStand_83 : decode cX0_findWhoMayStand 83 = .ok (.aload 5, 2) := by decide +kernel
theorem dX0_findWhoMayStand_85 : decode cX0_findWhoMayStand 85 = .ok (.getfield 68, 3) := by decide +kernel
theorem dX0_findWhoMayStand_88 : decode cX0_findWhoMayStand 88 = .ok (.ifCond .eq 7, 3) := by decide +kernel
theorem dX0_findWhoMayStand_91 : decode cX0_findWhoMayStand 91 = .ok (.iconst 1, 1) := by decide +kernel
theorem dX0_findWhoMayStand_92 : decode cX0_findWhoMayStand 92 = .ok (.goto 4, 3) := by decide +kernel
theorem dX0_findWhoMayStand_95 : decode cX0_findWhoMayStand 95 = .ok (.iconst 0, 1) := by decide +kernel
theorem dX0_findWhoMayStand_96 : decode cX0_findWhoMayStand 96 = .ok (.bastore, 1) := by decide +kernel
theorem dX0_findWhoMayStand_97 : decode cX0_findWhoMayStand 97 = .ok (.aload 5, 2) := by decide +kernel
theorem dX0_findWhoMayStand_99 : decode cX0_findWhoMayStand 99 = .ok (.ifnull 16, 3) := by decide +kernel
theorem dX0_findWhoMayStand_102 : decode cX0_findWhoMayStand 102 = .ok (.aload 5, 2) := by decide +kernel
theorem dX0_findWhoMayStand_104 : decode cX0_findWhoMayStand 104 = .ok (.getfield 63, 3) := by decide +kernel
theorem dX0_findWhoMayStand_107 : decode cX0_findWhoMayStand 107 = .ok (.iconst 2, 1) := by decide +kernel
theorem dX0_findWhoMayStand_108 : decode cX0_findWhoMayStand 108 = .ok (.if_icmp .ne 7, 3) := by decide +kernel
theorem dX0_findWhoMayStand_111 : decode cX0_findWhoMayStand 111 = .ok (.iconst 1, 1) := by decide +kernel
theorem dX0_findWhoMayStand_112 : decode cX0_findWhoMayStand 112 = .ok (.goto 4, 3) := by decide +kernel
theorem dX0_findWhoMayStand_115 : decode cX0_findWhoMayStand 115 = .ok (.iconst 0, 1) := by decide +kernel
theorem dX0_findWhoMayStand_116 : decode cX0_findWhoMayStand 116 = .ok (.istore 6, 2) := by decide +kernel
theorem dX0_findWhoMayStand_118 : decode cX0_findWhoMayStand 118 = .ok (.aload 5, 2) := by decide +kernel
theorem dX0_findWhoMayStand_120 : decode cX0_findWhoMayStand 120 = .ok (.ifnonnull 7, 3) := by decide +kernel
theorem dX0_findWhoMayStand_123 : decode cX0_findWhoMayStand 123 = .ok (.aconst_null, 1) := by decide +kernel
theorem dX0_findWhoMayStand_124 : decode cX0_findWhoMayStand 124 = .ok (.goto 10, 3) := by decide +kernel
theorem dX0_findWhoMayStand_127 : decode cX0_findWhoMayStand 127 = .ok (.aload 5, 2) := by decide +kernel
theorem dX0_findWhoMayStand_129 : decode cX0_findWhoMayStand 129 = .ok (.iload_n 2, 1) := by decide +kernel
theorem dX0_findWhoMayStand_130 : decode cX0_findWhoMayStand 130 = .ok (.iload_n 3, 1) := by decide +kernel
theorem dX0_findWhoMayStand_131 : decode cX0_findWhoMayStand 131 = .ok (.invokevirtual 72, 3) := by decide +kernel
theorem dX0_findWhoMayStand_134 : decode cX0_findWhoMayStand 134 = .ok (.astore 7, 2) := by decide +kernel
theorem dX0_findWhoMayStand_136 : decode cX0_findWhoMayStand 136 = .ok (.aload 7, 2) := by decide +kernel
theorem dX0_findWhoMayStand_138 : decode cX0_findWhoMayStand 138 = .ok (.ifnonnull 7, 3) := by decide +kernel
theorem dX0_findWhoMayStand_141 : decode cX0_findWhoMayStand 141 = .ok (.iconst 0, 1) := by decide +kernel
theorem dX0_findWhoMayStand_142 : decode cX0_findWhoMayStand 142 = .ok (.goto 9, 3) := by decide +kernel
theorem dX0_findWhoMayStand_145 : decode cX0_findWhoMayStand 145 = .ok (.aload 7, 2) := by decide +kernel
theorem dX0_findWhoMayStand_147 : decode cX0_findWhoMayStand 147 = .ok (.iconst 5, 1) := by decide +kernel
theorem dX0_findWhoMayStand_148 : decode cX0_findWhoMayStand 148 = .ok (.invokevirtual 78, 3) := by decide +kernel
theorem dX0_findWhoMayStand_151 : decode cX0_findWhoMayStand 151 = .ok (.istore 8, 2) := by decide +kernel
theorem dX0_findWhoMayStand_153 : decode cX0_findWhoMayStand 153 = .ok (.iload 8, 2) := by decide +kernel
theorem dX0_findWhoMayStand_155 : decode cX0_findWhoMayStand 155 = .ok (.iconst 1, 1) := by decide +kernel
theorem dX0_findWhoMayStand_156 : decode cX0_findWhoMayStand 156 = .ok (.aload_n 0, 1) := by decide +kernel
theorem dX0_findWhoMayStand_157 : decode cX0_findWhoMayStand 157 = .ok (.getfield 32, 3) := by decide +kernel
theorem dX0_findWhoMayStand_160 : decode cX0_findWhoMayStand 160 = .ok (.invokestatic 35, 3) := by decide +kernel
theorem dX0_findWhoMayStand_163 : decode cX0_findWhoMayStand 163 = .ok (.istore 9, 2) := by decide +kernel
theorem dX0_findWhoMayStand_165 : decode cX0_findWhoMayStand 165 = .ok (.iconst 0, 1) := by decide +kernel
theorem dX0_findWhoMayStand_166 : decode cX0_findWhoMayStand 166 = .ok (.istore 10, 2) := by decide +kernel
theorem dX0_findWhoMayStand_168 : decode cX0_findWhoMayStand 168 = .ok (.iload 10, 2) := by decide +kernel
theorem dX0_findWhoMayStand_170 : decode cX0_findWhoMayStand 170 = .ok (.aload_n 0, 1) := by decide +kernel
theorem dX0_findWhoMayStand_171 : decode cX0_findWhoMayStand 171 = .ok (.getfield 32, 3) := by decide +kernel
theorem dX0_findWhoMayStand_174 : decode cX0_findWhoMayStand 174 = .ok (.if_icmp .ge 70, 3) := by decide +kernel
theorem dX0_findWhoMayStand_177 : decode cX0_findWhoMayStand 177 = .ok (.iload 10, 2) := by decide +kernel
theorem dX0_findWhoMayStand_179 : decode cX0_findWhoMayStand 179 = .ok (.ifCond .eq 14, 3) := by decide +kernel
theorem dX0_findWhoMayStand_182 : decode cX0_findWhoMayStand 182 = .ok (.iload 10, 2) := by decide +kernel
theorem dX0_findWhoMayStand_184 : decode cX0_findWhoMayStand 184 = .ok (.aload_n 0, 1) := by decide +kernel
theorem dX0_findWhoMayStand_185 : decode cX0_findWhoMayStand 185 = .ok (.getfield 32, 3) := by decide +kernel
theorem dX0_findWhoMayStand_188 : decode cX0_findWhoMayStand 188 = .ok (.iconst 1, 1) := by decide +kernel
theorem dX0_findWhoMayStand_189 : decode cX0_findWhoMayStand 189 = .ok (.isub, 1) := by decide +kernel
theorem dX0_findWhoMayStand_190 : decode cX0_findWhoMayStand 190 = .ok (.if_icmp .ne 7, 3) := by decide +kernel
theorem dX0_findWhoMayStand_193 : decode cX0_findWhoMayStand 193 = .ok (.iconst 1, 1) := by decide +kernel
theorem dX0_findWhoMayStand_194 : decode cX0_findWhoMayStand 194 = .ok (.goto 4, 3) := by decide +kernel
theorem dX0_findWhoMayStand_197 : decode cX0_findWhoMayStand 197 = .ok (.iconst 0, 1) := by decide +kernel
theorem dX0_findWhoMayStand_198 : decode cX0_findWhoMayStand 198 = .ok (.istore 11, 2) := by decide +kernel
theorem dX0_findWhoMayStand_200 : decode cX0_findWhoMayStand 200 = .ok (.iload 6, 2) := by decide +kernel
theorem dX0_findWhoMayStand_202 : decode cX0_findWhoMayStand 202 = .ok (.ifCond .eq 8, 3) := by decide +kernel
theorem dX0_findWhoMayStand_205 : decode cX0_findWhoMayStand 205 = .ok (.iload 11, 2) := by decide +kernel
theorem dX0_findWhoMayStand_207 : decode cX0_findWhoMayStand 207 = .ok (.ifCond .eq 31, 3) := by decide +kernel
theorem dX0_findWhoMayStand_210 : decode cX0_findWhoMayStand 210 = .ok (.iload 9, 2) := by decide +kernel
theorem dX0_findWhoMayStand_212 : decode cX0_findWhoMayStand 212 = .ok (.ifCond .eq 12, 3) := by decide +kernel
theorem dX0_findWhoMayStand_215 : decode cX0_findWhoMayStand 215 = .ok (.iload 10, 2) := by decide +kernel
theorem dX0_findWhoMayStand_217 : decode cX0_findWhoMayStand 217 = .ok (.iload 8, 2) := by decide +kernel
theorem dX0_findWhoMayStand_219 : decode cX0_findWhoMayStand 219 = .ok (.iconst 1, 1) := by decide +kernel
theorem dX0_findWhoMayStand_220 : decode cX0_findWhoMayStand 220 = .ok (.isub, 1) := by decide +kernel
theorem dX0_findWhoMayStand_221 : decode cX0_findWhoMayStand 221 = .ok (.if_icmp .ne 17, 3) := by decide +kernel
theorem dX0_findWhoMayStand_224 : decode cX0_findWhoMayStand 224 = .ok (.aload_n 0, 1) := by decide +kernel
theorem dX0_findWhoMayStand_225 : decode cX0_findWhoMayStand 225 = .ok (.getfield 18, 3) := by decide +kernel
theorem dX0_findWhoMayStand_228 : decode cX0_findWhoMayStand 228 = .ok (.iload 10, 2) := by decide +kernel
theorem dX0_findWhoMayStand_230 : decode cX0_findWhoMayStand 230 = .ok (.dup2, 1) := by decide +kernel
theorem dX0_findWhoMayStand_231 : decode cX0_findWhoMayStand 231 = .ok (.iaload, 1) := by decide +kernel
theorem dX0_findWhoMayStand_232 : decode cX0_findWhoMayStand 232 = .ok (.iconst 1, 1) := by decide +kernel
theorem dX0_findWhoMayStand_233 : decode cX0_findWhoMayStand 233 = .ok (.iload 4, 2) := by decide +kernel
theorem dX0_findWhoMayStand_235 : decode cX0_findWhoMayStand 235 = .ok (.ishl, 1) := by decide +kernel
theorem dX0_findWhoMayStand_236 : decode cX0_findWhoMayStand 236 = .ok (.ior, 1) := by decide +kernel
theorem dX0_findWhoMayStand_237 : decode cX0_findWhoMayStand 237 = .ok (.iastore, 1) := by decide +kernel
theorem dX0_findWhoMayStand_238 : decode cX0_findWhoMayStand 238 = .ok (.iinc 10 1, 3) := by decide +kernel
theorem dX0_findWhoMayStand_241 : decode cX0_findWhoMayStand 241 = .ok (.goto (-73), 3) := by decide +kernel
theorem dX0_findWhoMayStand_244 : decode cX0_findWhoMayStand 244 = .ok (.iinc 4 1, 3) := by decide +kernel
theorem dX0_findWhoMayStand_247 : decode cX0_findWhoMayStand 247 = .ok (.goto (-218), 3) := by decide +kernel
theorem dX0_findWhoMayStand_250 : decode cX0_findWhoMayStand 250 = .ok (.return_, 1) := by decide +kernel
theorem dX0_findLeast_0 : decode cX0_findLeast 0 = .ok (.iconst 1, 1) := by decide +kernel
theorem dX0_findLeast_1 : decode cX0_findLeast 1 = .ok (.aload_n 0, 1) := by decide +kernel
theorem dX0_findLeast_2 : decode cX0_findLeast 2 = .ok (.getfield 32, 3) := by decide +kernel
theorem dX0_findLeast_5 : decode cX0_findLeast 5 = .ok (.ishl, 1) := by decide +kernel
theorem dX0_findLeast_6 : decode cX0_findLeast 6 = .ok (.iconst 1, 1) := by decide +kernel
theorem dX0_findLeast_7 : decode cX0_findLeast 7 = .ok (.isub, 1) := by decide +kernel
theorem dX0_findLeast_8 : decode cX0_findLeast 8 = .ok (.istore_n 1, 1) := by decide +kernel
theorem dX0_findLeast_9 : decode cX0_findLeast 9 = .ok (.iload_n 1, 1) := by decide +kernel
theorem dX0_findLeast_10 : decode cX0_findLeast 10 = .ok (.ifCond .le 72, 3) := by decide +kernel
theorem dX0_findLeast_13 : decode cX0_findLeast 13 = .ok (.iload_n 1, 1) := by decide +kernel
theorem dX0_findLeast_14 : decode cX0_findLeast 14 = .ok (.invokestatic 84, 3) := by decide +kernel
theorem dX0_findLeast_17 : decode cX0_findLeast 17 = .ok (.istore_n 2, 1) := by decide +kernel
theorem dX0_findLeast_18 : decode cX0_findLeast 18 = .ok (.iload_n 1, 1) := by decide +kernel
theorem dX0_findLeast_19 : decode cX0_findLeast 19 = .ok (.aload_n 0, 1) := by decide +kernel
theorem dX0_findLeast_20 : decode cX0_findLeast 20 = .ok (.getfield 18, 3) := by decide +kernel
theorem dX0_findLeast_23 : decode cX0_findLeast 23 = .ok (.iload_n 2, 1) := by decide +kernel
theorem dX0_findLeast_24 : decode cX0_findLeast 24 = .ok (.iconst 1, 1) := by decide +kernel
theorem dX0_findLeast_25 : decode cX0_findLeast 25 = .ok (.isub, 1) := by decide +kernel
theorem dX0_findLeast_26 : decode cX0_findLeast 26 = .ok (.iaload, 1) := by decide +kernel
theorem dX0_findLeast_27 : decode cX0_findLeast 27 = .ok (.iand, 1) := by decide +kernel
theorem dX0_findLeast_28 : decode cX0_findLeast 28 = .ok (.istore_n 3, 1) := by decide +kernel
theorem dX0_findLeast_29 : decode cX0_findLeast 29 = .ok (.iconst 0, 1) := by decide +kernel
theorem dX0_findLeast_30 : decode cX0_findLeast 30 = .ok (.istore 4, 2) := by decide +kernel
theorem dX0_findLeast_32 : decode cX0_findLeast 32 = .ok (.iload 4, 2) := by decide +kernel
theorem dX0_findLeast_34 : decode cX0_findLeast 34 = .ok (.aload_n 0, 1) := by decide +kernel
theorem dX0_findLeast_35 : decode cX0_findLeast 35 = .ok (.getfield 32, 3) := by decide +kernel
theorem dX0_findLeast_38 : decode cX0_findLeast 38 = .ok (.if_icmp .ge 38, 3) := by decide +kernel
theorem dX0_findLeast_41 : decode cX0_findLeast 41 = .ok (.iload_n 3, 1) := by decide +kernel
theorem dX0_findLeast_42 : decode cX0_findLeast 42 = .ok (.iload 4, 2) := by decide +kernel
theorem dX0_findLeast_44 : decode cX0_findLeast 44 = .ok (.invokestatic 89, 3) := by decide +kernel
theorem dX0_findLeast_47 : decode cX0_findLeast 47 = .ok (.ifCond .eq 23, 3) := by decide +kernel
theorem dX0_findLeast_50 : decode cX0_findLeast 50 = .ok (.aload_n 0, 1) := by decide +kernel
theorem dX0_findLeast_51 : decode cX0_findLeast 51 = .ok (.getfield 22, 3) := by decide +kernel
theorem dX0_findLeast_54 : decode cX0_findLeast 54 = .ok (.iload_n 1, 1) := by decide +kernel
theorem dX0_findLeast_55 : decode cX0_findLeast 55 = .ok (.bipush 9, 2) := by decide +kernel
theorem dX0_findLeast_57 : decode cX0_findLeast 57 = .ok (.imul, 1) := by decide +kernel
theorem dX0_findLeast_58 : decode cX0_findLeast 58 = .ok (.iload 4, 2) := by decide +kernel
theorem dX0_findLeast_60 : decode cX0_findLeast 60 = .ok (.iadd, 1) := by decide +kernel
theorem dX0_findLeast_61 : decode cX0_findLeast 61 = .ok (.aload_n 0, 1) := by decide +kernel
theorem dX0_findLeast_62 : decode cX0_findLeast 62 = .ok (.iload_n 1, 1) := by decide +kernel
theorem dX0_findLeast_63 : decode cX0_findLeast 63 = .ok (.iload_n 2, 1) := by decide +kernel
theorem dX0_findLeast_64 : decode cX0_findLeast 64 = .ok (.iload 4, 2) := by decide +kernel
theorem dX0_findLeast_66 : decode cX0_findLeast 66 = .ok (.invokevirtual 93, 3) := by decide +kernel
theorem dX0_findLeast_69 : decode cX0_findLeast 69 = .ok (.iastore, 1) := by decide +kernel
theorem dX0_findLeast_70 : decode cX0_findLeast 70 = .ok (.iinc 4 1, 3) := by decide +kernel
theorem dX0_findLeast_73 : decode cX0_findLeast 73 = .ok (.goto (-41), 3) := by decide +kernel
theorem dX0_findLeast_76 : decode cX0_findLeast 76 = .ok (.iinc 1 (-1), 3) := by decide +kernel
theorem dX0_findLeast_79 : decode cX0_findLeast 79 = .ok (.goto (-70), 3) := by decide +kernel
theorem dX0_findLeast_82 : decode cX0_findLeast 82 = .ok (.return_, 1) := by decide +kernel
theorem dX0_leastFrom_0 : decode cX0_leastFrom 0 = .ok (.iload_n 2, 1) := by decide +kernel
theorem dX0_leastFrom_1 : decode cX0_leastFrom 1 = .ok (.aload_n 0, 1) := by decide +kernel
theorem dX0_leastFrom_2 : decode cX0_leastFrom 2 = .ok (.getfield 32, 3) := by decide +kernel
theorem dX0_leastFrom_5 : decode cX0_leastFrom 5 = .ok (.if_icmp .lt 5, 3) := by decide +kernel
theorem dX0_leastFrom_8 : decode cX0_leastFrom 8 = .ok (.iconst 0, 1) := by decide +kernel
theorem dX0_leastFrom_9 : decode cX0_leastFrom 9 = .ok (.ireturn, 1) := by decide +kernel
theorem dX0_leastFrom_10 : decode cX0_leastFrom 10 = .ok (.aload_n 0, 1) := by decide +kernel
theorem dX0_leastFrom_11 : decode cX0_leastFrom 11 = .ok (.getfield 18, 3) := by decide +kernel
theorem dX0_leastFrom_14 : decode cX0_leastFrom 14 = .ok (.iload_n 2, 1) := by decide +kernel
theorem dX0_leastFrom_15 : decode cX0_leastFrom 15 = .ok (.iaload, 1) := by decide +kernel
theorem dX0_leastFrom_16 : decode cX0_leastFrom 16 = .ok (.iload_n 1, 1) := by decide +kernel
theorem dX0_leastFrom_17 : decode cX0_leastFrom 17 = .ok (.iconst (-1), 1) := by decide +kernel
theorem dX0_leastFrom_18 : decode cX0_leastFrom 18 = .ok (.ixor, 1) := by decide +kernel
theorem dX0_leastFrom_19 : decode cX0_leastFrom 19 = .ok (.iand, 1) := by decide +kernel
theorem dX0_leastFrom_20 : decode cX0_leastFrom 20 = .ok (.istore 4, 2) := by decide +kernel
theorem dX0_leastFrom_22 : decode cX0_leastFrom 22 = .ok (.sipush 1000, 3) := by decide +kernel
theorem dX0_leastFrom_25 : decode cX0_leastFrom 25 = .ok (.istore 5, 2) := by decide +kernel
theorem dX0_leastFrom_27 : decode cX0_leastFrom 27 = .ok (.iconst 0, 1) := by decide +kernel
theorem dX0_leastFrom_28 : decode cX0_leastFrom 28 = .ok (.istore 6, 2) := by decide +kernel
theorem dX0_leastFrom_30 : decode cX0_leastFrom 30 = .ok (.iload 6, 2) := by decide +kernel
theorem dX0_leastFrom_32 : decode cX0_leastFrom 32 = .ok (.aload_n 0, 1) := by decide +kernel
theorem dX0_leastFrom_33 : decode cX0_leastFrom 33 = .ok (.getfield 32, 3) := by decide +kernel
theorem dX0_leastFrom_36 : decode cX0_leastFrom 36 = .ok (.if_icmp .ge 34, 3) := by decide +kernel
theorem dX0_leastFrom_39 : decode cX0_leastFrom 39 = .ok (.iload 4, 2) := by decide +kernel
theorem dX0_leastFrom_41 : decode cX0_leastFrom 41 = .ok (.iload 6, 2) := by decide +kernel
theorem dX0_leastFrom_43 : decode cX0_leastFrom 43 = .ok (.invokestatic 89, 3) := by decide +kernel
theorem dX0_leastFrom_46 : decode cX0_leastFrom 46 = .ok (.ifCond .eq 18, 3) := by decide +kernel
theorem dX0_leastFrom_49 : decode cX0_leastFrom 49 = .ok (.iload 5, 2) := by decide +kernel
theorem dX0_leastFrom_51 : decode cX0_leastFrom 51 = .ok (.aload_n 0, 1) := by decide +kernel
theorem dX0_leastFrom_52 : decode cX0_leastFrom 52 = .ok (.iload_n 1, 1) := by decide +kernel
theorem dX0_leastFrom_53 : decode cX0_leastFrom 53 = .ok (.iload_n 3, 1) := by decide +kernel
theorem dX0_leastFrom_54 : decode cX0_leastFrom 54 = .ok (.iload 6, 2) := by decide +kernel
theorem dX0_leastFrom_56 : decode cX0_leastFrom 56 = .ok (.invokevirtual 97, 3) := by decide +kernel
theorem dX0_leastFrom_59 : decode cX0_leastFrom 59 = .ok (.invokestatic 42, 3) := by decide +kernel
theorem dX0_leastFrom_62 : decode cX0_leastFrom 62 = .ok (.istore 5, 2) := by decide +kernel
theorem dX0_leastFrom_64 : decode cX0_leastFrom 64 = .ok (.iinc 6 1, 3) := by decide +kernel
theorem dX0_leastFrom_67 : decode cX0_leastFrom 67 = .ok (.goto (-37), 3) := by decide +kernel
theorem dX0_leastFrom_70 : decode cX0_leastFrom 70 = .ok (.iload 5, 2) := by decide +kernel
theorem dX0_leastFrom_72 : decode cX0_leastFrom 72 = .ok (.ireturn, 1) := by decide +kernel
theorem dX0_sumThrough_0 : decode cX0_sumThrough 0 = .ok (.aload_n 0, 1) := by decide +kernel
theorem dX0_sumThrough_1 : decode cX0_sumThrough 1 = .ok (.iload_n 2, 1) := by decide +kernel
theorem dX0_sumThrough_2 : decode cX0_sumThrough 2 = .ok (.iload_n 3, 1) := by decide +kernel
theorem dX0_sumThrough_3 : decode cX0_sumThrough 3 = .ok (.invokevirtual 100, 3) := by decide +kernel
theorem dX0_sumThrough_6 : decode cX0_sumThrough 6 = .ok (.aload_n 0, 1) := by decide +kernel
theorem dX0_sumThrough_7 : decode cX0_sumThrough 7 = .ok (.getfield 22, 3) := by decide +kernel
theorem dX0_sumThrough_10 : decode cX0_sumThrough 10 = .ok (.iload_n 1, 1) := by decide +kernel
theorem dX0_sumThrough_11 : decode cX0_sumThrough 11 = .ok (.iconst 1, 1) := by decide +kernel
theorem dX0_sumThrough_12 : decode cX0_sumThrough 12 = .ok (.iload_n 3, 1) := by decide +kernel
theorem dX0_sumThrough_13 : decode cX0_sumThrough 13 = .ok (.ishl, 1) := by decide +kernel
theorem dX0_sumThrough_14 : decode cX0_sumThrough 14 = .ok (.ior, 1) := by decide +kernel
theorem dX0_sumThrough_15 : decode cX0_sumThrough 15 = .ok (.bipush 9, 2) := by decide +kernel
theorem dX0_sumThrough_17 : decode cX0_sumThrough 17 = .ok (.imul, 1) := by decide +kernel
theorem dX0_sumThrough_18 : decode cX0_sumThrough 18 = .ok (.iload_n 3, 1) := by decide +kernel
theorem dX0_sumThrough_19 : decode cX0_sumThrough 19 = .ok (.iadd, 1) := by decide +kernel
theorem dX0_sumThrough_20 : decode cX0_sumThrough 20 = .ok (.iaload, 1) := by decide +kernel
theorem dX0_sumThrough_21 : decode cX0_sumThrough 21 = .ok (.iadd, 1) := by decide +kernel
theorem dX0_sumThrough_22 : decode cX0_sumThrough 22 = .ok (.ireturn, 1) := by decide +kernel
theorem dX0_waitBetween_0 : decode cX0_waitBetween 0 = .ok (.aload_n 0, 1) := by decide +kernel
theorem dX0_waitBetween_1 : decode cX0_waitBetween 1 = .ok (.getfield 15, 3) := by decide +kernel
theorem dX0_waitBetween_4 : decode cX0_waitBetween 4 = .ok (.iload_n 1, 1) := by decide +kernel
theorem dX0_waitBetween_5 : decode cX0_waitBetween 5 = .ok (.baload, 1) := by decide +kernel
theorem dX0_waitBetween_6 : decode cX0_waitBetween 6 = .ok (.ifCond .eq 16, 3) := by decide +kernel
theorem dX0_waitBetween_9 : decode cX0_waitBetween 9 = .ok (.aload_n 0, 1) := by decide +kernel
theorem dX0_waitBetween_10 : decode cX0_waitBetween 10 = .ok (.getfield 15, 3) := by decide +kernel
theorem dX0_waitBetween_13 : decode cX0_waitBetween 13 = .ok (.iload_n 2, 1) := by decide +kernel
theorem dX0_waitBetween_14 : decode cX0_waitBetween 14 = .ok (.baload, 1) := by decide +kernel
theorem dX0_waitBetween_15 : decode cX0_waitBetween 15 = .ok (.ifCond .eq 7, 3) := by decide +kernel
theorem dX0_waitBetween_18 : decode cX0_waitBetween 18 = .ok (.sipush 1000, 3) := by decide +kernel
theorem dX0_waitBetween_21 : decode cX0_waitBetween 21 = .ok (.ireturn, 1) := by decide +kernel
theorem dX0_waitBetween_22 : decode cX0_waitBetween 22 = .ok (.aload_n 0, 1) := by decide +kernel
theorem dX0_waitBetween_23 : decode cX0_waitBetween 23 = .ok (.getfield 9, 3) := by decide +kernel
theorem dX0_waitBetween_26 : decode cX0_waitBetween 26 = .ok (.iload_n 1, 1) := by decide +kernel
theorem dX0_waitBetween_27 : decode cX0_waitBetween 27 = .ok (.baload, 1) := by decide +kernel
theorem dX0_waitBetween_28 : decode cX0_waitBetween 28 = .ok (.ifCond .ne 12, 3) := by decide +kernel
theorem dX0_waitBetween_31 : decode cX0_waitBetween 31 = .ok (.aload_n 0, 1) := by decide +kernel
theorem dX0_waitBetween_32 : decode cX0_waitBetween 32 = .ok (.getfield 9, 3) := by decide +kernel
theorem dX0_waitBetween_35 : decode cX0_waitBetween 35 = .ok (.iload_n 2, 1) := by decide +kernel
theorem dX0_waitBetween_36 : decode cX0_waitBetween 36 = .ok (.baload, 1) := by decide +kernel
theorem dX0_waitBetween_37 : decode cX0_waitBetween 37 = .ok (.ifCond .eq 5, 3) := by decide +kernel
theorem dX0_waitBetween_40 : decode cX0_waitBetween 40 = .ok (.iconst 0, 1) := by decide +kernel
theorem dX0_waitBetween_41 : decode cX0_waitBetween 41 = .ok (.ireturn, 1) := by decide +kernel
theorem dX0_waitBetween_42 : decode cX0_waitBetween 42 = .ok (.aload_n 0, 1) := by decide +kernel
theorem dX0_waitBetween_43 : decode cX0_waitBetween 43 = .ok (.getfield 15, 3) := by decide +kernel
theorem dX0_waitBetween_46 : decode cX0_waitBetween 46 = .ok (.iload_n 1, 1) := by decide +kernel
theorem dX0_waitBetween_47 : decode cX0_waitBetween 47 = .ok (.baload, 1) := by decide +kernel
theorem dX0_waitBetween_48 : decode cX0_waitBetween 48 = .ok (.ifCond .ne 12, 3) := by decide +kernel
theorem dX0_waitBetween_51 : decode cX0_waitBetween 51 = .ok (.aload_n 0, 1) := by decide +kernel
theorem dX0_waitBetween_52 : decode cX0_waitBetween 52 = .ok (.getfield 15, 3) := by decide +kernel
theorem dX0_waitBetween_55 : decode cX0_waitBetween 55 = .ok (.iload_n 2, 1) := by decide +kernel
theorem dX0_waitBetween_56 : decode cX0_waitBetween 56 = .ok (.baload, 1) := by decide +kernel
theorem dX0_waitBetween_57 : decode cX0_waitBetween 57 = .ok (.ifCond .eq 7, 3) := by decide +kernel
theorem dX0_waitBetween_60 : decode cX0_waitBetween 60 = .ok (.iconst 2, 1) := by decide +kernel
theorem dX0_waitBetween_61 : decode cX0_waitBetween 61 = .ok (.goto 4, 3) := by decide +kernel
theorem dX0_waitBetween_64 : decode cX0_waitBetween 64 = .ok (.iconst 1, 1) := by decide +kernel
theorem dX0_waitBetween_65 : decode cX0_waitBetween 65 = .ok (.ireturn, 1) := by decide +kernel
theorem dX0_layLeast_0 : decode cX0_layLeast 0 = .ok (.aload_n 0, 1) := by decide +kernel
theorem dX0_layLeast_1 : decode cX0_layLeast 1 = .ok (.invokevirtual 103, 3) := by decide +kernel
theorem dX0_layLeast_4 : decode cX0_layLeast 4 = .ok (.istore_n 2, 1) := by decide +kernel
theorem dX0_layLeast_5 : decode cX0_layLeast 5 = .ok (.iload_n 2, 1) := by decide +kernel
theorem dX0_layLeast_6 : decode cX0_layLeast 6 = .ok (.iconst (-1), 1) := by decide +kernel
theorem dX0_layLeast_7 : decode cX0_layLeast 7 = .ok (.if_icmp .ne 4, 3) := by decide +kernel
theorem dX0_layLeast_10 : decode cX0_layLeast 10 = .ok (.return_, 1) := by decide +kernel
theorem dX0_layLeast_11 : decode cX0_layLeast 11 = .ok (.aload_n 0, 1) := by decide +kernel
theorem dX0_layLeast_12 : decode cX0_layLeast 12 = .ok (.aload_n 0, 1) := by decide +kernel
theorem dX0_layLeast_13 : decode cX0_layLeast 13 = .ok (.getfield 22, 3) := by decide +kernel
theorem dX0_layLeast_16 : decode cX0_layLeast 16 = .ok (.iconst 1, 1) := by decide +kernel
theorem dX0_layLeast_17 : decode cX0_layLeast 17 = .ok (.iload_n 2, 1) := by decide +kernel
theorem dX0_layLeast_18 : decode cX0_layLeast 18 = .ok (.ishl, 1) := by decide +kernel
theorem dX0_layLeast_19 : decode cX0_layLeast 19 = .ok (.bipush 9, 2) := by decide +kernel
theorem dX0_layLeast_21 : decode cX0_layLeast 21 = .ok (.imul, 1) := by decide +kernel
theorem dX0_layLeast_22 : decode cX0_layLeast 22 = .ok (.iload_n 2, 1) := by decide +kernel
theorem dX0_layLeast_23 : decode cX0_layLeast 23 = .ok (.iadd, 1) := by decide +kernel
theorem dX0_layLeast_24 : decode cX0_layLeast 24 = .ok (.iaload, 1) := by decide +kernel
theorem dX0_layLeast_25 : decode cX0_layLeast 25 = .ok (.putfield 28, 3) := by decide +kernel
theorem dX0_layLeast_28 : decode cX0_layLeast 28 = .ok (.aload_n 0, 1) := by decide +kernel
theorem dX0_layLeast_29 : decode cX0_layLeast 29 = .ok (.getfield 25, 3) := by decide +kernel
theorem dX0_layLeast_32 : decode cX0_layLeast 32 = .ok (.iconst 0, 1) := by decide +kernel
theorem dX0_layLeast_33 : decode cX0_layLeast 33 = .ok (.aload_n 1, 1) := by decide +kernel
theorem dX0_layLeast_34 : decode cX0_layLeast 34 = .ok (.iload_n 2, 1) := by decide +kernel
theorem dX0_layLeast_35 : decode cX0_layLeast 35 = .ok (.invokevirtual 107, 3) := by decide +kernel
theorem dX0_layLeast_38 : decode cX0_layLeast 38 = .ok (.iastore, 1) := by decide +kernel
theorem dX0_layLeast_39 : decode cX0_layLeast 39 = .ok (.iconst 1, 1) := by decide +kernel
theorem dX0_layLeast_40 : decode cX0_layLeast 40 = .ok (.iload_n 2, 1) := by decide +kernel
theorem dX0_layLeast_41 : decode cX0_layLeast 41 = .ok (.ishl, 1) := by decide +kernel
theorem dX0_layLeast_42 : decode cX0_layLeast 42 = .ok (.istore_n 3, 1) := by decide +kernel
theorem dX0_layLeast_43 : decode cX0_layLeast 43 = .ok (.iconst 1, 1) := by decide +kernel
theorem dX0_layLeast_44 : decode cX0_layLeast 44 = .ok (.istore 4, 2) := by decide +kernel
theorem dX0_layLeast_46 : decode cX0_layLeast 46 = .ok (.iload 4, 2) := by decide +kernel
theorem dX0_layLeast_48 : decode cX0_layLeast 48 = .ok (.aload_n 0, 1) := by decide +kernel
theorem dX0_layLeast_49 : decode cX0_layLeast 49 = .ok (.getfield 32, 3) := by decide +kernel
theorem dX0_layLeast_52 : decode cX0_layLeast 52 = .ok (.if_icmp .ge 50, 3) := by decide +kernel
theorem dX0_layLeast_55 : decode cX0_layLeast 55 = .ok (.iload_n 2, 1) := by decide +kernel
theorem dX0_layLeast_56 : decode cX0_layLeast 56 = .ok (.iconst (-1), 1) := by decide +kernel
theorem dX0_layLeast_57 : decode cX0_layLeast 57 = .ok (.if_icmp .eq 45, 3) := by decide +kernel
theorem dX0_layLeast_60 : decode cX0_layLeast 60 = .ok (.aload_n 0, 1) := by decide +kernel
theorem dX0_layLeast_61 : decode cX0_layLeast 61 = .ok (.iload_n 3, 1) := by decide +kernel
theorem dX0_layLeast_62 : decode cX0_layLeast 62 = .ok (.iload 4, 2) := by decide +kernel
theorem dX0_layLeast_64 : decode cX0_layLeast 64 = .ok (.iload_n 2, 1) := by decide +kernel
theorem dX0_layLeast_65 : decode cX0_layLeast 65 = .ok (.invokevirtual 110, 3) := by decide +kernel
theorem dX0_layLeast_68 : decode cX0_layLeast 68 = .ok (.istore_n 2, 1) := by decide +kernel
theorem dX0_layLeast_69 : decode cX0_layLeast 69 = .ok (.aload_n 0, 1) := by decide +kernel
theorem dX0_layLeast_70 : decode cX0_layLeast 70 = .ok (.getfield 25, 3) := by decide +kernel
theorem dX0_layLeast_73 : decode cX0_layLeast 73 = .ok (.iload 4, 2) := by decide +kernel
theorem dX0_layLeast_75 : decode cX0_layLeast 75 = .ok (.aload_n 1, 1) := by decide +kernel
theorem dX0_layLeast_76 : decode cX0_layLeast 76 = .ok (.iload_n 2, 1) := by decide +kernel
theorem dX0_layLeast_77 : decode cX0_layLeast 77 = .ok (.invokevirtual 107, 3) := by decide +kernel
theorem dX0_layLeast_80 : decode cX0_layLeast 80 = .ok (.iastore, 1) := by decide +kernel
theorem dX0_layLeast_81 : decode cX0_layLeast 81 = .ok (.iload_n 3, 1) := by decide +kernel
theorem dX0_layLeast_82 : decode cX0_layLeast 82 = .ok (.iload_n 2, 1) := by decide +kernel
theorem dX0_layLeast_83 : decode cX0_layLeast 83 = .ok (.iconst (-1), 1) := by decide +kernel
theorem dX0_layLeast_84 : decode cX0_layLeast 84 = .ok (.if_icmp .ne 7, 3) := by decide +kernel
theorem dX0_layLeast_87 : decode cX0_layLeast 87 = .ok (.iconst 0, 1) := by decide +kernel
theorem dX0_layLeast_88 : decode cX0_layLeast 88 = .ok (.goto 6, 3) := by decide +kernel
theorem dX0_layLeast_91 : decode cX0_layLeast 91 = .ok (.iconst 1, 1) := by decide +kernel
theorem dX0_layLeast_92 : decode cX0_layLeast 92 = .ok (.iload_n 2, 1) := by decide +kernel
theorem dX0_layLeast_93 : decode cX0_layLeast 93 = .ok (.ishl, 1) := by decide +kernel
theorem dX0_layLeast_94 : decode cX0_layLeast 94 = .ok (.ior, 1) := by decide +kernel
theorem dX0_layLeast_95 : decode cX0_layLeast 95 = .ok (.istore_n 3, 1) := by decide +kernel
theorem dX0_layLeast_96 : decode cX0_layLeast 96 = .ok (.iinc 4 1, 3) := by decide +kernel
theorem dX0_layLeast_99 : decode cX0_layLeast 99 = .ok (.goto (-53), 3) := by decide +kernel
theorem dX0_layLeast_102 : decode cX0_layLeast 102 = .ok (.return_, 1) := by decide +kernel
theorem dX0_firstOfLeast_0 : decode cX0_firstOfLeast 0 = .ok (.iconst (-1), 1) := by decide +kernel
theorem dX0_firstOfLeast_1 : decode cX0_firstOfLeast 1 = .ok (.istore_n 1, 1) := by decide +kernel
theorem dX0_firstOfLeast_2 : decode cX0_firstOfLeast 2 = .ok (.sipush 1000, 3) := by decide +kernel
theorem dX0_firstOfLeast_5 : decode cX0_firstOfLeast 5 = .ok (.istore_n 2, 1) := by decide +kernel
theorem dX0_firstOfLeast_6 : decode cX0_firstOfLeast 6 = .ok (.iconst 0, 1) := by decide +kernel
theorem dX0_firstOfLeast_7 : decode cX0_firstOfLeast 7 = .ok (.istore_n 3, 1) := by decide +kernel
theorem dX0_firstOfLeast_8 : decode cX0_firstOfLeast 8 = .ok (.iload_n 3, 1) := by decide +kernel
theorem dX0_firstOfLeast_9 : decode cX0_firstOfLeast 9 = .ok (.aload_n 0, 1) := by decide +kernel
theorem dX0_firstOfLeast_10 : decode cX0_firstOfLeast 10 = .ok (.getfield 32, 3) := by decide +kernel
theorem dX0_firstOfLeast_13 : decode cX0_firstOfLeast 13 = .ok (.if_icmp .ge 55, 3) := by decide +kernel
theorem dX0_firstOfLeast_16 : decode cX0_firstOfLeast 16 = .ok (.aload_n 0, 1) := by decide +kernel
theorem dX0_firstOfLeast_17 : decode cX0_firstOfLeast 17 = .ok (.getfield 18, 3) := by decide +kernel
theorem dX0_firstOfLeast_20 : decode cX0_firstOfLeast 20 = .ok (.iconst 0, 1) := by decide +kernel
theorem dX0_firstOfLeast_21 : decode cX0_firstOfLeast 21 = .ok (.iaload, 1) := by decide +kernel
theorem dX0_firstOfLeast_22 : decode cX0_firstOfLeast 22 = .ok (.iload_n 3, 1) := by decide +kernel
theorem dX0_firstOfLeast_23 : decode cX0_firstOfLeast 23 = .ok (.invokestatic 89, 3) := by decide +kernel
theorem dX0_firstOfLeast_26 : decode cX0_firstOfLeast 26 = .ok (.ifCond .eq 36, 3) := by decide +kernel
theorem dX0_firstOfLeast_29 : decode cX0_firstOfLeast 29 = .ok (.aload_n 0, 1) := by decide +kernel
theorem dX0_firstOfLeast_30 : decode cX0_firstOfLeast 30 = .ok (.getfield 22, 3) := by decide +kernel
theorem dX0_firstOfLeast_33 : decode cX0_firstOfLeast 33 = .ok (.iconst 1, 1) := by decide +kernel
theorem dX0_firstOfLeast_34 : decode cX0_firstOfLeast 34 = .ok (.iload_n 3, 1) := by decide +kernel
theorem dX0_firstOfLeast_35 : decode cX0_firstOfLeast 35 = .ok (.ishl, 1) := by decide +kernel
theorem dX0_firstOfLeast_36 : decode cX0_firstOfLeast 36 = .ok (.bipush 9, 2) := by decide +kernel
theorem dX0_firstOfLeast_38 : decode cX0_firstOfLeast 38 = .ok (.imul, 1) := by decide +kernel
theorem dX0_firstOfLeast_39 : decode cX0_firstOfLeast 39 = .ok (.iload_n 3, 1) := by decide +kernel
theorem dX0_firstOfLeast_40 : decode cX0_firstOfLeast 40 = .ok (.iadd, 1) := by decide +kernel
theorem dX0_firstOfLeast_41 : decode cX0_firstOfLeast 41 = .ok (.iaload, 1) := by decide +kernel
theorem dX0_firstOfLeast_42 : decode cX0_firstOfLeast 42 = .ok (.iload_n 2, 1) := by decide +kernel
theorem dX0_firstOfLeast_43 : decode cX0_firstOfLeast 43 = .ok (.if_icmp .ge 19, 3) := by decide +kernel
theorem dX0_firstOfLeast_46 : decode cX0_firstOfLeast 46 = .ok (.aload_n 0, 1) := by decide +kernel
theorem dX0_firstOfLeast_47 : decode cX0_firstOfLeast 47 = .ok (.getfield 22, 3) := by decide +kernel
theorem dX0_firstOfLeast_50 : decode cX0_firstOfLeast 50 = .ok (.iconst 1, 1) := by decide +kernel
theorem dX0_firstOfLeast_51 : decode cX0_firstOfLeast 51 = .ok (.iload_n 3, 1) := by decide +kernel
theorem dX0_firstOfLeast_52 : decode cX0_firstOfLeast 52 = .ok (.ishl, 1) := by decide +kernel
theorem dX0_firstOfLeast_53 : decode cX0_firstOfLeast 53 = .ok (.bipush 9, 2) := by decide +kernel
theorem dX0_firstOfLeast_55 : decode cX0_firstOfLeast 55 = .ok (.imul, 1) := by decide +kernel
theorem dX0_firstOfLeast_56 : decode cX0_firstOfLeast 56 = .ok (.iload_n 3, 1) := by decide +kernel
theorem dX0_firstOfLeast_57 : decode cX0_firstOfLeast 57 = .ok (.iadd, 1) := by decide +kernel
theorem dX0_firstOfLeast_58 : decode cX0_firstOfLeast 58 = .ok (.iaload, 1) := by decide +kernel
theorem dX0_firstOfLeast_59 : decode cX0_firstOfLeast 59 = .ok (.istore_n 2, 1) := by decide +kernel
theorem dX0_firstOfLeast_60 : decode cX0_firstOfLeast 60 = .ok (.iload_n 3, 1) := by decide +kernel
theorem dX0_firstOfLeast_61 : decode cX0_firstOfLeast 61 = .ok (.istore_n 1, 1) := by decide +kernel
theorem dX0_firstOfLeast_62 : decode cX0_firstOfLeast 62 = .ok (.iinc 3 1, 3) := by decide +kernel
theorem dX0_firstOfLeast_65 : decode cX0_firstOfLeast 65 = .ok (.goto (-57), 3) := by decide +kernel
theorem dX0_firstOfLeast_68 : decode cX0_firstOfLeast 68 = .ok (.iload_n 1, 1) := by decide +kernel
theorem dX0_firstOfLeast_69 : decode cX0_firstOfLeast 69 = .ok (.ireturn, 1) := by decide +kernel
theorem dX0_nextOfLeast_0 : decode cX0_nextOfLeast 0 = .ok (.aload_n 0, 1) := by decide +kernel
theorem dX0_nextOfLeast_1 : decode cX0_nextOfLeast 1 = .ok (.getfield 18, 3) := by decide +kernel
theorem dX0_nextOfLeast_4 : decode cX0_nextOfLeast 4 = .ok (.iload_n 2, 1) := by decide +kernel
theorem dX0_nextOfLeast_5 : decode cX0_nextOfLeast 5 = .ok (.iaload, 1) := by decide +kernel
theorem dX0_nextOfLeast_6 : decode cX0_nextOfLeast 6 = .ok (.iload_n 1, 1) := by decide +kernel
theorem dX0_nextOfLeast_7 : decode cX0_nextOfLeast 7 = .ok (.iconst (-1), 1) := by decide +kernel
theorem dX0_nextOfLeast_8 : decode cX0_nextOfLeast 8 = .ok (.ixor, 1) := by decide +kernel
theorem dX0_nextOfLeast_9 : decode cX0_nextOfLeast 9 = .ok (.iand, 1) := by decide +kernel
theorem dX0_nextOfLeast_10 : decode cX0_nextOfLeast 10 = .ok (.istore 4, 2) := by decide +kernel
theorem dX0_nextOfLeast_12 : decode cX0_nextOfLeast 12 = .ok (.aload_n 0, 1) := by decide +kernel
theorem dX0_nextOfLeast_13 : decode cX0_nextOfLeast 13 = .ok (.getfield 22, 3) := by decide +kernel
theorem dX0_nextOfLeast_16 : decode cX0_nextOfLeast 16 = .ok (.iload_n 1, 1) := by decide +kernel
theorem dX0_nextOfLeast_17 : decode cX0_nextOfLeast 17 = .ok (.bipush 9, 2) := by decide +kernel
theorem dX0_nextOfLeast_19 : decode cX0_nextOfLeast 19 = .ok (.imul, 1) := by decide +kernel
theorem dX0_nextOfLeast_20 : decode cX0_nextOfLeast 20 = .ok (.iload_n 3, 1) := by decide +kernel
theorem dX0_nextOfLeast_21 : decode cX0_nextOfLeast 21 = .ok (.iadd, 1) := by decide +kernel
theorem dX0_nextOfLeast_22 : decode cX0_nextOfLeast 22 = .ok (.iaload, 1) := by decide +kernel
theorem dX0_nextOfLeast_23 : decode cX0_nextOfLeast 23 = .ok (.istore 5, 2) := by decide +kernel
theorem dX0_nextOfLeast_25 : decode cX0_nextOfLeast 25 = .ok (.iconst 0, 1) := by decide +kernel
theorem dX0_nextOfLeast_26 : decode cX0_nextOfLeast 26 = .ok (.istore 6, 2) := by decide +kernel
theorem dX0_nextOfLeast_28 : decode cX0_nextOfLeast 28 = .ok (.iload 6, 2) := by decide +kernel
theorem dX0_nextOfLeast_30 : decode cX0_nextOfLeast 30 = .ok (.aload_n 0, 1) := by decide +kernel
theorem dX0_nextOfLeast_31 : decode cX0_nextOfLeast 31 = .ok (.getfield 32, 3) := by decide +kernel
theorem dX0_nextOfLeast_34 : decode cX0_nextOfLeast 34 = .ok (.if_icmp .ge 35, 3) := by decide +kernel
theorem dX0_nextOfLeast_37 : decode cX0_nextOfLeast 37 = .ok (.iload 4, 2) := by decide +kernel
theorem dX0_nextOfLeast_39 : decode cX0_nextOfLeast 39 = .ok (.iload 6, 2) := by decide +kernel
theorem dX0_nextOfLeast_41 : decode cX0_nextOfLeast 41 = .ok (.invokestatic 89, 3) := by decide +kernel
theorem dX0_nextOfLeast_44 : decode cX0_nextOfLeast 44 = .ok (.ifCond .eq 19, 3) := by decide +kernel
theorem dX0_nextOfLeast_47 : decode cX0_nextOfLeast 47 = .ok (.aload_n 0, 1) := by decide +kernel
theorem dX0_nextOfLeast_48 : decode cX0_nextOfLeast 48 = .ok (.iload_n 1, 1) := by decide +kernel
theorem dX0_nextOfLeast_49 : decode cX0_nextOfLeast 49 = .ok (.iload_n 3, 1) := by decide +kernel
theorem dX0_nextOfLeast_50 : decode cX0_nextOfLeast 50 = .ok (.iload 6, 2) := by decide +kernel
theorem dX0_nextOfLeast_52 : decode cX0_nextOfLeast 52 = .ok (.invokevirtual 97, 3) := by decide +kernel
theorem dX0_nextOfLeast_55 : decode cX0_nextOfLeast 55 = .ok (.iload 5, 2) := by decide +kernel
theorem dX0_nextOfLeast_57 : decode cX0_nextOfLeast 57 = .ok (.if_icmp .ne 6, 3) := by decide +kernel
theorem dX0_nextOfLeast_60 : decode cX0_nextOfLeast 60 = .ok (.iload 6, 2) := by decide +kernel
theorem dX0_nextOfLeast_62 : decode cX0_nextOfLeast 62 = .ok (.ireturn, 1) := by decide +kernel
theorem dX0_nextOfLeast_63 : decode cX0_nextOfLeast 63 = .ok (.iinc 6 1, 3) := by decide +kernel
theorem dX0_nextOfLeast_66 : decode cX0_nextOfLeast 66 = .ok (.goto (-38), 3) := by decide +kernel
theorem dX0_nextOfLeast_69 : decode cX0_nextOfLeast 69 = .ok (.iconst (-1), 1) := by decide +kernel
theorem dX0_nextOfLeast_70 : decode cX0_nextOfLeast 70 = .ok (.ireturn, 1) := by decide +kernel
theorem dX0_has_0 : decode cX0_has 0 = .ok (.iload_n 0, 1) := by decide +kernel
theorem dX0_has_1 : decode cX0_has 1 = .ok (.iload_n 1, 1) := by decide +kernel
theorem dX0_has_2 : decode cX0_has 2 = .ok (.ishr, 1) := by decide +kernel
theorem dX0_has_3 : decode cX0_has 3 = .ok (.iconst 1, 1) := by decide +kernel
theorem dX0_has_4 : decode cX0_has 4 = .ok (.iand, 1) := by decide +kernel
theorem dX0_has_5 : decode cX0_has 5 = .ok (.ifCond .eq 7, 3) := by decide +kernel
theorem dX0_has_8 : decode cX0_has 8 = .ok (.iconst 1, 1) := by decide +kernel
theorem dX0_has_9 : decode cX0_has 9 = .ok (.goto 4, 3) := by decide +kernel
theorem dX0_has_12 : decode cX0_has 12 = .ok (.iconst 0, 1) := by decide +kernel
theorem dX0_has_13 : decode cX0_has 13 = .ok (.ireturn, 1) := by decide +kernel
theorem dX1_init_0 : decode cX1_init 0 = .ok (.aload_n 0, 1) := by decide +kernel
theorem dX1_init_1 : decode cX1_init 1 = .ok (.invokespecial 3, 3) := by decide +kernel
theorem dX1_init_4 : decode cX1_init 4 = .ok (.aload_n 0, 1) := by decide +kernel
theorem dX1_init_5 : decode cX1_init 5 = .ok (.bipush 9, 2) := by decide +kernel
theorem dX1_init_7 : decode cX1_init 7 = .ok (.anewarray 9, 3) := by decide +kernel
theorem dX1_init_10 : decode cX1_init 10 = .ok (.putfield 11, 3) := by decide +kernel
theorem dX1_init_13 : decode cX1_init 13 = .ok (.return_, 1) := by decide +kernel
theorem dX1_put_0 : decode cX1_put 0 = .ok (.aload_n 0, 1) := by decide +kernel
theorem dX1_put_1 : decode cX1_put 1 = .ok (.getfield 17, 3) := by decide +kernel
theorem dX1_put_4 : decode cX1_put 4 = .ok (.bipush 9, 2) := by decide +kernel
theorem dX1_put_6 : decode cX1_put 6 = .ok (.if_icmp .ge 23, 3) := by decide +kernel
theorem dX1_put_9 : decode cX1_put 9 = .ok (.aload_n 0, 1) := by decide +kernel
theorem dX1_put_10 : decode cX1_put 10 = .ok (.getfield 11, 3) := by decide +kernel
theorem dX1_put_13 : decode cX1_put 13 = .ok (.aload_n 0, 1) := by decide +kernel
theorem dX1_put_14 : decode cX1_put 14 = .ok (.getfield 17, 3) := by decide +kernel
theorem dX1_put_17 : decode cX1_put 17 = .ok (.aload_n 1, 1) := by decide +kernel
theorem dX1_put_18 : decode cX1_put 18 = .ok (.aastore, 1) := by decide +kernel
theorem dX1_put_19 : decode cX1_put 19 = .ok (.aload_n 0, 1) := by decide +kernel
theorem dX1_put_20 : decode cX1_put 20 = .ok (.dup, 1) := by decide +kernel
theorem dX1_put_21 : decode cX1_put 21 = .ok (.getfield 17, 3) := by decide +kernel
theorem dX1_put_24 : decode cX1_put 24 = .ok (.iconst 1, 1) := by decide +kernel
theorem dX1_put_25 : decode cX1_put 25 = .ok (.iadd, 1) := by decide +kernel
theorem dX1_put_26 : decode cX1_put 26 = .ok (.putfield 17, 3) := by decide +kernel
theorem dX1_put_29 : decode cX1_put 29 = .ok (.return_, 1) := by decide +kernel
theorem dX1_memberAt_0 : decode cX1_memberAt 0 = .ok (.iload_n 1, 1) := by decide +kernel
theorem dX1_memberAt_1 : decode cX1_memberAt 1 = .ok (.iconst 0, 1) := by decide +kernel
theorem dX1_memberAt_2 : decode cX1_memberAt 2 = .ok (.aload_n 0, 1) := by decide +kernel
theorem dX1_memberAt_3 : decode cX1_memberAt 3 = .ok (.getfield 17, 3) := by decide +kernel
theorem dX1_memberAt_6 : decode cX1_memberAt 6 = .ok (.iconst 1, 1) := by decide +kernel
theorem dX1_memberAt_7 : decode cX1_memberAt 7 = .ok (.isub, 1) := by decide +kernel
theorem dX1_memberAt_8 : decode cX1_memberAt 8 = .ok (.invokestatic 21, 3) := by decide +kernel
theorem dX1_memberAt_11 : decode cX1_memberAt 11 = .ok (.ifCond .eq 12, 3) := by decide +kernel
theorem dX1_memberAt_14 : decode cX1_memberAt 14 = .ok (.aload_n 0, 1) := by decide +kernel
theorem dX1_memberAt_15 : decode cX1_memberAt 15 = .ok (.getfield 11, 3) := by decide +kernel
theorem dX1_memberAt_18 : decode cX1_memberAt 18 = .ok (.iload_n 1, 1) := by decide +kernel
theorem dX1_memberAt_19 : decode cX1_memberAt 19 = .ok (.aaload, 1) := by decide +kernel
theorem dX1_memberAt_20 : decode cX1_memberAt 20 = .ok (.goto 4, 3) := by decide +kernel
theorem dX1_memberAt_23 : decode cX1_memberAt 23 = .ok (.aconst_null, 1) := by decide +kernel
theorem dX1_memberAt_24 : decode cX1_memberAt 24 = .ok (.areturn, 1) := by decide +kernel
theorem dX1_numberAt_0 : decode cX1_numberAt 0 = .ok (.aload_n 0, 1) := by decide +kernel
theorem dX1_numberAt_1 : decode cX1_numberAt 1 = .ok (.iload_n 1, 1) := by decide +kernel
theorem dX1_numberAt_2 : decode cX1_numberAt 2 = .ok (.invokevirtual 25, 3) := by decide +kernel
theorem dX1_numberAt_5 : decode cX1_numberAt 5 = .ok (.astore_n 2, 1) := by decide +kernel
theorem dX1_numberAt_6 : decode cX1_numberAt 6 = .ok (.aload_n 2, 1) := by decide +kernel
theorem dX1_numberAt_7 : decode cX1_numberAt 7 = .ok (.ifnonnull 7, 3) := by decide +kernel
theorem dX1_numberAt_10 : decode cX1_numberAt 10 = .ok (.iconst (-1), 1) := by decide +kernel
theorem dX1_numberAt_11 : decode cX1_numberAt 11 = .ok (.goto 7, 3) := by decide +kernel
theorem dX1_numberAt_14 : decode cX1_numberAt 14 = .ok (.aload_n 2, 1) := by decide +kernel
theorem dX1_numberAt_15 : decode cX1_numberAt 15 = .ok (.getfield 29, 3) := by decide +kernel
theorem dX1_numberAt_18 : decode cX1_numberAt 18 = .ok (.ireturn, 1) := by decide +kernel
theorem dX1_minutesOfAll_0 : decode cX1_minutesOfAll 0 = .ok (.iconst 0, 1) := by decide +kernel
theorem dX1_minutesOfAll_1 : decode cX1_minutesOfAll 1 = .ok (.istore_n 1, 1) := by decide +kernel
theorem dX1_minutesOfAll_2 : decode cX1_minutesOfAll 2 = .ok (.iconst 0, 1) := by decide +kernel
theorem dX1_minutesOfAll_3 : decode cX1_minutesOfAll 3 = .ok (.istore_n 2, 1) := by decide +kernel
theorem dX1_minutesOfAll_4 : decode cX1_minutesOfAll 4 = .ok (.iload_n 2, 1) := by decide +kernel
theorem dX1_minutesOfAll_5 : decode cX1_minutesOfAll 5 = .ok (.aload_n 0, 1) := by decide +kernel
theorem dX1_minutesOfAll_6 : decode cX1_minutesOfAll 6 = .ok (.getfield 17, 3) := by decide +kernel
theorem dX1_minutesOfAll_9 : decode cX1_minutesOfAll 9 = .ok (.if_icmp .ge 30, 3) := by decide +kernel
theorem dX1_minutesOfAll_12 : decode cX1_minutesOfAll 12 = .ok (.aload_n 0, 1) := by decide +kernel
theorem dX1_minutesOfAll_13 : decode cX1_minutesOfAll 13 = .ok (.iload_n 2, 1) := by decide +kernel
theorem dX1_minutesOfAll_14 : decode cX1_minutesOfAll 14 = .ok (.invokevirtual 25, 3) := by decide +kernel
theorem dX1_minutesOfAll_17 : decode cX1_minutesOfAll 17 = .ok (.astore_n 3, 1) := by decide +kernel
theorem dX1_minutesOfAll_18 : decode cX1_minutesOfAll 18 = .ok (.iload_n 1, 1) := by decide +kernel
theorem dX1_minutesOfAll_19 : decode cX1_minutesOfAll 19 = .ok (.aload_n 3, 1) := by decide +kernel
theorem dX1_minutesOfAll_20 : decode cX1_minutesOfAll 20 = .ok (.ifnonnull 7, 3) := by decide +kernel
theorem dX1_minutesOfAll_23 : decode cX1_minutesOfAll 23 = .ok (.iconst 0, 1) := by decide +kernel
theorem dX1_minutesOfAll_24 : decode cX1_minutesOfAll 24 = .ok (.goto 7, 3) := by decide +kernel
theorem dX1_minutesOfAll_27 : decode cX1_minutesOfAll 27 = .ok (.aload_n 3, 1) := by decide +kernel
theorem dX1_minutesOfAll_28 : decode cX1_minutesOfAll 28 = .ok (.getfield 32, 3) := by decide +kernel
theorem dX1_minutesOfAll_31 : decode cX1_minutesOfAll 31 = .ok (.iadd, 1) := by decide +kernel
theorem dX1_minutesOfAll_32 : decode cX1_minutesOfAll 32 = .ok (.istore_n 1, 1) := by decide +kernel
theorem dX1_minutesOfAll_33 : decode cX1_minutesOfAll 33 = .ok (.iinc 2 1, 3) := by decide +kernel
theorem dX1_minutesOfAll_36 : decode cX1_minutesOfAll 36 = .ok (.goto (-32), 3) := by decide +kernel
theorem dX1_minutesOfAll_39 : decode cX1_minutesOfAll 39 = .ok (.iload_n 1, 1) := by decide +kernel
theorem dX1_minutesOfAll_40 : decode cX1_minutesOfAll 40 = .ok (.ireturn, 1) := by decide +kernel
theorem dX1_payOfAll_0 : decode cX1_payOfAll 0 = .ok (.iconst 0, 1) := by decide +kernel
theorem dX1_payOfAll_1 : decode cX1_payOfAll 1 = .ok (.istore_n 3, 1) := by decide +kernel
theorem dX1_payOfAll_2 : decode cX1_payOfAll 2 = .ok (.iconst 0, 1) := by decide +kernel
theorem dX1_payOfAll_3 : decode cX1_payOfAll 3 = .ok (.istore 4, 2) := by decide +kernel
theorem dX1_payOfAll_5 : decode cX1_payOfAll 5 = .ok (.iload 4, 2) := by decide +kernel
theorem dX1_payOfAll_7 : decode cX1_payOfAll 7 = .ok (.aload_n 0, 1) := by decide +kernel
theorem dX1_payOfAll_8 : decode cX1_payOfAll 8 = .ok (.getfield 17, 3) := by decide +kernel
theorem dX1_payOfAll_11 : decode cX1_payOfAll 11 = .ok (.if_icmp .ge 53, 3) := by decide +kernel
theorem dX1_payOfAll_14 : decode cX1_payOfAll 14 = .ok (.aload_n 0, 1) := by decide +kernel
theorem dX1_payOfAll_15 : decode cX1_payOfAll 15 = .ok (.iload 4, 2) := by decide +kernel
theorem dX1_payOfAll_17 : decode cX1_payOfAll 17 = .ok (.invokevirtual 25, 3) := by decide +kernel
theorem dX1_payOfAll_20 : decode cX1_payOfAll 20 = .ok (.astore 5, 2) := by decide +kernel
theorem dX1_payOfAll_22 : decode cX1_payOfAll 22 = .ok (.aload 5, 2) := by decide +kernel
theorem dX1_payOfAll_24 : decode cX1_payOfAll 24 = .ok (.ifnonnull 7, 3) := by decide +kernel
theorem dX1_payOfAll_27 : decode cX1_payOfAll 27 = .ok (.aconst_null, 1) := by decide +kernel
theorem dX1_payOfAll_28 : decode cX1_payOfAll 28 = .ok (.goto 10, 3) := by decide +kernel
theorem dX1_payOfAll_31 : decode cX1_payOfAll 31 = .ok (.aload 5, 2) := by decide +kernel
theorem dX1_payOfAll_33 : decode cX1_payOfAll 33 = .ok (.iload_n 1, 1) := by decide +kernel
theorem dX1_payOfAll_34 : decode cX1_payOfAll 34 = .ok (.iload_n 2, 1) := by decide +kernel
theorem dX1_payOfAll_35 : decode cX1_payOfAll 35 = .ok (.invokevirtual 35, 3) := by decide +kernel
theorem dX1_payOfAll_38 : decode cX1_payOfAll 38 = .ok (.astore 6, 2) := by decide +kernel
theorem dX1_payOfAll_40 : decode cX1_payOfAll 40 = .ok (.iload_n 3, 1) := by decide +kernel
theorem dX1_payOfAll_41 : decode cX1_payOfAll 41 = .ok (.aload 6, 2) := by decide +kernel
theorem dX1_payOfAll_43 : decode cX1_payOfAll 43 = .ok (.ifnonnull 7, 3) := by decide +kernel
theorem dX1_payOfAll_46 : decode cX1_payOfAll 46 = .ok (.iconst 0, 1) := by decide +kernel
theorem dX1_payOfAll_47 : decode cX1_payOfAll 47 = .ok (.goto 9, 3) := by decide +kernel
theorem dX1_payOfAll_50 : decode cX1_payOfAll 50 = .ok (.aload 6, 2) := by decide +kernel
theorem dX1_payOfAll_52 : decode cX1_payOfAll 52 = .ok (.iconst 4, 1) := by decide +kernel
theorem dX1_payOfAll_53 : decode cX1_payOfAll 53 = .ok (.invokevirtual 41, 3) := by decide +kernel
theorem dX1_payOfAll_56 : decode cX1_payOfAll 56 = .ok (.iadd, 1) := by decide +kernel
theorem dX1_payOfAll_57 : decode cX1_payOfAll 57 = .ok (.istore_n 3, 1) := by decide +kernel
theorem dX1_payOfAll_58 : decode cX1_payOfAll 58 = .ok (.iinc 4 1, 3) := by decide +kernel
theorem dX1_payOfAll_61 : decode cX1_payOfAll 61 = .ok (.goto (-56), 3) := by decide +kernel
theorem dX1_payOfAll_64 : decode cX1_payOfAll 64 = .ok (.iload_n 3, 1) := by decide +kernel
theorem dX1_payOfAll_65 : decode cX1_payOfAll 65 = .ok (.ireturn, 1) := by decide +kernel
theorem dX1_topCount_0 : decode cX1_topCount 0 = .ok (.iconst 0, 1) := by decide +kernel
theorem dX1_topCount_1 : decode cX1_topCount 1 = .ok (.istore_n 1, 1) := by decide +kernel
theorem dX1_topCount_2 : decode cX1_topCount 2 = .ok (.iconst 0, 1) := by decide +kernel
theorem dX1_topCount_3 : decode cX1_topCount 3 = .ok (.istore_n 2, 1) := by decide +kernel
theorem dX1_topCount_4 : decode cX1_topCount 4 = .ok (.iload_n 2, 1) := by decide +kernel
theorem dX1_topCount_5 : decode cX1_topCount 5 = .ok (.aload_n 0, 1) := by decide +kernel
theorem dX1_topCount_6 : decode cX1_topCount 6 = .ok (.getfield 17, 3) := by decide +kernel
theorem dX1_topCount_9 : decode cX1_topCount 9 = .ok (.if_icmp .ge 35, 3) := by decide +kernel
theorem dX1_topCount_12 : decode cX1_topCount 12 = .ok (.aload_n 0, 1) := by decide +kernel
theorem dX1_topCount_13 : decode cX1_topCount 13 = .ok (.iload_n 2, 1) := by decide +kernel
theorem dX1_topCount_14 : decode cX1_topCount 14 = .ok (.invokevirtual 25, 3) := by decide +kernel
theorem dX1_topCount_17 : decode cX1_topCount 17 = .ok (.astore_n 3, 1) := by decide +kernel
theorem dX1_topCount_18 : decode cX1_topCount 18 = .ok (.iload_n 1, 1) := by decide +kernel
theorem dX1_topCount_19 : decode cX1_topCount 19 = .ok (.aload_n 3, 1) := by decide +kernel
theorem dX1_topCount_20 : decode cX1_topCount 20 = .ok (.ifnull 15, 3) := by decide +kernel
theorem dX1_topCount_23 : decode cX1_topCount 23 = .ok (.aload_n 3, 1) := by decide +kernel
theorem dX1_topCount_24 : decode cX1_topCount 24 = .ok (.getfield 47, 3) := by decide +kernel
theorem dX1_topCount_27 : decode cX1_topCount 27 = .ok (.iconst 1, 1) := by decide +kernel
theorem dX1_topCount_28 : decode cX1_topCount 28 = .ok (.if_icmp .ne 7, 3) := by decide +kernel
theorem dX1_topCount_31 : decode cX1_topCount 31 = .ok (.iconst 1, 1) := by decide +kernel
theorem dX1_topCount_32 : decode cX1_topCount 32 = .ok (.goto 4, 3) := by decide +kernel
theorem dX1_topCount_35 : decode cX1_topCount 35 = .ok (.iconst 0, 1) := by decide +kernel
theorem dX1_topCount_36 : decode cX1_topCount 36 = .ok (.iadd, 1) := by decide +kernel
theorem dX1_topCount_37 : decode cX1_topCount 37 = .ok (.istore_n 1, 1) := by decide +kernel
theorem dX1_topCount_38 : decode cX1_topCount 38 = .ok (.iinc 2 1, 3) := by decide +kernel
theorem dX1_topCount_41 : decode cX1_topCount 41 = .ok (.goto (-37), 3) := by decide +kernel
theorem dX1_topCount_44 : decode cX1_topCount 44 = .ok (.iload_n 1, 1) := by decide +kernel
theorem dX1_topCount_45 : decode cX1_topCount 45 = .ok (.ireturn, 1) := by decide +kernel
theorem dX1_drawOfTops_0 : decode cX1_drawOfTops 0 = .ok (.iconst 0, 1) := by decide +kernel
theorem dX1_drawOfTops_1 : decode cX1_drawOfTops 1 = .ok (.istore_n 1, 1) := by decide +kernel
theorem dX1_drawOfTops_2 : decode cX1_drawOfTops 2 = .ok (.iconst 0, 1) := by decide +kernel
theorem dX1_drawOfTops_3 : decode cX1_drawOfTops 3 = .ok (.istore_n 2, 1) := by decide +kernel
theorem dX1_drawOfTops_4 : decode cX1_drawOfTops 4 = .ok (.iload_n 2, 1) := by decide +kernel
theorem dX1_drawOfTops_5 : decode cX1_drawOfTops 5 = .ok (.aload_n 0, 1) := by decide +kernel
theorem dX1_drawOfTops_6 : decode cX1_drawOfTops 6 = .ok (.getfield 17, 3) := by decide +kernel
theorem dX1_drawOfTops_9 : decode cX1_drawOfTops 9 = .ok (.if_icmp .ge 38, 3) := by decide +kernel
theorem dX1_drawOfTops_12 : decode cX1_drawOfTops 12 = .ok (.aload_n 0, 1) := by decide +kernel
theorem dX1_drawOfTops_13 : decode cX1_drawOfTops 13 = .ok (.iload_n 2, 1) := by decide +kernel
theorem dX1_drawOfTops_14 : decode cX1_drawOfTops 14 = .ok (.invokevirtual 25, 3) := by decide +kernel
theorem dX1_drawOfTops_17 : decode cX1_drawOfTops 17 = .ok (.astore_n 3, 1) := by decide +kernel
theorem dX1_drawOfTops_18 : decode cX1_drawOfTops 18 = .ok (.iload_n 1, 1) := by decide +kernel
theorem dX1_drawOfTops_19 : decode cX1_drawOfTops 19 = .ok (.aload_n 3, 1) := by decide +kernel
theorem dX1_drawOfTops_20 : decode cX1_drawOfTops 20 = .ok (.ifnull 18, 3) := by decide +kernel
theorem dX1_drawOfTops_23 : decode cX1_drawOfTops 23 = .ok (.aload_n 3, 1) := by decide +kernel
theorem dX1_drawOfTops_24 : decode cX1_drawOfTops 24 = .ok (.getfield 47, 3) := by decide +kernel
theorem dX1_drawOfTops_27 : decode cX1_drawOfTops 27 = .ok (.iconst 1, 1) := by decide +kernel
theorem dX1_drawOfTops_28 : decode cX1_drawOfTops 28 = .ok (.if_icmp .ne 10, 3) := by decide +kernel
theorem dX1_drawOfTops_31 : decode cX1_drawOfTops 31 = .ok (.aload_n 3, 1) := by decide +kernel
theorem dX1_drawOfTops_32 : decode cX1_drawOfTops 32 = .ok (.getfield 50, 3) := by decide +kernel
theorem dX1_drawOfTops_35 : decode cX1_drawOfTops 35 = .ok (.goto 4, 3) := by decide +kernel
theorem dX1_drawOfTops_38 : decode cX1_drawOfTops 38 = .ok (.iconst 0, 1) := by decide +kernel
theorem dX1_drawOfTops_39 : decode cX1_drawOfTops 39 = .ok (.iadd, 1) := by decide +kernel
theorem dX1_drawOfTops_40 : decode cX1_drawOfTops 40 = .ok (.istore_n 1, 1) := by decide +kernel
theorem dX1_drawOfTops_41 : decode cX1_drawOfTops 41 = .ok (.iinc 2 1, 3) := by decide +kernel
theorem dX1_drawOfTops_44 : decode cX1_drawOfTops 44 = .ok (.goto (-40), 3) := by decide +kernel
theorem dX1_drawOfTops_47 : decode cX1_drawOfTops 47 = .ok (.iload_n 1, 1) := by decide +kernel
theorem dX1_drawOfTops_48 : decode cX1_drawOfTops 48 = .ok (.ireturn, 1) := by decide +kernel
theorem dX1_hasLike_0 : decode cX1_hasLike 0 = .ok (.iconst 0, 1) := by decide +kernel
theorem dX1_hasLike_1 : decode cX1_hasLike 1 = .ok (.istore_n 2, 1) := by decide +kernel
theorem dX1_hasLike_2 : decode cX1_hasLike 2 = .ok (.iload_n 2, 1) := by decide +kernel
theorem dX1_hasLike_3 : decode cX1_hasLike 3 = .ok (.aload_n 0, 1) := by decide +kernel
theorem dX1_hasLike_4 : decode cX1_hasLike 4 = .ok (.getfield 17, 3) := by decide +kernel
theorem dX1_hasLike_7 : decode cX1_hasLike 7 = .ok (.if_icmp .ge 29, 3) := by decide +kernel
theorem dX1_hasLike_10 : decode cX1_hasLike 10 = .ok (.aload_n 0, 1) := by decide +kernel
theorem dX1_hasLike_11 : decode cX1_hasLike 11 = .ok (.iload_n 2, 1) := by decide +kernel
theorem dX1_hasLike_12 : decode cX1_hasLike 12 = .ok (.invokevirtual 25, 3) := by decide +kernel
theorem dX1_hasLike_15 : decode cX1_hasLike 15 = .ok (.astore_n 3, 1) := by decide +kernel
theorem dX1_hasLike_16 : decode cX1_hasLike 16 = .ok (.aload_n 3, 1) := by decide +kernel
theorem dX1_hasLike_17 : decode cX1_hasLike 17 = .ok (.ifnull 13, 3) := by decide +kernel
theorem dX1_hasLike_20 : decode cX1_hasLike 20 = .ok (.aload_n 3, 1) := by decide +kernel
theorem dX1_hasLike_21 : decode cX1_hasLike 21 = .ok (.getfield 53, 3) := by decide +kernel
theorem dX1_hasLike_24 : decode cX1_hasLike 24 = .ok (.iload_n 1, 1) := by decide +kernel
theorem dX1_hasLike_25 : decode cX1_hasLike 25 = .ok (.if_icmp .ne 5, 3) := by decide +kernel
theorem dX1_hasLike_28 : decode cX1_hasLike 28 = .ok (.iconst 1, 1) := by decide +kernel
theorem dX1_hasLike_29 : decode cX1_hasLike 29 = .ok (.ireturn, 1) := by decide +kernel
theorem dX1_hasLike_30 : decode cX1_hasLike 30 = .ok (.iinc 2 1, 3) := by decide +kernel
theorem dX1_hasLike_33 : decode cX1_hasLike 33 = .ok (.goto (-31), 3) := by decide +kernel
theorem dX1_hasLike_36 : decode cX1_hasLike 36 = .ok (.iconst 0, 1) := by decide +kernel
theorem dX1_hasLike_37 : decode cX1_hasLike 37 = .ok (.ireturn, 1) := by decide +kernel
theorem dX1_isApartFrom_0 : decode cX1_isApartFrom 0 = .ok (.iconst 0, 1) := by decide +kernel
theorem dX1_isApartFrom_1 : decode cX1_isApartFrom 1 = .ok (.istore 5, 2) := by decide +kernel
theorem dX1_isApartFrom_3 : decode cX1_isApartFrom 3 = .ok (.iload 5, 2) := by decide +kernel
theorem dX1_isApartFrom_5 : decode cX1_isApartFrom 5 = .ok (.aload_n 0, 1) := by decide +kernel
theorem dX1_isApartFrom_6 : decode cX1_isApartFrom 6 = .ok (.getfield 17, 3) := by decide +kernel
theorem dX1_isApartFrom_9 : decode cX1_isApartFrom 9 = .ok (.if_icmp .ge 72, 3) := by decide +kernel
theorem dX1_isApartFrom_12 : decode cX1_isApartFrom 12 = .ok (.aload_n 0, 1) := by decide +kernel
theorem dX1_isApartFrom_13 : decode cX1_isApartFrom 13 = .ok (.iload 5, 2) := by decide +kernel
theorem dX1_isApartFrom_15 : decode cX1_isApartFrom 15 = .ok (.invokevirtual 25, 3) := by decide +kernel
theorem dX1_isApartFrom_18 : decode cX1_isApartFrom 18 = .ok (.astore 6, 2) := by decide +kernel
theorem dX1_isApartFrom_20 : decode cX1_isApartFrom 20 = .ok (.aload 6, 2) := by decide +kernel
theorem dX1_isApartFrom_22 : decode cX1_isApartFrom 22 = .ok (.ifnonnull 7, 3) := by decide +kernel
theorem dX1_isApartFrom_25 : decode cX1_isApartFrom 25 = .ok (.aconst_null, 1) := by decide +kernel
theorem dX1_isApartFrom_26 : decode cX1_isApartFrom 26 = .ok (.goto 11, 3) := by decide +kernel
theorem dX1_isApartFrom_29 : decode cX1_isApartFrom 29 = .ok (.aload 6, 2) := by decide +kernel
theorem dX1_isApartFrom_31 : decode cX1_isApartFrom 31 = .ok (.iload_n 3, 1) := by decide +kernel
theorem dX1_isApartFrom_32 : decode cX1_isApartFrom 32 = .ok (.iload 4, 2) := by decide +kernel
theorem dX1_isApartFrom_34 : decode cX1_isApartFrom 34 = .ok (.invokevirtual 35, 3) := by decide +kernel
theorem dX1_isApartFrom_37 : decode cX1_isApartFrom 37 = .ok (.astore 7, 2) := by decide +kernel
theorem dX1_isApartFrom_39 : decode cX1_isApartFrom 39 = .ok (.aload 7, 2) := by decide +kernel
theorem dX1_isApartFrom_41 : decode cX1_isApartFrom 41 = .ok (.ifnull 14, 3) := by decide +kernel
theorem dX1_isApartFrom_44 : decode cX1_isApartFrom 44 = .ok (.aload 7, 2) := by decide +kernel
theorem dX1_isApartFrom_46 : decode cX1_isApartFrom 46 = .ok (.aload_n 1, 1) := by decide +kernel
theorem dX1_isApartFrom_47 : decode cX1_isApartFrom 47 = .ok (.invokevirtual 56, 3) := by decide +kernel
theorem dX1_isApartFrom_50 : decode cX1_isApartFrom 50 = .ok (.ifCond .eq 5, 3) := by decide +kernel
theorem dX1_isApartFrom_53 : decode cX1_isApartFrom 53 = .ok (.iconst 1, 1) := by decide +kernel
theorem dX1_isApartFrom_54 : decode cX1_isApartFrom 54 = .ok (.ireturn, 1) := by decide +kernel
theorem dX1_isApartFrom_55 : decode cX1_isApartFrom 55 = .ok (.aload 6, 2) := by decide +kernel
theorem dX1_isApartFrom_57 : decode cX1_isApartFrom 57 = .ok (.ifnull 18, 3) := by decide +kernel
theorem dX1_isApartFrom_60 : decode cX1_isApartFrom 60 = .ok (.aload_n 2, 1) := by decide +kernel
theorem dX1_isApartFrom_61 : decode cX1_isApartFrom 61 = .ok (.ifnull 14, 3) := by decide +kernel
theorem dX1_isApartFrom_64 : decode cX1_isApartFrom 64 = .ok (.aload_n 2, 1) := by decide +kernel
theorem dX1_isApartFrom_65 : decode cX1_isApartFrom 65 = .ok (.aload 6, 2) := by decide +kernel
theorem dX1_isApartFrom_67 : decode cX1_isApartFrom 67 = .ok (.invokevirtual 56, 3) := by decide +kernel
theorem dX1_isApartFrom_70 : decode cX1_isApartFrom 70 = .ok (.ifCond .eq 5, 3) := by decide +kernel
theorem dX1_isApartFrom_73 : decode cX1_isApartFrom 73 = .ok (.iconst 1, 1) := by decide +kernel
theorem dX1_isApartFrom_74 : decode cX1_isApartFrom 74 = .ok (.ireturn, 1) := by decide +kernel
theorem dX1_isApartFrom_75 : decode cX1_isApartFrom 75 = .ok (.iinc 5 1, 3) := by decide +kernel
theorem dX1_isApartFrom_78 : decode cX1_isApartFrom 78 = .ok (.goto (-75), 3) := by decide +kernel
theorem dX1_isApartFrom_81 : decode cX1_isApartFrom 81 = .ok (.iconst 0, 1) := by decide +kernel
theorem dX1_isApartFrom_82 : decode cX1_isApartFrom 82 = .ok (.ireturn, 1) := by decide +kernel
theorem dX2_init_0 : decode cX2_init 0 = .ok (.aload_n 0, 1) := by decide +kernel
theorem dX2_init_1 : decode cX2_init 1 = .ok (.invokespecial 1, 3) := by decide +kernel
theorem dX2_init_4 : decode cX2_init 4 = .ok (.aload_n 0, 1) := by decide +kernel
theorem dX2_init_5 : decode cX2_init 5 = .ok (.iload_n 1, 1) := by decide +kernel
theorem dX2_init_6 : decode cX2_init 6 = .ok (.putfield 7, 3) := by decide +kernel
theorem dX2_init_9 : decode cX2_init 9 = .ok (.aload_n 0, 1) := by decide +kernel
theorem dX2_init_10 : decode cX2_init 10 = .ok (.iload_n 2, 1) := by decide +kernel
theorem dX2_init_11 : decode cX2_init 11 = .ok (.putfield 13, 3) := by decide +kernel
theorem dX2_init_14 : decode cX2_init 14 = .ok (.aload_n 0, 1) := by decide +kernel
theorem dX2_init_15 : decode cX2_init 15 = .ok (.iload_n 3, 1) := by decide +kernel
theorem dX2_init_16 : decode cX2_init 16 = .ok (.putfield 16, 3) := by decide +kernel
theorem dX2_init_19 : decode cX2_init 19 = .ok (.aload_n 0, 1) := by decide +kernel
theorem dX2_init_20 : decode cX2_init 20 = .ok (.aload 4, 2) := by decide +kernel
theorem dX2_init_22 : decode cX2_init 22 = .ok (.putfield 19, 3) := by decide +kernel
theorem dX2_init_25 : decode cX2_init 25 = .ok (.aload_n 0, 1) := by decide +kernel
theorem dX2_init_26 : decode cX2_init 26 = .ok (.aload 5, 2) := by decide +kernel
theorem dX2_init_28 : decode cX2_init 28 = .ok (.putfield 23, 3) := by decide +kernel
theorem dX2_init_31 : decode cX2_init 31 = .ok (.return_, 1) := by decide +kernel
theorem dX2_lastNumber_0 : decode cX2_lastNumber 0 = .ok (.aload_n 0, 1) := by decide +kernel
theorem dX2_lastNumber_1 : decode cX2_lastNumber 1 = .ok (.getfield 19, 3) := by decide +kernel
theorem dX2_lastNumber_4 : decode cX2_lastNumber 4 = .ok (.astore_n 2, 1) := by decide +kernel
theorem dX2_lastNumber_5 : decode cX2_lastNumber 5 = .ok (.aload_n 2, 1) := by decide +kernel
theorem dX2_lastNumber_6 : decode cX2_lastNumber 6 = .ok (.ifnull 24, 3) := by decide +kernel
theorem dX2_lastNumber_9 : decode cX2_lastNumber 9 = .ok (.aload_n 2, 1) := by decide +kernel
theorem dX2_lastNumber_10 : decode cX2_lastNumber 10 = .ok (.getfield 27, 3) := by decide +kernel
theorem dX2_lastNumber_13 : decode cX2_lastNumber 13 = .ok (.iload_n 1, 1) := by decide +kernel
theorem dX2_lastNumber_14 : decode cX2_lastNumber 14 = .ok (.if_icmp .ne 8, 3) := by decide +kernel
theorem dX2_lastNumber_17 : decode cX2_lastNumber 17 = .ok (.aload_n 2, 1) := by decide +kernel
theorem dX2_lastNumber_18 : decode cX2_lastNumber 18 = .ok (.getfield 32, 3) := by decide +kernel
theorem dX2_lastNumber_21 : decode cX2_lastNumber 21 = .ok (.ireturn, 1) := by decide +kernel
theorem dX2_lastNumber_22 : decode cX2_lastNumber 22 = .ok (.aload_n 2, 1) := by decide +kernel
theorem dX2_lastNumber_23 : decode cX2_lastNumber 23 = .ok (.getfield 33, 3) := by decide +kernel
theorem dX2_lastNumber_26 : decode cX2_lastNumber 26 = .ok (.astore_n 2, 1) := by decide +kernel
theorem dX2_lastNumber_27 : decode cX2_lastNumber 27 = .ok (.goto (-22), 3) := by decide +kernel
theorem dX2_lastNumber_30 : decode cX2_lastNumber 30 = .ok (.iconst 0, 1) := by decide +kernel
theorem dX2_lastNumber_31 : decode cX2_lastNumber 31 = .ok (.ireturn, 1) := by decide +kernel
theorem dX2_isNeverIn_0 : decode cX2_isNeverIn 0 = .ok (.aload_n 0, 1) := by decide +kernel
theorem dX2_isNeverIn_1 : decode cX2_isNeverIn 1 = .ok (.iconst 3, 1) := by decide +kernel
theorem dX2_isNeverIn_2 : decode cX2_isNeverIn 2 = .ok (.aload_n 1, 1) := by decide +kernel
theorem dX2_isNeverIn_3 : decode cX2_isNeverIn 3 = .ok (.getfield 35, 3) := by decide +kernel
theorem dX2_isNeverIn_6 : decode cX2_isNeverIn 6 = .ok (.invokevirtual 38, 3) := by decide +kernel
theorem dX2_isNeverIn_9 : decode cX2_isNeverIn 9 = .ok (.ireturn, 1) := by decide +kernel
theorem dX2_isApartFrom_0 : decode cX2_isApartFrom 0 = .ok (.aload_n 0, 1) := by decide +kernel
theorem dX2_isApartFrom_1 : decode cX2_isApartFrom 1 = .ok (.iconst 1, 1) := by decide +kernel
theorem dX2_isApartFrom_2 : decode cX2_isApartFrom 2 = .ok (.aload_n 1, 1) := by decide +kernel
theorem dX2_isApartFrom_3 : decode cX2_isApartFrom 3 = .ok (.getfield 42, 3) := by decide +kernel
theorem dX2_isApartFrom_6 : decode cX2_isApartFrom 6 = .ok (.invokevirtual 38, 3) := by decide +kernel
theorem dX2_isApartFrom_9 : decode cX2_isApartFrom 9 = .ok (.ifCond .ne 15, 3) := by decide +kernel
theorem dX2_isApartFrom_12 : decode cX2_isApartFrom 12 = .ok (.aload_n 0, 1) := by decide +kernel
theorem dX2_isApartFrom_13 : decode cX2_isApartFrom 13 = .ok (.iconst 2, 1) := by decide +kernel
theorem dX2_isApartFrom_14 : decode cX2_isApartFrom 14 = .ok (.aload_n 1, 1) := by decide +kernel
theorem dX2_isApartFrom_15 : decode cX2_isApartFrom 15 = .ok (.getfield 47, 3) := by decide +kernel
theorem dX2_isApartFrom_18 : decode cX2_isApartFrom 18 = .ok (.invokevirtual 38, 3) := by decide +kernel
theorem dX2_isApartFrom_21 : decode cX2_isApartFrom 21 = .ok (.ifCond .eq 7, 3) := by decide +kernel
theorem dX2_isApartFrom_24 : decode cX2_isApartFrom 24 = .ok (.iconst 1, 1) := by decide +kernel
theorem dX2_isApartFrom_25 : decode cX2_isApartFrom 25 = .ok (.goto 4, 3) := by decide +kernel
theorem dX2_isApartFrom_28 : decode cX2_isApartFrom 28 = .ok (.iconst 0, 1) := by decide +kernel
theorem dX2_isApartFrom_29 : decode cX2_isApartFrom 29 = .ok (.ireturn, 1) := by decide +kernel
theorem dX2_hasBar_0 : decode cX2_hasBar 0 = .ok (.aload_n 0, 1) := by decide +kernel
theorem dX2_hasBar_1 : decode cX2_hasBar 1 = .ok (.getfield 19, 3) := by decide +kernel
theorem dX2_hasBar_4 : decode cX2_hasBar 4 = .ok (.astore_n 3, 1) := by decide +kernel
theorem dX2_hasBar_5 : decode cX2_hasBar 5 = .ok (.aload_n 3, 1) := by decide +kernel
theorem dX2_hasBar_6 : decode cX2_hasBar 6 = .ok (.ifnull 36, 3) := by decide +kernel
theorem dX2_hasBar_9 : decode cX2_hasBar 9 = .ok (.aload_n 3, 1) := by decide +kernel
theorem dX2_hasBar_10 : decode cX2_hasBar 10 = .ok (.getfield 27, 3) := by decide +kernel
theorem dX2_hasBar_13 : decode cX2_hasBar 13 = .ok (.ifCond .ne 21, 3) := by decide +kernel
theorem dX2_hasBar_16 : decode cX2_hasBar 16 = .ok (.iload_n 1, 1) := by decide +kernel
theorem dX2_hasBar_17 : decode cX2_hasBar 17 = .ok (.aload_n 3, 1) := by decide +kernel
theorem dX2_hasBar_18 : decode cX2_hasBar 18 = .ok (.getfield 32, 3) := by decide +kernel
theorem dX2_hasBar_21 : decode cX2_hasBar 21 = .ok (.if_icmp .ge 13, 3) := by decide +kernel
theorem dX2_hasBar_24 : decode cX2_hasBar 24 = .ok (.iload_n 2, 1) := by decide +kernel
theorem dX2_hasBar_25 : decode cX2_hasBar 25 = .ok (.aload_n 3, 1) := by decide +kernel
theorem dX2_hasBar_26 : decode cX2_hasBar 26 = .ok (.getfield 48, 3) := by decide +kernel
theorem dX2_hasBar_29 : decode cX2_hasBar 29 = .ok (.if_icmp .gt 5, 3) := by decide +kernel
theorem dX2_hasBar_32 : decode cX2_hasBar 32 = .ok (.iconst 1, 1) := by decide +kernel
theorem dX2_hasBar_33 : decode cX2_hasBar 33 = .ok (.ireturn, 1) := by decide +kernel
theorem dX2_hasBar_34 : decode cX2_hasBar 34 = .ok (.aload_n 3, 1) := by decide +kernel
theorem dX2_hasBar_35 : decode cX2_hasBar 35 = .ok (.getfield 33, 3) := by decide +kernel
theorem dX2_hasBar_38 : decode cX2_hasBar 38 = .ok (.astore_n 3, 1) := by decide +kernel
theorem dX2_hasBar_39 : decode cX2_hasBar 39 = .ok (.goto (-34), 3) := by decide +kernel
theorem dX2_hasBar_42 : decode cX2_hasBar 42 = .ok (.iconst 0, 1) := by decide +kernel
theorem dX2_hasBar_43 : decode cX2_hasBar 43 = .ok (.ireturn, 1) := by decide +kernel
theorem dX2_tells_0 : decode cX2_tells 0 = .ok (.aload_n 0, 1) := by decide +kernel
theorem dX2_tells_1 : decode cX2_tells 1 = .ok (.getfield 19, 3) := by decide +kernel
theorem dX2_tells_4 : decode cX2_tells 4 = .ok (.astore_n 3, 1) := by decide +kernel
theorem dX2_tells_5 : decode cX2_tells 5 = .ok (.aload_n 3, 1) := by decide +kernel
theorem dX2_tells_6 : decode cX2_tells 6 = .ok (.ifnull 29, 3) := by decide +kernel
theorem dX2_tells_9 : decode cX2_tells 9 = .ok (.aload_n 3, 1) := by decide +kernel
theorem dX2_tells_10 : decode cX2_tells 10 = .ok (.getfield 27, 3) := by decide +kernel
theorem dX2_tells_13 : decode cX2_tells 13 = .ok (.iload_n 1, 1) := by decide +kernel
theorem dX2_tells_14 : decode cX2_tells 14 = .ok (.if_icmp .ne 13, 3) := by decide +kernel
theorem dX2_tells_17 : decode cX2_tells 17 = .ok (.aload_n 3, 1) := by decide +kernel
theorem dX2_tells_18 : decode cX2_tells 18 = .ok (.getfield 32, 3) := by decide +kernel
theorem dX2_tells_21 : decode cX2_tells 21 = .ok (.iload_n 2, 1) := by decide +kernel
theorem dX2_tells_22 : decode cX2_tells 22 = .ok (.if_icmp .ne 5, 3) := by decide +kernel
theorem dX2_tells_25 : decode cX2_tells 25 = .ok (.iconst 1, 1) := by decide +kernel
theorem dX2_tells_26 : decode cX2_tells 26 = .ok (.ireturn, 1) := by decide +kernel
theorem dX2_tells_27 : decode cX2_tells 27 = .ok (.aload_n 3, 1) := by decide +kernel
theorem dX2_tells_28 : decode cX2_tells 28 = .ok (.getfield 33, 3) := by decide +kernel
theorem dX2_tells_31 : decode cX2_tells 31 = .ok (.astore_n 3, 1) := by decide +kernel
theorem dX2_tells_32 : decode cX2_tells 32 = .ok (.goto (-27), 3) := by decide +kernel
theorem dX2_tells_35 : decode cX2_tells 35 = .ok (.iconst 0, 1) := by decide +kernel
theorem dX2_tells_36 : decode cX2_tells 36 = .ok (.ireturn, 1) := by decide +kernel
theorem dX3_init_0 : decode cX3_init 0 = .ok (.aload_n 0, 1) := by decide +kernel
theorem dX3_init_1 : decode cX3_init 1 = .ok (.invokespecial 3, 3) := by decide +kernel
theorem dX3_init_4 : decode cX3_init 4 = .ok (.aload_n 0, 1) := by decide +kernel
theorem dX3_init_5 : decode cX3_init 5 = .ok (.aload_n 1, 1) := by decide +kernel
theorem dX3_init_6 : decode cX3_init 6 = .ok (.putfield 9, 3) := by decide +kernel
theorem dX3_init_9 : decode cX3_init 9 = .ok (.aload_n 0, 1) := by decide +kernel
theorem dX3_init_10 : decode cX3_init 10 = .ok (.iload_n 2, 1) := by decide +kernel
theorem dX3_init_11 : decode cX3_init 11 = .ok (.aload_n 1, 1) := by decide +kernel
theorem dX3_init_12 : decode cX3_init 12 = .ok (.arraylength, 1) := by decide +kernel
theorem dX3_init_13 : decode cX3_init 13 = .ok (.invokestatic 15, 3) := by decide +kernel
theorem dX3_init_16 : decode cX3_init 16 = .ok (.putfield 21, 3) := by decide +kernel
theorem dX3_init_19 : decode cX3_init 19 = .ok (.return_, 1) := by decide +kernel
theorem dX3_readText_0 : decode cX3_readText 0 = .ok (.iconst 0, 1) := by decide +kernel
theorem dX3_readText_1 : decode cX3_readText 1 = .ok (.istore_n 1, 1) := by decide +kernel
theorem dX3_readText_2 : decode cX3_readText 2 = .ok (.iload_n 1, 1) := by decide +kernel
theorem dX3_readText_3 : decode cX3_readText 3 = .ok (.bipush 12, 2) := by decide +kernel
theorem dX3_readText_5 : decode cX3_readText 5 = .ok (.if_icmp .gt 41, 3) := by decide +kernel
theorem dX3_readText_8 : decode cX3_readText 8 = .ok (.aload_n 0, 1) := by decide +kernel
theorem dX3_readText_9 : decode cX3_readText 9 = .ok (.invokevirtual 25, 3) := by decide +kernel
theorem dX3_readText_12 : decode cX3_readText 12 = .ok (.aload_n 0, 1) := by decide +kernel
theorem dX3_readText_13 : decode cX3_readText 13 = .ok (.getfield 28, 3) := by decide +kernel
theorem dX3_readText_16 : decode cX3_readText 16 = .ok (.aload_n 0, 1) := by decide +kernel
theorem dX3_readText_17 : decode cX3_readText 17 = .ok (.getfield 21, 3) := by decide +kernel
theorem dX3_readText_20 : decode cX3_readText 20 = .ok (.if_icmp .lt 5, 3) := by decide +kernel
theorem dX3_readText_23 : decode cX3_readText 23 = .ok (.iconst 1, 1) := by decide +kernel
theorem dX3_readText_24 : decode cX3_readText 24 = .ok (.ireturn, 1) := by decide +kernel
theorem dX3_readText_25 : decode cX3_readText 25 = .ok (.iload_n 1, 1) := by decide +kernel
theorem dX3_readText_26 : decode cX3_readText 26 = .ok (.bipush 12, 2) := by decide +kernel
theorem dX3_readText_28 : decode cX3_readText 28 = .ok (.if_icmp .eq 10, 3) := by decide +kernel
theorem dX3_readText_31 : decode cX3_readText 31 = .ok (.aload_n 0, 1) := by decide +kernel
theorem dX3_readText_32 : decode cX3_readText 32 = .ok (.invokevirtual 31, 3) := by decide +kernel
theorem dX3_readText_35 : decode cX3_readText 35 = .ok (.ifCond .ne 5, 3) := by decide +kernel
theorem dX3_readText_38 : decode cX3_readText 38 = .ok (.iconst 0, 1) := by decide +kernel
theorem dX3_readText_39 : decode cX3_readText 39 = .ok (.ireturn, 1) := by decide +kernel
theorem dX3_readText_40 : decode cX3_readText 40 = .ok (.iinc 1 1, 3) := by decide +kernel
theorem dX3_readText_43 : decode cX3_readText 43 = .ok (.goto (-41), 3) := by decide +kernel
theorem dX3_readText_46 : decode cX3_readText 46 = .ok (.iconst 0, 1) := by decide +kernel
theorem dX3_readText_47 : decode cX3_readText 47 = .ok (.ireturn, 1) := by decide +kernel
theorem dX3_readStatement_0 : decode cX3_readStatement 0 = .ok (.aload_n 0, 1) := by decide +kernel
theorem dX3_readStatement_1 : decode cX3_readStatement 1 = .ok (.invokevirtual 35, 3) := by decide +kernel
theorem dX3_readStatement_4 : decode cX3_readStatement 4 = .ok (.istore_n 1, 1) := by decide +kernel
theorem dX3_readStatement_5 : decode cX3_readStatement 5 = .ok (.iload_n 1, 1) := by decide +kernel
theorem dX3_readStatement_6 : decode cX3_readStatement 6 = .ok (.iconst (-1), 1) := by decide +kernel
theorem dX3_readStatement_7 : decode cX3_readStatement 7 = .ok (.if_icmp .ne 7, 3) := by decide +kernel
theorem dX3_readStatement_10 : decode cX3_readStatement 10 = .ok (.iconst (-1), 1) := by decide +kernel
theorem dX3_readStatement_11 : decode cX3_readStatement 11 = .ok (.goto 7, 3) := by decide +kernel
theorem dX3_readStatement_14 : decode cX3_readStatement 14 = .ok (.aload_n 0, 1) := by decide +kernel
theorem dX3_readStatement_15 : decode cX3_readStatement 15 = .ok (.invokevirtual 39, 3) := by decide +kernel
theorem dX3_readStatement_18 : decode cX3_readStatement 18 = .ok (.istore_n 2, 1) := by decide +kernel
theorem dX3_readStatement_19 : decode cX3_readStatement 19 = .ok (.iload_n 2, 1) := by decide +kernel
theorem dX3_readStatement_20 : decode cX3_readStatement 20 = .ok (.iconst (-1), 1) := by decide +kernel
theorem dX3_readStatement_21 : decode cX3_readStatement 21 = .ok (.if_icmp .ne 5, 3) := by decide +kernel
theorem dX3_readStatement_24 : decode cX3_readStatement 24 = .ok (.iconst 0, 1) := by decide +kernel
theorem dX3_readStatement_25 : decode cX3_readStatement 25 = .ok (.ireturn, 1) := by decide +kernel
theorem dX3_readStatement_26 : decode cX3_readStatement 26 = .ok (.iconst 0, 1) := by decide +kernel
theorem dX3_readStatement_27 : decode cX3_readStatement 27 = .ok (.istore_n 3, 1) := by decide +kernel
theorem dX3_readStatement_28 : decode cX3_readStatement 28 = .ok (.iload_n 1, 1) := by decide +kernel
theorem dX3_readStatement_29 : decode cX3_readStatement 29 = .ok (.ifCond .ne 21, 3) := by decide +kernel
theorem dX3_readStatement_32 : decode cX3_readStatement 32 = .ok (.aload_n 0, 1) := by decide +kernel
theorem dX3_readStatement_33 : decode cX3_readStatement 33 = .ok (.ldc 42, 2) := by decide +kernel
theorem dX3_readStatement_35 : decode cX3_readStatement 35 = .ok (.invokevirtual 44, 3) := by decide +kernel
theorem dX3_readStatement_38 : decode cX3_readStatement 38 = .ok (.ifCond .eq 10, 3) := by decide +kernel
theorem dX3_readStatement_41 : decode cX3_readStatement 41 = .ok (.aload_n 0, 1) := by decide +kernel
theorem dX3_readStatement_42 : decode cX3_readStatement 42 = .ok (.invokevirtual 39, 3) := by decide +kernel
theorem dX3_readStatement_45 : decode cX3_readStatement 45 = .ok (.goto 4, 3) := by decide +kernel
theorem dX3_readStatement_48 : decode cX3_readStatement 48 = .ok (.iconst (-1), 1) := by decide +kernel
theorem dX3_readStatement_49 : decode cX3_readStatement 49 = .ok (.istore_n 3, 1) := by decide +kernel
theorem dX3_readStatement_50 : decode cX3_readStatement 50 = .ok (.iload_n 3, 1) := by decide +kernel
theorem dX3_readStatement_51 : decode cX3_readStatement 51 = .ok (.iconst (-1), 1) := by decide +kernel
theorem dX3_readStatement_52 : decode cX3_readStatement 52 = .ok (.if_icmp .eq 12, 3) := by decide +kernel
theorem dX3_readStatement_55 : decode cX3_readStatement 55 = .ok (.aload_n 0, 1) := by decide +kernel
theorem dX3_readStatement_56 : decode cX3_readStatement 56 = .ok (.ldc 48, 2) := by decide +kernel
theorem dX3_readStatement_58 : decode cX3_readStatement 58 = .ok (.invokevirtual 44, 3) := by decide +kernel
theorem dX3_readStatement_61 : decode cX3_readStatement 61 = .ok (.ifCond .ne 5, 3) := by decide +kernel
theorem dX3_readStatement_64 : decode cX3_readStatement 64 = .ok (.iconst 0, 1) := by decide +kernel
theorem dX3_readStatement_65 : decode cX3_readStatement 65 = .ok (.ireturn, 1) := by decide +kernel
theorem dX3_readStatement_66 : decode cX3_readStatement 66 = .ok (.aload_n 0, 1) := by decide +kernel
theorem dX3_readStatement_67 : decode cX3_readStatement 67 = .ok (.new 50, 3) := by decide +kernel
theorem dX3_readStatement_70 : decode cX3_readStatement 70 = .ok (.dup, 1) := by decide +kernel
theorem dX3_readStatement_71 : decode cX3_readStatement 71 = .ok (.iload_n 1, 1) := by decide +kernel
theorem dX3_readStatement_72 : decode cX3_readStatement 72 = .ok (.iload_n 2, 1) := by decide +kernel
theorem dX3_readStatement_73 : decode cX3_readStatement 73 = .ok (.iload_n 3, 1) := by decide +kernel
theorem dX3_readStatement_74 : decode cX3_readStatement 74 = .ok (.aload_n 0, 1) := by decide +kernel
theorem dX3_readStatement_75 : decode cX3_readStatement 75 = .ok (.getfield 52, 3) := by decide +kernel
theorem dX3_readStatement_78 : decode cX3_readStatement 78 = .ok (.invokespecial 56, 3) := by decide +kernel
theorem dX3_readStatement_81 : decode cX3_readStatement 81 = .ok (.putfield 52, 3) := by decide +kernel
theorem dX3_readStatement_84 : decode cX3_readStatement 84 = .ok (.iconst 1, 1) := by decide +kernel
theorem dX3_readStatement_85 : decode cX3_readStatement 85 = .ok (.ireturn, 1) := by decide +kernel
theorem dX3_readOpening_0 : decode cX3_readOpening 0 = .ok (.aload_n 0, 1) := by decide +kernel
theorem dX3_readOpening_1 : decode cX3_readOpening 1 = .ok (.ldc 59, 2) := by decide +kernel
theorem dX3_readOpening_3 : decode cX3_readOpening 3 = .ok (.invokevirtual 61, 3) := by decide +kernel
theorem dX3_readOpening_6 : decode cX3_readOpening 6 = .ok (.ifCond .eq 5, 3) := by decide +kernel
theorem dX3_readOpening_9 : decode cX3_readOpening 9 = .ok (.iconst 0, 1) := by decide +kernel
theorem dX3_readOpening_10 : decode cX3_readOpening 10 = .ok (.ireturn, 1) := by decide +kernel
theorem dX3_readOpening_11 : decode cX3_readOpening 11 = .ok (.aload_n 0, 1) := by decide +kernel
theorem dX3_readOpening_12 : decode cX3_readOpening 12 = .ok (.ldc 64, 2) := by decide +kernel
theorem dX3_readOpening_14 : decode cX3_readOpening 14 = .ok (.invokevirtual 61, 3) := by decide +kernel
theorem dX3_readOpening_17 : decode cX3_readOpening 17 = .ok (.ifCond .eq 5, 3) := by decide +kernel
theorem dX3_readOpening_20 : decode cX3_readOpening 20 = .ok (.iconst 4, 1) := by decide +kernel
theorem dX3_readOpening_21 : decode cX3_readOpening 21 = .ok (.ireturn, 1) := by decide +kernel
theorem dX3_readOpening_22 : decode cX3_readOpening 22 = .ok (.aload_n 0, 1) := by decide +kernel
theorem dX3_readOpening_23 : decode cX3_readOpening 23 = .ok (.ldc 66, 2) := by decide +kernel
theorem dX3_readOpening_25 : decode cX3_readOpening 25 = .ok (.invokevirtual 61, 3) := by decide +kernel
theorem dX3_readOpening_28 : decode cX3_readOpening 28 = .ok (.ifCond .eq 5, 3) := by decide +kernel
theorem dX3_readOpening_31 : decode cX3_readOpening 31 = .ok (.iconst 5, 1) := by decide +kernel
theorem dX3_readOpening_32 : decode cX3_readOpening 32 = .ok (.ireturn, 1) := by decide +kernel
theorem dX3_readOpening_33 : decode cX3_readOpening 33 = .ok (.aload_n 0, 1) := by decide +kernel
theorem dX3_readOpening_34 : decode cX3_readOpening 34 = .ok (.ldc 68, 2) := by decide +kernel
theorem dX3_readOpening_36 : decode cX3_readOpening 36 = .ok (.invokevirtual 61, 3) := by decide +kernel
theorem dX3_readOpening_39 : decode cX3_readOpening 39 = .ok (.ifCond .eq 18, 3) := by decide +kernel
theorem dX3_readOpening_42 : decode cX3_readOpening 42 = .ok (.aload_n 0, 1) := by decide +kernel
theorem dX3_readOpening_43 : decode cX3_readOpening 43 = .ok (.ldc 70, 2) := by decide +kernel
theorem dX3_readOpening_45 : decode cX3_readOpening 45 = .ok (.invokevirtual 44, 3) := by decide +kernel
theorem dX3_readOpening_48 : decode cX3_readOpening 48 = .ok (.ifCond .eq 7, 3) := by decide +kernel
theorem dX3_readOpening_51 : decode cX3_readOpening 51 = .ok (.iconst 3, 1) := by decide +kernel
theorem dX3_readOpening_52 : decode cX3_readOpening 52 = .ok (.goto 4, 3) := by decide +kernel
theorem dX3_readOpening_55 : decode cX3_readOpening 55 = .ok (.iconst (-1), 1) := by decide +kernel
theorem dX3_readOpening_56 : decode cX3_readOpening 56 = .ok (.ireturn, 1) := by decide +kernel
theorem dX3_readOpening_57 : decode cX3_readOpening 57 = .ok (.aload_n 0, 1) := by decide +kernel
theorem dX3_readOpening_58 : decode cX3_readOpening 58 = .ok (.ldc 72, 2) := by decide +kernel
theorem dX3_readOpening_60 : decode cX3_readOpening 60 = .ok (.invokevirtual 61, 3) := by decide +kernel
theorem dX3_readOpening_63 : decode cX3_readOpening 63 = .ok (.ifCond .ne 5, 3) := by decide +kernel
theorem dX3_readOpening_66 : decode cX3_readOpening 66 = .ok (.iconst (-1), 1) := by decide +kernel
theorem dX3_readOpening_67 : decode cX3_readOpening 67 = .ok (.ireturn, 1) := by decide +kernel
theorem dX3_readOpening_68 : decode cX3_readOpening 68 = .ok (.aload_n 0, 1) := by decide +kernel
theorem dX3_readOpening_69 : decode cX3_readOpening 69 = .ok (.ldc 74, 2) := by decide +kernel
theorem dX3_readOpening_71 : decode cX3_readOpening 71 = .ok (.invokevirtual 44, 3) := by decide +kernel
theorem dX3_readOpening_74 : decode cX3_readOpening 74 = .ok (.ifCond .eq 5, 3) := by decide +kernel
theorem dX3_readOpening_77 : decode cX3_readOpening 77 = .ok (.iconst 1, 1) := by decide +kernel
theorem dX3_readOpening_78 : decode cX3_readOpening 78 = .ok (.ireturn, 1) := by decide +kernel
theorem dX3_readOpening_79 : decode cX3_readOpening 79 = .ok (.aload_n 0, 1) := by decide +kernel
theorem dX3_readOpening_80 : decode cX3_readOpening 80 = .ok (.ldc 76, 2) := by decide +kernel
theorem dX3_readOpening_82 : decode cX3_readOpening 82 = .ok (.invokevirtual 61, 3) := by decide +kernel
theorem dX3_readOpening_85 : decode cX3_readOpening 85 = .ok (.ifCond .eq 7, 3) := by decide +kernel
theorem dX3_readOpening_88 : decode cX3_readOpening 88 = .ok (.iconst 2, 1) := by decide +kernel
theorem dX3_readOpening_89 : decode cX3_readOpening 89 = .ok (.goto 4, 3) := by decide +kernel
theorem dX3_readOpening_92 : decode cX3_readOpening 92 = .ok (.iconst (-1), 1) := by decide +kernel
theorem dX3_readOpening_93 : decode cX3_readOpening 93 = .ok (.ireturn, 1) := by decide +kernel
theorem dX3_stepTo_0 : decode cX3_stepTo 0 = .ok (.aload_n 0, 1) := by decide +kernel
theorem dX3_stepTo_1 : decode cX3_stepTo 1 = .ok (.invokevirtual 25, 3) := by decide +kernel
theorem dX3_stepTo_4 : decode cX3_stepTo 4 = .ok (.aload_n 0, 1) := by decide +kernel
theorem dX3_stepTo_5 : decode cX3_stepTo 5 = .ok (.aload_n 1, 1) := by decide +kernel
theorem dX3_stepTo_6 : decode cX3_stepTo 6 = .ok (.invokevirtual 61, 3) := by decide +kernel
theorem dX3_stepTo_9 : decode cX3_stepTo 9 = .ok (.ireturn, 1) := by decide +kernel
theorem dX3_stepToNumber_0 : decode cX3_stepToNumber 0 = .ok (.aload_n 0, 1) := by decide +kernel
theorem dX3_stepToNumber_1 : decode cX3_stepToNumber 1 = .ok (.invokevirtual 25, 3) := by decide +kernel
theorem dX3_stepToNumber_4 : decode cX3_stepToNumber 4 = .ok (.aload_n 0, 1) := by decide +kernel
theorem dX3_stepToNumber_5 : decode cX3_stepToNumber 5 = .ok (.aload_n 0, 1) := by decide +kernel
theorem dX3_stepToNumber_6 : decode cX3_stepToNumber 6 = .ok (.getfield 28, 3) := by decide +kernel
theorem dX3_stepToNumber_9 : decode cX3_stepToNumber 9 = .ok (.invokevirtual 78, 3) := by decide +kernel
theorem dX3_stepToNumber_12 : decode cX3_stepToNumber 12 = .ok (.ifCond .eq 16, 3) := by decide +kernel
theorem dX3_stepToNumber_15 : decode cX3_stepToNumber 15 = .ok (.aload_n 0, 1) := by decide +kernel
theorem dX3_stepToNumber_16 : decode cX3_stepToNumber 16 = .ok (.getfield 82, 3) := by decide +kernel
theorem dX3_stepToNumber_19 : decode cX3_stepToNumber 19 = .ok (.aload_n 0, 1) := by decide +kernel
theorem dX3_stepToNumber_20 : decode cX3_stepToNumber 20 = .ok (.getfield 28, 3) := by decide +kernel
theorem dX3_stepToNumber_23 : decode cX3_stepToNumber 23 = .ok (.isub, 1) := by decide +kernel
theorem dX3_stepToNumber_24 : decode cX3_stepToNumber 24 = .ok (.iconst 3, 1) := by decide +kernel
theorem dX3_stepToNumber_25 : decode cX3_stepToNumber 25 = .ok (.if_icmp .le 5, 3) := by decide +kernel
theorem dX3_stepToNumber_28 : decode cX3_stepToNumber 28 = .ok (.iconst (-1), 1) := by decide +kernel
theorem dX3_stepToNumber_29 : decode cX3_stepToNumber 29 = .ok (.ireturn, 1) := by decide +kernel
theorem dX3_stepToNumber_30 : decode cX3_stepToNumber 30 = .ok (.iconst 0, 1) := by decide +kernel
theorem dX3_stepToNumber_31 : decode cX3_stepToNumber 31 = .ok (.istore_n 1, 1) := by decide +kernel
theorem dX3_stepToNumber_32 : decode cX3_stepToNumber 32 = .ok (.aload_n 0, 1) := by decide +kernel
theorem dX3_stepToNumber_33 : decode cX3_stepToNumber 33 = .ok (.getfield 28, 3) := by decide +kernel
theorem dX3_stepToNumber_36 : decode cX3_stepToNumber 36 = .ok (.istore_n 2, 1) := by decide +kernel
theorem dX3_stepToNumber_37 : decode cX3_stepToNumber 37 = .ok (.iload_n 2, 1) := by decide +kernel
theorem dX3_stepToNumber_38 : decode cX3_stepToNumber 38 = .ok (.aload_n 0, 1) := by decide +kernel
theorem dX3_stepToNumber_39 : decode cX3_stepToNumber 39 = .ok (.getfield 82, 3) := by decide +kernel
theorem dX3_stepToNumber_42 : decode cX3_stepToNumber 42 = .ok (.if_icmp .ge 23, 3) := by decide +kernel
theorem dX3_stepToNumber_45 : decode cX3_stepToNumber 45 = .ok (.iload_n 1, 1) := by decide +kernel
theorem dX3_stepToNumber_46 : decode cX3_stepToNumber 46 = .ok (.bipush 10, 2) := by decide +kernel
theorem dX3_stepToNumber_48 : decode cX3_stepToNumber 48 = .ok (.imul, 1) := by decide +kernel
theorem dX3_stepToNumber_49 : decode cX3_stepToNumber 49 = .ok (.aload_n 0, 1) := by decide +kernel
theorem dX3_stepToNumber_50 : decode cX3_stepToNumber 50 = .ok (.iload_n 2, 1) := by decide +kernel
theorem dX3_stepToNumber_51 : decode cX3_stepToNumber 51 = .ok (.invokevirtual 85, 3) := by decide +kernel
theorem dX3_stepToNumber_54 : decode cX3_stepToNumber 54 = .ok (.iadd, 1) := by decide +kernel
theorem dX3_stepToNumber_55 : decode cX3_stepToNumber 55 = .ok (.bipush 48, 2) := by decide +kernel
theorem dX3_stepToNumber_57 : decode cX3_stepToNumber 57 = .ok (.isub, 1) := by decide +kernel
theorem dX3_stepToNumber_58 : decode cX3_stepToNumber 58 = .ok (.istore_n 1, 1) := by decide +kernel
theorem dX3_stepToNumber_59 : decode cX3_stepToNumber 59 = .ok (.iinc 2 1, 3) := by decide +kernel
theorem dX3_stepToNumber_62 : decode cX3_stepToNumber 62 = .ok (.goto (-25), 3) := by decide +kernel
theorem dX3_stepToNumber_65 : decode cX3_stepToNumber 65 = .ok (.iload_n 1, 1) := by decide +kernel
theorem dX3_stepToNumber_66 : decode cX3_stepToNumber 66 = .ok (.ireturn, 1) := by decide +kernel
theorem dX3_step_0 : decode cX3_step 0 = .ok (.aload_n 0, 1) := by decide +kernel
theorem dX3_step_1 : decode cX3_step 1 = .ok (.aload_n 0, 1) := by decide +kernel
theorem dX3_step_2 : decode cX3_step 2 = .ok (.getfield 82, 3) := by decide +kernel
theorem dX3_step_5 : decode cX3_step 5 = .ok (.putfield 28, 3) := by decide +kernel
theorem dX3_step_8 : decode cX3_step 8 = .ok (.aload_n 0, 1) := by decide +kernel
theorem dX3_step_9 : decode cX3_step 9 = .ok (.getfield 28, 3) := by decide +kernel
theorem dX3_step_12 : decode cX3_step 12 = .ok (.aload_n 0, 1) := by decide +kernel
theorem dX3_step_13 : decode cX3_step 13 = .ok (.getfield 21, 3) := by decide +kernel
theorem dX3_step_16 : decode cX3_step 16 = .ok (.if_icmp .ge 27, 3) := by decide +kernel
theorem dX3_step_19 : decode cX3_step 19 = .ok (.aload_n 0, 1) := by decide +kernel
theorem dX3_step_20 : decode cX3_step 20 = .ok (.aload_n 0, 1) := by decide +kernel
theorem dX3_step_21 : decode cX3_step 21 = .ok (.getfield 28, 3) := by decide +kernel
theorem dX3_step_24 : decode cX3_step 24 = .ok (.invokevirtual 89, 3) := by decide +kernel
theorem dX3_step_27 : decode cX3_step 27 = .ok (.ifCond .eq 16, 3) := by decide +kernel
theorem dX3_step_30 : decode cX3_step 30 = .ok (.aload_n 0, 1) := by decide +kernel
theorem dX3_step_31 : decode cX3_step 31 = .ok (.dup, 1) := by decide +kernel
theorem dX3_step_32 : decode cX3_step 32 = .ok (.getfield 28, 3) := by decide +kernel
theorem dX3_step_35 : decode cX3_step 35 = .ok (.iconst 1, 1) := by decide +kernel
theorem dX3_step_36 : decode cX3_step 36 = .ok (.iadd, 1) := by decide +kernel
theorem dX3_step_37 : decode cX3_step 37 = .ok (.putfield 28, 3) := by decide +kernel
theorem dX3_step_40 : decode cX3_step 40 = .ok (.goto (-32), 3) := by decide +kernel
theorem dX3_step_43 : decode cX3_step 43 = .ok (.aload_n 0, 1) := by decide +kernel
theorem dX3_step_44 : decode cX3_step 44 = .ok (.aload_n 0, 1) := by decide +kernel
theorem dX3_step_45 : decode cX3_step 45 = .ok (.getfield 28, 3) := by decide +kernel
theorem dX3_step_48 : decode cX3_step 48 = .ok (.putfield 82, 3) := by decide +kernel
theorem dX3_step_51 : decode cX3_step 51 = .ok (.aload_n 0, 1) := by decide +kernel
theorem dX3_step_52 : decode cX3_step 52 = .ok (.aload_n 0, 1) := by decide +kernel
theorem dX3_step_53 : decode cX3_step 53 = .ok (.getfield 28, 3) := by decide +kernel
theorem dX3_step_56 : decode cX3_step 56 = .ok (.invokevirtual 92, 3) := by decide +kernel
theorem dX3_step_59 : decode cX3_step 59 = .ok (.ifCond .eq 38, 3) := by decide +kernel
theorem dX3_step_62 : decode cX3_step 62 = .ok (.aload_n 0, 1) := by decide +kernel
theorem dX3_step_63 : decode cX3_step 63 = .ok (.getfield 82, 3) := by decide +kernel
theorem dX3_step_66 : decode cX3_step 66 = .ok (.aload_n 0, 1) := by decide +kernel
theorem dX3_step_67 : decode cX3_step 67 = .ok (.getfield 21, 3) := by decide +kernel
theorem dX3_step_70 : decode cX3_step 70 = .ok (.if_icmp .ge 94, 3) := by decide +kernel
theorem dX3_step_73 : decode cX3_step 73 = .ok (.aload_n 0, 1) := by decide +kernel
theorem dX3_step_74 : decode cX3_step 74 = .ok (.aload_n 0, 1) := by decide +kernel
theorem dX3_step_75 : decode cX3_step 75 = .ok (.getfield 82, 3) := by decide +kernel
theorem dX3_step_78 : decode cX3_step 78 = .ok (.invokevirtual 92, 3) := by decide +kernel
theorem dX3_step_81 : decode cX3_step 81 = .ok (.ifCond .eq 83, 3) := by decide +kernel
theorem dX3_step_84 : decode cX3_step 84 = .ok (.aload_n 0, 1) := by decide +kernel
theorem dX3_step_85 : decode cX3_step 85 = .ok (.dup, 1) := by decide +kernel
theorem dX3_step_86 : decode cX3_step 86 = .ok (.getfield 82, 3) := by decide +kernel
theorem dX3_step_89 : decode cX3_step 89 = .ok (.iconst 1, 1) := by decide +kernel
theorem dX3_step_90 : decode cX3_step 90 = .ok (.iadd, 1) := by decide +kernel
theorem dX3_step_91 : decode cX3_step 91 = .ok (.putfield 82, 3) := by decide +kernel
theorem dX3_step_94 : decode cX3_step 94 = .ok (.goto (-32), 3) := by decide +kernel
theorem dX3_step_97 : decode cX3_step 97 = .ok (.aload_n 0, 1) := by decide +kernel
theorem dX3_step_98 : decode cX3_step 98 = .ok (.aload_n 0, 1) := by decide +kernel
theorem dX3_step_99 : decode cX3_step 99 = .ok (.getfield 28, 3) := by decide +kernel
theorem dX3_step_102 : decode cX3_step 102 = .ok (.invokevirtual 78, 3) := by decide +kernel
theorem dX3_step_105 : decode cX3_step 105 = .ok (.ifCond .eq 38, 3) := by decide +kernel
theorem dX3_step_108 : decode cX3_step 108 = .ok (.aload_n 0, 1) := by decide +kernel
theorem dX3_step_109 : decode cX3_step 109 = .ok (.getfield 82, 3) := by decide +kernel
theorem dX3_step_112 : decode cX3_step 112 = .ok (.aload_n 0, 1) := by decide +kernel
theorem dX3_step_113 : decode cX3_step 113 = .ok (.getfield 21, 3) := by decide +kernel
theorem dX3_step_116 : decode cX3_step 116 = .ok (.if_icmp .ge 48, 3) := by decide +kernel
theorem dX3_step_119 : decode cX3_step 119 = .ok (.aload_n 0, 1) := by decide +kernel
theorem dX3_step_120 : decode cX3_step 120 = .ok (.aload_n 0, 1) := by decide +kernel
theorem dX3_step_121 : decode cX3_step 121 = .ok (.getfield 82, 3) := by decide +kernel
theorem dX3_step_124 : decode cX3_step 124 = .ok (.invokevirtual 78, 3) := by decide +kernel
theorem dX3_step_127 : decode cX3_step 127 = .ok (.ifCond .eq 37, 3) := by decide +kernel
theorem dX3_step_130 : decode cX3_step 130 = .ok (.aload_n 0, 1) := by decide +kernel
theorem dX3_step_131 : decode cX3_step 131 = .ok (.dup, 1) := by decide +kernel
theorem dX3_step_132 : decode cX3_step 132 = .ok (.getfield 82, 3) := by decide +kernel
theorem dX3_step_135 : decode cX3_step 135 = .ok (.iconst 1, 1) := by decide +kernel
theorem dX3_step_136 : decode cX3_step 136 = .ok (.iadd, 1) := by decide +kernel
theorem dX3_step_137 : decode cX3_step 137 = .ok (.putfield 82, 3) := by decide +kernel
theorem dX3_step_140 : decode cX3_step 140 = .ok (.goto (-32), 3) := by decide +kernel
theorem dX3_step_143 : decode cX3_step 143 = .ok (.aload_n 0, 1) := by decide +kernel
theorem dX3_step_144 : decode cX3_step 144 = .ok (.getfield 28, 3) := by decide +kernel
theorem dX3_step_147 : decode cX3_step 147 = .ok (.aload_n 0, 1) := by decide +kernel
theorem dX3_step_148 : decode cX3_step 148 = .ok (.getfield 21, 3) := by decide +kernel
theorem dX3_step_151 : decode cX3_step 151 = .ok (.if_icmp .ge 13, 3) := by decide +kernel
theorem dX3_step_154 : decode cX3_step 154 = .ok (.aload_n 0, 1) := by decide +kernel
theorem dX3_step_155 : decode cX3_step 155 = .ok (.dup, 1) := by decide +kernel
theorem dX3_step_156 : decode cX3_step 156 = .ok (.getfield 82, 3) := by decide +kernel
theorem dX3_step_159 : decode cX3_step 159 = .ok (.iconst 1, 1) := by decide +kernel
theorem dX3_step_160 : decode cX3_step 160 = .ok (.iadd, 1) := by decide +kernel
theorem dX3_step_161 : decode cX3_step 161 = .ok (.putfield 82, 3) := by decide +kernel
theorem dX3_step_164 : decode cX3_step 164 = .ok (.return_, 1) := by decide +kernel
theorem dX3_holds_0 : decode cX3_holds 0 = .ok (.aload_n 0, 1) := by decide +kernel
theorem dX3_holds_1 : decode cX3_holds 1 = .ok (.getfield 82, 3) := by decide +kernel
theorem dX3_holds_4 : decode cX3_holds 4 = .ok (.aload_n 0, 1) := by decide +kernel
theorem dX3_holds_5 : decode cX3_holds 5 = .ok (.getfield 28, 3) := by decide +kernel
theorem dX3_holds_8 : decode cX3_holds 8 = .ok (.isub, 1) := by decide +kernel
theorem dX3_holds_9 : decode cX3_holds 9 = .ok (.aload_n 1, 1) := by decide +kernel
theorem dX3_holds_10 : decode cX3_holds 10 = .ok (.invokevirtual 95, 3) := by decide +kernel
theorem dX3_holds_13 : decode cX3_holds 13 = .ok (.if_icmp .eq 5, 3) := by decide +kernel
theorem dX3_holds_16 : decode cX3_holds 16 = .ok (.iconst 0, 1) := by decide +kernel
theorem dX3_holds_17 : decode cX3_holds 17 = .ok (.ireturn, 1) := by decide +kernel
theorem dX3_holds_18 : decode cX3_holds 18 = .ok (.iconst 0, 1) := by decide +kernel
theorem dX3_holds_19 : decode cX3_holds 19 = .ok (.istore_n 2, 1) := by decide +kernel
theorem dX3_holds_20 : decode cX3_holds 20 = .ok (.iload_n 2, 1) := by decide +kernel
theorem dX3_holds_21 : decode cX3_holds 21 = .ok (.aload_n 1, 1) := by decide +kernel
theorem dX3_holds_22 : decode cX3_holds 22 = .ok (.invokevirtual 95, 3) := by decide +kernel
theorem dX3_holds_25 : decode cX3_holds 25 = .ok (.if_icmp .ge 29, 3) := by decide +kernel
theorem dX3_holds_28 : decode cX3_holds 28 = .ok (.aload_n 0, 1) := by decide +kernel
theorem dX3_holds_29 : decode cX3_holds 29 = .ok (.aload_n 0, 1) := by decide +kernel
theorem dX3_holds_30 : decode cX3_holds 30 = .ok (.getfield 28, 3) := by decide +kernel
theorem dX3_holds_33 : decode cX3_holds 33 = .ok (.iload_n 2, 1) := by decide +kernel
theorem dX3_holds_34 : decode cX3_holds 34 = .ok (.iadd, 1) := by decide +kernel
theorem dX3_holds_35 : decode cX3_holds 35 = .ok (.invokevirtual 85, 3) := by decide +kernel
theorem dX3_holds_38 : decode cX3_holds 38 = .ok (.aload_n 1, 1) := by decide +kernel
theorem dX3_holds_39 : decode cX3_holds 39 = .ok (.iload_n 2, 1) := by decide +kernel
theorem dX3_holds_40 : decode cX3_holds 40 = .ok (.invokevirtual 99, 3) := by decide +kernel
theorem dX3_holds_43 : decode cX3_holds 43 = .ok (.if_icmp .eq 5, 3) := by decide +kernel
theorem dX3_holds_46 : decode cX3_holds 46 = .ok (.iconst 0, 1) := by decide +kernel
theorem dX3_holds_47 : decode cX3_holds 47 = .ok (.ireturn, 1) := by decide +kernel
theorem dX3_holds_48 : decode cX3_holds 48 = .ok (.iinc 2 1, 3) := by decide +kernel
theorem dX3_holds_51 : decode cX3_holds 51 = .ok (.goto (-31), 3) := by decide +kernel
theorem dX3_holds_54 : decode cX3_holds 54 = .ok (.iconst 1, 1) := by decide +kernel
theorem dX3_holds_55 : decode cX3_holds 55 = .ok (.ireturn, 1) := by decide +kernel
theorem dX3_byteAt_0 : decode cX3_byteAt 0 = .ok (.iload_n 1, 1) := by decide +kernel
theorem dX3_byteAt_1 : decode cX3_byteAt 1 = .ok (.ifCond .lt 20, 3) := by decide +kernel
theorem dX3_byteAt_4 : decode cX3_byteAt 4 = .ok (.iload_n 1, 1) := by decide +kernel
theorem dX3_byteAt_5 : decode cX3_byteAt 5 = .ok (.aload_n 0, 1) := by decide +kernel
theorem dX3_byteAt_6 : decode cX3_byteAt 6 = .ok (.getfield 21, 3) := by decide +kernel
theorem dX3_byteAt_9 : decode cX3_byteAt 9 = .ok (.if_icmp .ge 12, 3) := by decide +kernel
theorem dX3_byteAt_12 : decode cX3_byteAt 12 = .ok (.aload_n 0, 1) := by decide +kernel
theorem dX3_byteAt_13 : decode cX3_byteAt 13 = .ok (.getfield 9, 3) := by decide +kernel
theorem dX3_byteAt_16 : decode cX3_byteAt 16 = .ok (.iload_n 1, 1) := by decide +kernel
theorem dX3_byteAt_17 : decode cX3_byteAt 17 = .ok (.baload, 1) := by decide +kernel
theorem dX3_byteAt_18 : decode cX3_byteAt 18 = .ok (.goto 4, 3) := by decide +kernel
theorem dX3_byteAt_21 : decode cX3_byteAt 21 = .ok (.iconst 0, 1) := by decide +kernel
theorem dX3_byteAt_22 : decode cX3_byteAt 22 = .ok (.ireturn, 1) := by decide +kernel
theorem dX3_isBlank_0 : decode cX3_isBlank 0 = .ok (.aload_n 0, 1) := by decide +kernel
theorem dX3_isBlank_1 : decode cX3_isBlank 1 = .ok (.iload_n 1, 1) := by decide +kernel
theorem dX3_isBlank_2 : decode cX3_isBlank 2 = .ok (.invokevirtual 85, 3) := by decide +kernel
theorem dX3_isBlank_5 : decode cX3_isBlank 5 = .ok (.bipush 32, 2) := by decide +kernel
theorem dX3_isBlank_7 : decode cX3_isBlank 7 = .ok (.if_icmp .eq 13, 3) := by decide +kernel
theorem dX3_isBlank_10 : decode cX3_isBlank 10 = .ok (.aload_n 0, 1) := by decide +kernel
theorem dX3_isBlank_11 : decode cX3_isBlank 11 = .ok (.iload_n 1, 1) := by decide +kernel
theorem dX3_isBlank_12 : decode cX3_isBlank 12 = .ok (.invokevirtual 85, 3) := by decide +kernel
theorem dX3_isBlank_15 : decode cX3_isBlank 15 = .ok (.bipush 10, 2) := by decide +kernel
theorem dX3_isBlank_17 : decode cX3_isBlank 17 = .ok (.if_icmp .ne 7, 3) := by decide +kernel
theorem dX3_isBlank_20 : decode cX3_isBlank 20 = .ok (.iconst 1, 1) := by decide +kernel
theorem dX3_isBlank_21 : decode cX3_isBlank 21 = .ok (.goto 4, 3) := by decide +kernel
theorem dX3_isBlank_24 : decode cX3_isBlank 24 = .ok (.iconst 0, 1) := by decide +kernel
theorem dX3_isBlank_25 : decode cX3_isBlank 25 = .ok (.ireturn, 1) := by decide +kernel
theorem dX3_isLetter_0 : decode cX3_isLetter 0 = .ok (.aload_n 0, 1) := by decide +kernel
theorem dX3_isLetter_1 : decode cX3_isLetter 1 = .ok (.iload_n 1, 1) := by decide +kernel
theorem dX3_isLetter_2 : decode cX3_isLetter 2 = .ok (.invokevirtual 85, 3) := by decide +kernel
theorem dX3_isLetter_5 : decode cX3_isLetter 5 = .ok (.bipush 97, 2) := by decide +kernel
theorem dX3_isLetter_7 : decode cX3_isLetter 7 = .ok (.bipush 122, 2) := by decide +kernel
theorem dX3_isLetter_9 : decode cX3_isLetter 9 = .ok (.invokestatic 103, 3) := by decide +kernel
theorem dX3_isLetter_12 : decode cX3_isLetter 12 = .ok (.ireturn, 1) := by decide +kernel
theorem dX3_isDigit_0 : decode cX3_isDigit 0 = .ok (.aload_n 0, 1) := by decide +kernel
theorem dX3_isDigit_1 : decode cX3_isDigit 1 = .ok (.iload_n 1, 1) := by decide +kernel
theorem dX3_isDigit_2 : decode cX3_isDigit 2 = .ok (.invokevirtual 85, 3) := by decide +kernel
theorem dX3_isDigit_5 : decode cX3_isDigit 5 = .ok (.bipush 48, 2) := by decide +kernel
theorem dX3_isDigit_7 : decode cX3_isDigit 7 = .ok (.bipush 57, 2) := by decide +kernel
theorem dX3_isDigit_9 : decode cX3_isDigit 9 = .ok (.invokestatic 103, 3) := by decide +kernel
theorem dX3_isDigit_12 : decode cX3_isDigit 12 = .ok (.ireturn, 1) := by decide +kernel
theorem dX4_init_0 : decode cX4_init 0 = .ok (.aload_n 0, 1) := by decide +kernel
theorem dX4_init_1 : decode cX4_init 1 = .ok (.invokespecial 1, 3) := by decide +kernel
theorem dX4_init_4 : decode cX4_init 4 = .ok (.aload_n 0, 1) := by decide +kernel
theorem dX4_init_5 : decode cX4_init 5 = .ok (.iload_n 1, 1) := by decide +kernel
theorem dX4_init_6 : decode cX4_init 6 = .ok (.putfield 7, 3) := by decide +kernel
theorem dX4_init_9 : decode cX4_init 9 = .ok (.aload_n 0, 1) := by decide +kernel
theorem dX4_init_10 : decode cX4_init 10 = .ok (.iload_n 2, 1) := by decide +kernel
theorem dX4_init_11 : decode cX4_init 11 = .ok (.putfield 13, 3) := by decide +kernel
theorem dX4_init_14 : decode cX4_init 14 = .ok (.aload_n 0, 1) := by decide +kernel
theorem dX4_init_15 : decode cX4_init 15 = .ok (.iload_n 3, 1) := by decide +kernel
theorem dX4_init_16 : decode cX4_init 16 = .ok (.putfield 16, 3) := by decide +kernel
theorem dX4_init_19 : decode cX4_init 19 = .ok (.aload_n 0, 1) := by decide +kernel
theorem dX4_init_20 : decode cX4_init 20 = .ok (.iload 4, 2) := by decide +kernel
theorem dX4_init_22 : decode cX4_init 22 = .ok (.putfield 19, 3) := by decide +kernel
theorem dX4_init_25 : decode cX4_init 25 = .ok (.return_, 1) := by decide +kernel
theorem dX4_milesTo_0 : decode cX4_milesTo 0 = .ok (.aload_n 0, 1) := by decide +kernel
theorem dX4_milesTo_1 : decode cX4_milesTo 1 = .ok (.getfield 13, 3) := by decide +kernel
theorem dX4_milesTo_4 : decode cX4_milesTo 4 = .ok (.aload_n 1, 1) := by decide +kernel
theorem dX4_milesTo_5 : decode cX4_milesTo 5 = .ok (.getfield 13, 3) := by decide +kernel
theorem dX4_milesTo_8 : decode cX4_milesTo 8 = .ok (.isub, 1) := by decide +kernel
theorem dX4_milesTo_9 : decode cX4_milesTo 9 = .ok (.invokestatic 22, 3) := by decide +kernel
theorem dX4_milesTo_12 : decode cX4_milesTo 12 = .ok (.ireturn, 1) := by decide +kernel
theorem dX5_init_0 : decode cX5_init 0 = .ok (.aload_n 0, 1) := by decide +kernel
theorem dX5_init_1 : decode cX5_init 1 = .ok (.invokespecial 1, 3) := by decide +kernel
theorem dX5_init_4 : decode cX5_init 4 = .ok (.aload_n 0, 1) := by decide +kernel
theorem dX5_init_5 : decode cX5_init 5 = .ok (.iload_n 1, 1) := by decide +kernel
theorem dX5_init_6 : decode cX5_init 6 = .ok (.putfield 7, 3) := by decide +kernel
theorem dX5_init_9 : decode cX5_init 9 = .ok (.aload_n 0, 1) := by decide +kernel
theorem dX5_init_10 : decode cX5_init 10 = .ok (.iload_n 2, 1) := by decide +kernel
theorem dX5_init_11 : decode cX5_init 11 = .ok (.putfield 13, 3) := by decide +kernel
theorem dX5_init_14 : decode cX5_init 14 = .ok (.aload_n 0, 1) := by decide +kernel
theorem dX5_init_15 : decode cX5_init 15 = .ok (.iload_n 3, 1) := by decide +kernel
theorem dX5_init_16 : decode cX5_init 16 = .ok (.putfield 16, 3) := by decide +kernel
theorem dX5_init_19 : decode cX5_init 19 = .ok (.aload_n 0, 1) := by decide +kernel
theorem dX5_init_20 : decode cX5_init 20 = .ok (.aload 4, 2) := by decide +kernel
theorem dX5_init_22 : decode cX5_init 22 = .ok (.putfield 19, 3) := by decide +kernel
theorem dX5_init_25 : decode cX5_init 25 = .ok (.return_, 1) := by decide +kernel
theorem dX6_init_0 : decode cX6_init 0 = .ok (.aload_n 0, 1) := by decide +kernel
theorem dX6_init_1 : decode cX6_init 1 = .ok (.invokespecial 3, 3) := by decide +kernel
theorem dX6_init_4 : decode cX6_init 4 = .ok (.aload_n 0, 1) := by decide +kernel
theorem dX6_init_5 : decode cX6_init 5 = .ok (.iload_n 1, 1) := by decide +kernel
theorem dX6_init_6 : decode cX6_init 6 = .ok (.putfield 9, 3) := by decide +kernel
theorem dX6_init_9 : decode cX6_init 9 = .ok (.aload_n 0, 1) := by decide +kernel
theorem dX6_init_10 : decode cX6_init 10 = .ok (.iload_n 2, 1) := by decide +kernel
theorem dX6_init_11 : decode cX6_init 11 = .ok (.putfield 15, 3) := by decide +kernel
theorem dX6_init_14 : decode cX6_init 14 = .ok (.aload_n 0, 1) := by decide +kernel
theorem dX6_init_15 : decode cX6_init 15 = .ok (.iload_n 3, 1) := by decide +kernel
theorem dX6_init_16 : decode cX6_init 16 = .ok (.putfield 18, 3) := by decide +kernel
theorem dX6_init_19 : decode cX6_init 19 = .ok (.aload_n 0, 1) := by decide +kernel
theorem dX6_init_20 : decode cX6_init 20 = .ok (.iload 4, 2) := by decide +kernel
theorem dX6_init_22 : decode cX6_init 22 = .ok (.putfield 21, 3) := by decide +kernel
theorem dX6_init_25 : decode cX6_init 25 = .ok (.aload_n 0, 1) := by decide +kernel
theorem dX6_init_26 : decode cX6_init 26 = .ok (.iload 5, 2) := by decide +kernel
theorem dX6_init_28 : decode cX6_init 28 = .ok (.putfield 25, 3) := by decide +kernel
theorem dX6_init_31 : decode cX6_init 31 = .ok (.aload_n 0, 1) := by decide +kernel
theorem dX6_init_32 : decode cX6_init 32 = .ok (.iload 6, 2) := by decide +kernel
theorem dX6_init_34 : decode cX6_init 34 = .ok (.putfield 28, 3) := by decide +kernel
theorem dX6_init_37 : decode cX6_init 37 = .ok (.aload_n 0, 1) := by decide +kernel
theorem dX6_init_38 : decode cX6_init 38 = .ok (.bipush 60, 2) := by decide +kernel
theorem dX6_init_40 : decode cX6_init 40 = .ok (.anewarray 31, 3) := by decide +kernel
theorem dX6_init_43 : decode cX6_init 43 = .ok (.putfield 33, 3) := by decide +kernel
theorem dX6_init_46 : decode cX6_init 46 = .ok (.return_, 1) := by decide +kernel
theorem dX6_hallIn_0 : decode cX6_hallIn 0 = .ok (.iload_n 1, 1) := by decide +kernel
theorem dX6_hallIn_1 : decode cX6_hallIn 1 = .ok (.invokestatic 37, 3) := by decide +kernel
theorem dX6_hallIn_4 : decode cX6_hallIn 4 = .ok (.ifCond .eq 12, 3) := by decide +kernel
theorem dX6_hallIn_7 : decode cX6_hallIn 7 = .ok (.aload_n 0, 1) := by decide +kernel
theorem dX6_hallIn_8 : decode cX6_hallIn 8 = .ok (.getfield 33, 3) := by decide +kernel
theorem dX6_hallIn_11 : decode cX6_hallIn 11 = .ok (.iload_n 1, 1) := by decide +kernel
theorem dX6_hallIn_12 : decode cX6_hallIn 12 = .ok (.aaload, 1) := by decide +kernel
theorem dX6_hallIn_13 : decode cX6_hallIn 13 = .ok (.goto 4, 3) := by decide +kernel
theorem dX6_hallIn_16 : decode cX6_hallIn 16 = .ok (.aconst_null, 1) := by decide +kernel
theorem dX6_hallIn_17 : decode cX6_hallIn 17 = .ok (.areturn, 1) := by decide +kernel
theorem dX6_setHallIn_0 : decode cX6_setHallIn 0 = .ok (.iload_n 1, 1) := by decide +kernel
theorem dX6_setHallIn_1 : decode cX6_setHallIn 1 = .ok (.invokestatic 37, 3) := by decide +kernel
theorem dX6_setHallIn_4 : decode cX6_setHallIn 4 = .ok (.ifCond .eq 10, 3) := by decide +kernel
theorem dX6_setHallIn_7 : decode cX6_setHallIn 7 = .ok (.aload_n 0, 1) := by decide +kernel
theorem dX6_setHallIn_8 : decode cX6_setHallIn 8 = .ok (.getfield 33, 3) := by decide +kernel
theorem dX6_setHallIn_11 : decode cX6_setHallIn 11 = .ok (.iload_n 1, 1) := by decide +kernel
theorem dX6_setHallIn_12 : decode cX6_setHallIn 12 = .ok (.aload_n 2, 1) := by decide +kernel
theorem dX6_setHallIn_13 : decode cX6_setHallIn 13 = .ok (.aastore, 1) := by decide +kernel
theorem dX6_setHallIn_14 : decode cX6_setHallIn 14 = .ok (.return_, 1) := by decide +kernel
theorem dX6_isSoonIn_0 : decode cX6_isSoonIn 0 = .ok (.iload_n 2, 1) := by decide +kernel
theorem dX6_isSoonIn_1 : decode cX6_isSoonIn 1 = .ok (.bipush 8, 2) := by decide +kernel
theorem dX6_isSoonIn_3 : decode cX6_isSoonIn 3 = .ok (.isub, 1) := by decide +kernel
theorem dX6_isSoonIn_4 : decode cX6_isSoonIn 4 = .ok (.iconst 1, 1) := by decide +kernel
theorem dX6_isSoonIn_5 : decode cX6_isSoonIn 5 = .ok (.iadd, 1) := by decide +kernel
theorem dX6_isSoonIn_6 : decode cX6_isSoonIn 6 = .ok (.istore_n 3, 1) := by decide +kernel
theorem dX6_isSoonIn_7 : decode cX6_isSoonIn 7 = .ok (.iload_n 3, 1) := by decide +kernel
theorem dX6_isSoonIn_8 : decode cX6_isSoonIn 8 = .ok (.iload_n 2, 1) := by decide +kernel
theorem dX6_isSoonIn_9 : decode cX6_isSoonIn 9 = .ok (.bipush 8, 2) := by decide +kernel
theorem dX6_isSoonIn_11 : decode cX6_isSoonIn 11 = .ok (.iadd, 1) := by decide +kernel
theorem dX6_isSoonIn_12 : decode cX6_isSoonIn 12 = .ok (.if_icmp .ge 20, 3) := by decide +kernel
theorem dX6_isSoonIn_15 : decode cX6_isSoonIn 15 = .ok (.aload_n 0, 1) := by decide +kernel
theorem dX6_isSoonIn_16 : decode cX6_isSoonIn 16 = .ok (.iload_n 3, 1) := by decide +kernel
theorem dX6_isSoonIn_17 : decode cX6_isSoonIn 17 = .ok (.invokevirtual 41, 3) := by decide +kernel
theorem dX6_isSoonIn_20 : decode cX6_isSoonIn 20 = .ok (.aload_n 1, 1) := by decide +kernel
theorem dX6_isSoonIn_21 : decode cX6_isSoonIn 21 = .ok (.if_acmp .ne 5, 3) := by decide +kernel
theorem dX6_isSoonIn_24 : decode cX6_isSoonIn 24 = .ok (.iconst 1, 1) := by decide +kernel
theorem dX6_isSoonIn_25 : decode cX6_isSoonIn 25 = .ok (.ireturn, 1) := by decide +kernel
theorem dX6_isSoonIn_26 : decode cX6_isSoonIn 26 = .ok (.iinc 3 1, 3) := by decide +kernel
theorem dX6_isSoonIn_29 : decode cX6_isSoonIn 29 = .ok (.goto (-22), 3) := by decide +kernel
theorem dX6_isSoonIn_32 : decode cX6_isSoonIn 32 = .ok (.iconst 0, 1) := by decide +kernel
theorem dX6_isSoonIn_33 : decode cX6_isSoonIn 33 = .ok (.ireturn, 1) := by decide +kernel
theorem dX6_contractIn_0 : decode cX6_contractIn 0 = .ok (.aconst_null, 1) := by decide +kernel
theorem dX6_contractIn_1 : decode cX6_contractIn 1 = .ok (.astore_n 3, 1) := by decide +kernel
theorem dX6_contractIn_2 : decode cX6_contractIn 2 = .ok (.aload_n 0, 1) := by decide +kernel
theorem dX6_contractIn_3 : decode cX6_contractIn 3 = .ok (.getfield 45, 3) := by decide +kernel
theorem dX6_contractIn_6 : decode cX6_contractIn 6 = .ok (.astore 4, 2) := by decide +kernel
theorem dX6_contractIn_8 : decode cX6_contractIn 8 = .ok (.aload 4, 2) := by decide +kernel
theorem dX6_contractIn_10 : decode cX6_contractIn 10 = .ok (.ifnull 62, 3) := by decide +kernel
theorem dX6_contractIn_13 : decode cX6_contractIn 13 = .ok (.aload 4, 2) := by decide +kernel
theorem dX6_contractIn_15 : decode cX6_contractIn 15 = .ok (.getfield 49, 3) := by decide +kernel
theorem dX6_contractIn_18 : decode cX6_contractIn 18 = .ok (.iload_n 2, 1) := by decide +kernel
theorem dX6_contractIn_19 : decode cX6_contractIn 19 = .ok (.if_icmp .gt 16, 3) := by decide +kernel
theorem dX6_contractIn_22 : decode cX6_contractIn 22 = .ok (.aload 4, 2) := by decide +kernel
theorem dX6_contractIn_24 : decode cX6_contractIn 24 = .ok (.getfield 54, 3) := by decide +kernel
theorem dX6_contractIn_27 : decode cX6_contractIn 27 = .ok (.iload_n 1, 1) := by decide +kernel
theorem dX6_contractIn_28 : decode cX6_contractIn 28 = .ok (.if_icmp .gt 7, 3) := by decide +kernel
theorem dX6_contractIn_31 : decode cX6_contractIn 31 = .ok (.iconst 1, 1) := by decide +kernel
theorem dX6_contractIn_32 : decode cX6_contractIn 32 = .ok (.goto 4, 3) := by decide +kernel
theorem dX6_contractIn_35 : decode cX6_contractIn 35 = .ok (.iconst 0, 1) := by decide +kernel
theorem dX6_contractIn_36 : decode cX6_contractIn 36 = .ok (.istore 5, 2) := by decide +kernel
theorem dX6_contractIn_38 : decode cX6_contractIn 38 = .ok (.iload 5, 2) := by decide +kernel
theorem dX6_contractIn_40 : decode cX6_contractIn 40 = .ok (.ifCond .eq 22, 3) := by decide +kernel
theorem dX6_contractIn_43 : decode cX6_contractIn 43 = .ok (.aload_n 3, 1) := by decide +kernel
theorem dX6_contractIn_44 : decode cX6_contractIn 44 = .ok (.ifnull 15, 3) := by decide +kernel
theorem dX6_contractIn_47 : decode cX6_contractIn 47 = .ok (.aload 4, 2) := by decide +kernel
theorem dX6_contractIn_49 : decode cX6_contractIn 49 = .ok (.getfield 54, 3) := by decide +kernel
theorem dX6_contractIn_52 : decode cX6_contractIn 52 = .ok (.aload_n 3, 1) := by decide +kernel
theorem dX6_contractIn_53 : decode cX6_contractIn 53 = .ok (.getfield 54, 3) := by decide +kernel
theorem dX6_contractIn_56 : decode cX6_contractIn 56 = .ok (.if_icmp .le 6, 3) := by decide +kernel
theorem dX6_contractIn_59 : decode cX6_contractIn 59 = .ok (.aload 4, 2) := by decide +kernel
theorem dX6_contractIn_61 : decode cX6_contractIn 61 = .ok (.astore_n 3, 1) := by decide +kernel
theorem dX6_contractIn_62 : decode cX6_contractIn 62 = .ok (.aload 4, 2) := by decide +kernel
theorem dX6_contractIn_64 : decode cX6_contractIn 64 = .ok (.getfield 57, 3) := by decide +kernel
theorem dX6_contractIn_67 : decode cX6_contractIn 67 = .ok (.astore 4, 2) := by decide +kernel
theorem dX6_contractIn_69 : decode cX6_contractIn 69 = .ok (.goto (-61), 3) := by decide +kernel
theorem dX6_contractIn_72 : decode cX6_contractIn 72 = .ok (.aload_n 3, 1) := by decide +kernel
theorem dX6_contractIn_73 : decode cX6_contractIn 73 = .ok (.areturn, 1) := by decide +kernel
theorem dX7_init_0 : decode cX7_init 0 = .ok (.aload_n 0, 1) := by decide +kernel
theorem dX7_init_1 : decode cX7_init 1 = .ok (.invokespecial 1, 3) := by decide +kernel
theorem dX7_init_4 : decode cX7_init 4 = .ok (.aload_n 0, 1) := by decide +kernel
theorem dX7_init_5 : decode cX7_init 5 = .ok (.bipush 40, 2) := by decide +kernel
theorem dX7_init_7 : decode cX7_init 7 = .ok (.anewarray 9, 3) := by decide +kernel
theorem dX7_init_10 : decode cX7_init 10 = .ok (.putfield 11, 3) := by decide +kernel
theorem dX7_init_13 : decode cX7_init 13 = .ok (.aload_n 0, 1) := by decide +kernel
theorem dX7_init_14 : decode cX7_init 14 = .ok (.bipush 10, 2) := by decide +kernel
theorem dX7_init_16 : decode cX7_init 16 = .ok (.anewarray 15, 3) := by decide +kernel
theorem dX7_init_19 : decode cX7_init 19 = .ok (.putfield 17, 3) := by decide +kernel
theorem dX7_init_22 : decode cX7_init 22 = .ok (.aload_n 0, 1) := by decide +kernel
theorem dX7_init_23 : decode cX7_init 23 = .ok (.sipush 600, 3) := by decide +kernel
theorem dX7_init_26 : decode cX7_init 26 = .ok (.newarray .byte, 2) := by decide +kernel
theorem dX7_init_28 : decode cX7_init 28 = .ok (.putfield 21, 3) := by decide +kernel
theorem dX7_init_31 : decode cX7_init 31 = .ok (.aload_n 0, 1) := by decide +kernel
theorem dX7_init_32 : decode cX7_init 32 = .ok (.new 25, 3) := by decide +kernel
theorem dX7_init_35 : decode cX7_init 35 = .ok (.dup, 1) := by decide +kernel
theorem dX7_init_36 : decode cX7_init 36 = .ok (.invokespecial 27, 3) := by decide +kernel
theorem dX7_init_39 : decode cX7_init 39 = .ok (.putfield 28, 3) := by decide +kernel
theorem dX7_init_42 : decode cX7_init 42 = .ok (.aload_n 0, 1) := by decide +kernel
theorem dX7_init_43 : decode cX7_init 43 = .ok (.new 32, 3) := by decide +kernel
theorem dX7_init_46 : decode cX7_init 46 = .ok (.dup, 1) := by decide +kernel
theorem dX7_init_47 : decode cX7_init 47 = .ok (.invokespecial 34, 3) := by decide +kernel
theorem dX7_init_50 : decode cX7_init 50 = .ok (.putfield 35, 3) := by decide +kernel
theorem dX7_init_53 : decode cX7_init 53 = .ok (.aload_n 0, 1) := by decide +kernel
theorem dX7_init_54 : decode cX7_init 54 = .ok (.iconst (-1), 1) := by decide +kernel
theorem dX7_init_55 : decode cX7_init 55 = .ok (.putfield 39, 3) := by decide +kernel
theorem dX7_init_58 : decode cX7_init 58 = .ok (.return_, 1) := by decide +kernel
theorem dX7_weeks_0 : decode cX7_weeks 0 = .ok (.iload_n 1, 1) := by decide +kernel
theorem dX7_weeks_1 : decode cX7_weeks 1 = .ok (.iconst 1, 1) := by decide +kernel
theorem dX7_weeks_2 : decode cX7_weeks 2 = .ok (.if_icmp .lt 14, 3) := by decide +kernel
theorem dX7_weeks_5 : decode cX7_weeks 5 = .ok (.iload_n 1, 1) := by decide +kernel
theorem dX7_weeks_6 : decode cX7_weeks 6 = .ok (.bipush 60, 2) := by decide +kernel
theorem dX7_weeks_8 : decode cX7_weeks 8 = .ok (.aload_n 0, 1) := by decide +kernel
theorem dX7_weeks_9 : decode cX7_weeks 9 = .ok (.getfield 43, 3) := by decide +kernel
theorem dX7_weeks_12 : decode cX7_weeks 12 = .ok (.isub, 1) := by decide +kernel
theorem dX7_weeks_13 : decode cX7_weeks 13 = .ok (.if_icmp .lt 5, 3) := by decide +kernel
theorem dX7_weeks_16 : decode cX7_weeks 16 = .ok (.iconst (-1), 1) := by decide +kernel
theorem dX7_weeks_17 : decode cX7_weeks 17 = .ok (.ireturn, 1) := by decide +kernel
theorem dX7_weeks_18 : decode cX7_weeks 18 = .ok (.aload_n 0, 1) := by decide +kernel
theorem dX7_weeks_19 : decode cX7_weeks 19 = .ok (.dup, 1) := by decide +kernel
theorem dX7_weeks_20 : decode cX7_weeks 20 = .ok (.getfield 43, 3) := by decide +kernel
theorem dX7_weeks_23 : decode cX7_weeks 23 = .ok (.iload_n 1, 1) := by decide +kernel
theorem dX7_weeks_24 : decode cX7_weeks 24 = .ok (.iadd, 1) := by decide +kernel
theorem dX7_weeks_25 : decode cX7_weeks 25 = .ok (.putfield 43, 3) := by decide +kernel
theorem dX7_weeks_28 : decode cX7_weeks 28 = .ok (.aload_n 0, 1) := by decide +kernel
theorem dX7_weeks_29 : decode cX7_weeks 29 = .ok (.getfield 43, 3) := by decide +kernel
theorem dX7_weeks_32 : decode cX7_weeks 32 = .ok (.ireturn, 1) := by decide +kernel
theorem dX7_turn_0 : decode cX7_turn 0 = .ok (.iload_n 1, 1) := by decide +kernel
theorem dX7_turn_1 : decode cX7_turn 1 = .ok (.iconst 3, 1) := by decide +kernel
theorem dX7_turn_2 : decode cX7_turn 2 = .ok (.bipush 20, 2) := by decide +kernel
theorem dX7_turn_4 : decode cX7_turn 4 = .ok (.invokestatic 46, 3) := by decide +kernel
theorem dX7_turn_7 : decode cX7_turn 7 = .ok (.ifCond .eq 47, 3) := by decide +kernel
theorem dX7_turn_10 : decode cX7_turn 10 = .ok (.iload_n 2, 1) := by decide +kernel
theorem dX7_turn_11 : decode cX7_turn 11 = .ok (.iconst 0, 1) := by decide +kernel
theorem dX7_turn_12 : decode cX7_turn 12 = .ok (.iconst 3, 1) := by decide +kernel
theorem dX7_turn_13 : decode cX7_turn 13 = .ok (.invokestatic 46, 3) := by decide +kernel
theorem dX7_turn_16 : decode cX7_turn 16 = .ok (.ifCond .eq 38, 3) := by decide +kernel
theorem dX7_turn_19 : decode cX7_turn 19 = .ok (.iload_n 3, 1) := by decide +kernel
theorem dX7_turn_20 : decode cX7_turn 20 = .ok (.ifCond .eq 8, 3) := by decide +kernel
theorem dX7_turn_23 : decode cX7_turn 23 = .ok (.iload_n 2, 1) := by decide +kernel
theorem dX7_turn_24 : decode cX7_turn 24 = .ok (.iconst 3, 1) := by decide +kernel
theorem dX7_turn_25 : decode cX7_turn 25 = .ok (.if_icmp .eq 29, 3) := by decide +kernel
theorem dX7_turn_28 : decode cX7_turn 28 = .ok (.iload 4, 2) := by decide +kernel
theorem dX7_turn_30 : decode cX7_turn 30 = .ok (.iconst 0, 1) := by decide +kernel
theorem dX7_turn_31 : decode cX7_turn 31 = .ok (.bipush 9, 2) := by decide +kernel
theorem dX7_turn_33 : decode cX7_turn 33 = .ok (.invokestatic 46, 3) := by decide +kernel
theorem dX7_turn_36 : decode cX7_turn 36 = .ok (.ifCond .eq 18, 3) := by decide +kernel
theorem dX7_turn_39 : decode cX7_turn 39 = .ok (.iload 5, 2) := by decide +kernel
theorem dX7_turn_41 : decode cX7_turn 41 = .ok (.iconst 0, 1) := by decide +kernel
theorem dX7_turn_42 : decode cX7_turn 42 = .ok (.bipush 99, 2) := by decide +kernel
theorem dX7_turn_44 : decode cX7_turn 44 = .ok (.invokestatic 46, 3) := by decide +kernel
theorem dX7_turn_47 : decode cX7_turn 47 = .ok (.ifCond .eq 7, 3) := by decide +kernel
theorem dX7_turn_50 : decode cX7_turn 50 = .ok (.iconst 1, 1) := by decide +kernel
theorem dX7_turn_51 : decode cX7_turn 51 = .ok (.goto 4, 3) := by decide +kernel
theorem dX7_turn_54 : decode cX7_turn 54 = .ok (.iconst 0, 1) := by decide +kernel
theorem dX7_turn_55 : decode cX7_turn 55 = .ok (.istore 6, 2) := by decide +kernel
theorem dX7_turn_57 : decode cX7_turn 57 = .ok (.iload 6, 2) := by decide +kernel
theorem dX7_turn_59 : decode cX7_turn 59 = .ok (.ifCond .eq 12, 3) := by decide +kernel
theorem dX7_turn_62 : decode cX7_turn 62 = .ok (.aload_n 0, 1) := by decide +kernel
theorem dX7_turn_63 : decode cX7_turn 63 = .ok (.getfield 50, 3) := by decide +kernel
theorem dX7_turn_66 : decode cX7_turn 66 = .ok (.bipush 40, 2) := by decide +kernel
theorem dX7_turn_68 : decode cX7_turn 68 = .ok (.if_icmp .lt 5, 3) := by decide +kernel
theorem dX7_turn_71 : decode cX7_turn 71 = .ok (.iconst (-1), 1) := by decide +kernel
theorem dX7_turn_72 : decode cX7_turn 72 = .ok (.ireturn, 1) := by decide +kernel
theorem dX7_turn_73 : decode cX7_turn 73 = .ok (.aload_n 0, 1) := by decide +kernel
theorem dX7_turn_74 : decode cX7_turn 74 = .ok (.getfield 50, 3) := by decide +kernel
theorem dX7_turn_77 : decode cX7_turn 77 = .ok (.istore 7, 2) := by decide +kernel
theorem dX7_turn_79 : decode cX7_turn 79 = .ok (.aload_n 0, 1) := by decide +kernel
theorem dX7_turn_80 : decode cX7_turn 80 = .ok (.getfield 11, 3) := by decide +kernel
theorem dX7_turn_83 : decode cX7_turn 83 = .ok (.iload 7, 2) := by decide +kernel
theorem dX7_turn_85 : decode cX7_turn 85 = .ok (.new 9, 3) := by decide +kernel
theorem dX7_turn_88 : decode cX7_turn 88 = .ok (.dup, 1) := by decide +kernel
theorem dX7_turn_89 : decode cX7_turn 89 = .ok (.iload 7, 2) := by decide +kernel
theorem dX7_turn_91 : decode cX7_turn 91 = .ok (.iload_n 1, 1) := by decide +kernel
theorem dX7_turn_92 : decode cX7_turn 92 = .ok (.iload_n 2, 1) := by decide +kernel
theorem dX7_turn_93 : decode cX7_turn 93 = .ok (.iload_n 3, 1) := by decide +kernel
theorem dX7_turn_94 : decode cX7_turn 94 = .ok (.iload 4, 2) := by decide +kernel
theorem dX7_turn_96 : decode cX7_turn 96 = .ok (.iload 5, 2) := by decide +kernel
theorem dX7_turn_98 : decode cX7_turn 98 = .ok (.invokespecial 53, 3) := by decide +kernel
theorem dX7_turn_101 : decode cX7_turn 101 = .ok (.aastore, 1) := by decide +kernel
theorem dX7_turn_102 : decode cX7_turn 102 = .ok (.aload_n 0, 1) := by decide +kernel
theorem dX7_turn_103 : decode cX7_turn 103 = .ok (.dup, 1) := by decide +kernel
theorem dX7_turn_104 : decode cX7_turn 104 = .ok (.getfield 50, 3) := by decide +kernel
theorem dX7_turn_107 : decode cX7_turn 107 = .ok (.iconst 1, 1) := by decide +kernel
theorem dX7_turn_108 : decode cX7_turn 108 = .ok (.iadd, 1) := by decide +kernel
theorem dX7_turn_109 : decode cX7_turn 109 = .ok (.putfield 50, 3) := by decide +kernel
theorem dX7_turn_112 : decode cX7_turn 112 = .ok (.iload 7, 2) := by decide +kernel
theorem dX7_turn_114 : decode cX7_turn 114 = .ok (.ireturn, 1) := by decide +kernel
theorem dX7_hall_0 : decode cX7_hall 0 = .ok (.iload_n 1, 1) := by decide +kernel
theorem dX7_hall_1 : decode cX7_hall 1 = .ok (.iconst 0, 1) := by decide +kernel
theorem dX7_hall_2 : decode cX7_hall 2 = .ok (.sipush 300, 3) := by decide +kernel
theorem dX7_hall_5 : decode cX7_hall 5 = .ok (.invokestatic 46, 3) := by decide +kernel
theorem dX7_hall_8 : decode cX7_hall 8 = .ok (.ifCond .eq 29, 3) := by decide +kernel
theorem dX7_hall_11 : decode cX7_hall 11 = .ok (.iload_n 2, 1) := by decide +kernel
theorem dX7_hall_12 : decode cX7_hall 12 = .ok (.iconst 1, 1) := by decide +kernel
theorem dX7_hall_13 : decode cX7_hall 13 = .ok (.sipush 1000, 3) := by decide +kernel
theorem dX7_hall_16 : decode cX7_hall 16 = .ok (.invokestatic 46, 3) := by decide +kernel
theorem dX7_hall_19 : decode cX7_hall 19 = .ok (.ifCond .eq 18, 3) := by decide +kernel
theorem dX7_hall_22 : decode cX7_hall 22 = .ok (.iload_n 3, 1) := by decide +kernel
theorem dX7_hall_23 : decode cX7_hall 23 = .ok (.bipush 20, 2) := by decide +kernel
theorem dX7_hall_25 : decode cX7_hall 25 = .ok (.bipush 120, 2) := by decide +kernel
theorem dX7_hall_27 : decode cX7_hall 27 = .ok (.invokestatic 46, 3) := by decide +kernel
theorem dX7_hall_30 : decode cX7_hall 30 = .ok (.ifCond .eq 7, 3) := by decide +kernel
theorem dX7_hall_33 : decode cX7_hall 33 = .ok (.iconst 1, 1) := by decide +kernel
theorem dX7_hall_34 : decode cX7_hall 34 = .ok (.goto 4, 3) := by decide +kernel
theorem dX7_hall_37 : decode cX7_hall 37 = .ok (.iconst 0, 1) := by decide +kernel
theorem dX7_hall_38 : decode cX7_hall 38 = .ok (.istore 4, 2) := by decide +kernel
theorem dX7_hall_40 : decode cX7_hall 40 = .ok (.iload 4, 2) := by decide +kernel
theorem dX7_hall_42 : decode cX7_hall 42 = .ok (.ifCond .eq 12, 3) := by decide +kernel
theorem dX7_hall_45 : decode cX7_hall 45 = .ok (.aload_n 0, 1) := by decide +kernel
theorem dX7_hall_46 : decode cX7_hall 46 = .ok (.getfield 56, 3) := by decide +kernel
theorem dX7_hall_49 : decode cX7_hall 49 = .ok (.bipush 10, 2) := by decide +kernel
theorem dX7_hall_51 : decode cX7_hall 51 = .ok (.if_icmp .lt 5, 3) := by decide +kernel
theorem dX7_hall_54 : decode cX7_hall 54 = .ok (.iconst (-1), 1) := by decide +kernel
theorem dX7_hall_55 : decode cX7_hall 55 = .ok (.ireturn, 1) := by decide +kernel
theorem dX7_hall_56 : decode cX7_hall 56 = .ok (.aload_n 0, 1) := by decide +kernel
theorem dX7_hall_57 : decode cX7_hall 57 = .ok (.getfield 56, 3) := by decide +kernel
theorem dX7_hall_60 : decode cX7_hall 60 = .ok (.istore 5, 2) := by decide +kernel
theorem dX7_hall_62 : decode cX7_hall 62 = .ok (.aload_n 0, 1) := by decide +kernel
theorem dX7_hall_63 : decode cX7_hall 63 = .ok (.getfield 17, 3) := by decide +kernel
theorem dX7_hall_66 : decode cX7_hall 66 = .ok (.iload 5, 2) := by decide +kernel
theorem dX7_hall_68 : decode cX7_hall 68 = .ok (.new 15, 3) := by decide +kernel
theorem dX7_hall_71 : decode cX7_hall 71 = .ok (.dup, 1) := by decide +kernel
theorem dX7_hall_72 : decode cX7_hall 72 = .ok (.iload 5, 2) := by decide +kernel
theorem dX7_hall_74 : decode cX7_hall 74 = .ok (.iload_n 1, 1) := by decide +kernel
theorem dX7_hall_75 : decode cX7_hall 75 = .ok (.iload_n 2, 1) := by decide +kernel
theorem dX7_hall_76 : decode cX7_hall 76 = .ok (.iload_n 3, 1) := by decide +kernel
theorem dX7_hall_77 : decode cX7_hall 77 = .ok (.invokespecial 59, 3) := by decide +kernel
theorem dX7_hall_80 : decode cX7_hall 80 = .ok (.aastore, 1) := by decide +kernel
theorem dX7_hall_81 : decode cX7_hall 81 = .ok (.aload_n 0, 1) := by decide +kernel
theorem dX7_hall_82 : decode cX7_hall 82 = .ok (.dup, 1) := by decide +kernel
theorem dX7_hall_83 : decode cX7_hall 83 = .ok (.getfield 56, 3) := by decide +kernel
theorem dX7_hall_86 : decode cX7_hall 86 = .ok (.iconst 1, 1) := by decide +kernel
theorem dX7_hall_87 : decode cX7_hall 87 = .ok (.iadd, 1) := by decide +kernel
theorem dX7_hall_88 : decode cX7_hall 88 = .ok (.putfield 56, 3) := by decide +kernel
theorem dX7_hall_91 : decode cX7_hall 91 = .ok (.iload 5, 2) := by decide +kernel
theorem dX7_hall_93 : decode cX7_hall 93 = .ok (.ireturn, 1) := by decide +kernel
theorem dX7_feed_0 : decode cX7_feed 0 = .ok (.aload_n 0, 1) := by decide +kernel
theorem dX7_feed_1 : decode cX7_feed 1 = .ok (.getfield 62, 3) := by decide +kernel
theorem dX7_feed_4 : decode cX7_feed 4 = .ok (.sipush 580, 3) := by decide +kernel
theorem dX7_feed_7 : decode cX7_feed 7 = .ok (.if_icmp .le 5, 3) := by decide +kernel
theorem dX7_feed_10 : decode cX7_feed 10 = .ok (.iconst (-1), 1) := by decide +kernel
theorem dX7_feed_11 : decode cX7_feed 11 = .ok (.ireturn, 1) := by decide +kernel
theorem dX7_feed_12 : decode cX7_feed 12 = .ok (.aload_n 0, 1) := by decide +kernel
theorem dX7_feed_13 : decode cX7_feed 13 = .ok (.iload_n 1, 1) := by decide +kernel
theorem dX7_feed_14 : decode cX7_feed 14 = .ok (.invokevirtual 65, 3) := by decide +kernel
theorem dX7_feed_17 : decode cX7_feed 17 = .ok (.aload_n 0, 1) := by decide +kernel
theorem dX7_feed_18 : decode cX7_feed 18 = .ok (.iload_n 2, 1) := by decide +kernel
theorem dX7_feed_19 : decode cX7_feed 19 = .ok (.invokevirtual 65, 3) := by decide +kernel
theorem dX7_feed_22 : decode cX7_feed 22 = .ok (.aload_n 0, 1) := by decide +kernel
theorem dX7_feed_23 : decode cX7_feed 23 = .ok (.iload_n 3, 1) := by decide +kernel
theorem dX7_feed_24 : decode cX7_feed 24 = .ok (.invokevirtual 65, 3) := by decide +kernel
theorem dX7_feed_27 : decode cX7_feed 27 = .ok (.aload_n 0, 1) := by decide +kernel
theorem dX7_feed_28 : decode cX7_feed 28 = .ok (.iload 4, 2) := by decide +kernel
theorem dX7_feed_30 : decode cX7_feed 30 = .ok (.invokevirtual 65, 3) := by decide +kernel
theorem dX7_feed_33 : decode cX7_feed 33 = .ok (.aload_n 0, 1) := by decide +kernel
theorem dX7_feed_34 : decode cX7_feed 34 = .ok (.iload 5, 2) := by decide +kernel
theorem dX7_feed_36 : decode cX7_feed 36 = .ok (.invokevirtual 65, 3) := by decide +kernel
theorem dX7_feed_39 : decode cX7_feed 39 = .ok (.aload_n 0, 1) := by decide +kernel
theorem dX7_feed_40 : decode cX7_feed 40 = .ok (.getfield 62, 3) := by decide +kernel
theorem dX7_feed_43 : decode cX7_feed 43 = .ok (.ireturn, 1) := by decide +kernel
theorem dX7_sign_0 : decode cX7_sign 0 = .ok (.aload_n 0, 1) := by decide +kernel
theorem dX7_sign_1 : decode cX7_sign 1 = .ok (.iload_n 1, 1) := by decide +kernel
theorem dX7_sign_2 : decode cX7_sign 2 = .ok (.invokevirtual 69, 3) := by decide +kernel
theorem dX7_sign_5 : decode cX7_sign 5 = .ok (.astore 4, 2) := by decide +kernel
theorem dX7_sign_7 : decode cX7_sign 7 = .ok (.aload 4, 2) := by decide +kernel
theorem dX7_sign_9 : decode cX7_sign 9 = .ok (.ifnull 22, 3) := by decide +kernel
theorem dX7_sign_12 : decode cX7_sign 12 = .ok (.iload_n 2, 1) := by decide +kernel
theorem dX7_sign_13 : decode cX7_sign 13 = .ok (.invokestatic 73, 3) := by decide +kernel
theorem dX7_sign_16 : decode cX7_sign 16 = .ok (.ifCond .eq 15, 3) := by decide +kernel
theorem dX7_sign_19 : decode cX7_sign 19 = .ok (.iload_n 3, 1) := by decide +kernel
theorem dX7_sign_20 : decode cX7_sign 20 = .ok (.ifCond .lt 11, 3) := by decide +kernel
theorem dX7_sign_23 : decode cX7_sign 23 = .ok (.iload_n 3, 1) := by decide +kernel
theorem dX7_sign_24 : decode cX7_sign 24 = .ok (.aload_n 0, 1) := by decide +kernel
theorem dX7_sign_25 : decode cX7_sign 25 = .ok (.getfield 62, 3) := by decide +kernel
theorem dX7_sign_28 : decode cX7_sign 28 = .ok (.if_icmp .le 6, 3) := by decide +kernel
theorem dX7_sign_31 : decode cX7_sign 31 = .ok (.bipush (-2), 2) := by decide +kernel
theorem dX7_sign_33 : decode cX7_sign 33 = .ok (.ireturn, 1) := by decide +kernel
theorem dX7_sign_34 : decode cX7_sign 34 = .ok (.aload_n 0, 1) := by decide +kernel
theorem dX7_sign_35 : decode cX7_sign 35 = .ok (.getfield 77, 3) := by decide +kernel
theorem dX7_sign_38 : decode cX7_sign 38 = .ok (.bipush 60, 2) := by decide +kernel
theorem dX7_sign_40 : decode cX7_sign 40 = .ok (.if_icmp .lt 6, 3) := by decide +kernel
theorem dX7_sign_43 : decode cX7_sign 43 = .ok (.bipush (-3), 2) := by decide +kernel
theorem dX7_sign_45 : decode cX7_sign 45 = .ok (.ireturn, 1) := by decide +kernel
theorem dX7_sign_46 : decode cX7_sign 46 = .ok (.new 80, 3) := by decide +kernel
theorem dX7_sign_49 : decode cX7_sign 49 = .ok (.dup, 1) := by decide +kernel
theorem dX7_sign_50 : decode cX7_sign 50 = .ok (.aload_n 0, 1) := by decide +kernel
theorem dX7_sign_51 : decode cX7_sign 51 = .ok (.getfield 21, 3) := by decide +kernel
theorem dX7_sign_54 : decode cX7_sign 54 = .ok (.iload_n 3, 1) := by decide +kernel
theorem dX7_sign_55 : decode cX7_sign 55 = .ok (.invokespecial 82, 3) := by decide +kernel
theorem dX7_sign_58 : decode cX7_sign 58 = .ok (.astore 5, 2) := by decide +kernel
theorem dX7_sign_60 : decode cX7_sign 60 = .ok (.aload 5, 2) := by decide +kernel
theorem dX7_sign_62 : decode cX7_sign 62 = .ok (.invokevirtual 85, 3) := by decide +kernel
theorem dX7_sign_65 : decode cX7_sign 65 = .ok (.istore 6, 2) := by decide +kernel
theorem dX7_sign_67 : decode cX7_sign 67 = .ok (.aload_n 0, 1) := by decide +kernel
theorem dX7_sign_68 : decode cX7_sign 68 = .ok (.iconst 0, 1) := by decide +kernel
theorem dX7_sign_69 : decode cX7_sign 69 = .ok (.putfield 62, 3) := by decide +kernel
theorem dX7_sign_72 : decode cX7_sign 72 = .ok (.iload 6, 2) := by decide +kernel
theorem dX7_sign_74 : decode cX7_sign 74 = .ok (.ifCond .ne 14, 3) := by decide +kernel
theorem dX7_sign_77 : decode cX7_sign 77 = .ok (.aload_n 0, 1) := by decide +kernel
theorem dX7_sign_78 : decode cX7_sign 78 = .ok (.aload 5, 2) := by decide +kernel
theorem dX7_sign_80 : decode cX7_sign 80 = .ok (.getfield 89, 3) := by decide +kernel
theorem dX7_sign_83 : decode cX7_sign 83 = .ok (.putfield 39, 3) := by decide +kernel
theorem dX7_sign_86 : decode cX7_sign 86 = .ok (.iconst (-1), 1) := by decide +kernel
theorem dX7_sign_87 : decode cX7_sign 87 = .ok (.ireturn, 1) := by decide +kernel
theorem dX7_sign_88 : decode cX7_sign 88 = .ok (.aload_n 0, 1) := by decide +kernel
theorem dX7_sign_89 : decode cX7_sign 89 = .ok (.iconst (-1), 1) := by decide +kernel
theorem dX7_sign_90 : decode cX7_sign 90 = .ok (.putfield 39, 3) := by decide +kernel
theorem dX7_sign_93 : decode cX7_sign 93 = .ok (.aload_n 0, 1) := by decide +kernel
theorem dX7_sign_94 : decode cX7_sign 94 = .ok (.getfield 77, 3) := by decide +kernel
theorem dX7_sign_97 : decode cX7_sign 97 = .ok (.istore 7, 2) := by decide +kernel
theorem dX7_sign_99 : decode cX7_sign 99 = .ok (.aload 4, 2) := by decide +kernel
theorem dX7_sign_101 : decode cX7_sign 101 = .ok (.new 92, 3) := by decide +kernel
theorem dX7_sign_104 : decode cX7_sign 104 = .ok (.dup, 1) := by decide +kernel
theorem dX7_sign_105 : decode cX7_sign 105 = .ok (.iload 7, 2) := by decide +kernel
theorem dX7_sign_107 : decode cX7_sign 107 = .ok (.iload_n 2, 1) := by decide +kernel
theorem dX7_sign_108 : decode cX7_sign 108 = .ok (.aload_n 0, 1) := by decide +kernel
theorem dX7_sign_109 : decode cX7_sign 109 = .ok (.getfield 43, 3) := by decide +kernel
theorem dX7_sign_112 : decode cX7_sign 112 = .ok (.aload 5, 2) := by decide +kernel
theorem dX7_sign_114 : decode cX7_sign 114 = .ok (.getfield 94, 3) := by decide +kernel
theorem dX7_sign_117 : decode cX7_sign 117 = .ok (.aload 4, 2) := by decide +kernel
theorem dX7_sign_119 : decode cX7_sign 119 = .ok (.getfield 98, 3) := by decide +kernel
theorem dX7_sign_122 : decode cX7_sign 122 = .ok (.invokespecial 101, 3) := by decide +kernel
theorem dX7_sign_125 : decode cX7_sign 125 = .ok (.putfield 98, 3) := by decide +kernel
theorem dX7_sign_128 : decode cX7_sign 128 = .ok (.aload_n 0, 1) := by decide +kernel
theorem dX7_sign_129 : decode cX7_sign 129 = .ok (.dup, 1) := by decide +kernel
theorem dX7_sign_130 : decode cX7_sign 130 = .ok (.getfield 77, 3) := by decide +kernel
theorem dX7_sign_133 : decode cX7_sign 133 = .ok (.iconst 1, 1) := by decide +kernel
theorem dX7_sign_134 : decode cX7_sign 134 = .ok (.iadd, 1) := by decide +kernel
theorem dX7_sign_135 : decode cX7_sign 135 = .ok (.putfield 77, 3) := by decide +kernel
theorem dX7_sign_138 : decode cX7_sign 138 = .ok (.iload 7, 2) := by decide +kernel
theorem dX7_sign_140 : decode cX7_sign 140 = .ok (.ireturn, 1) := by decide +kernel
theorem dX7_fault_0 : decode cX7_fault 0 = .ok (.aload_n 0, 1) := by decide +kernel
theorem dX7_fault_1 : decode cX7_fault 1 = .ok (.getfield 39, 3) := by decide +kernel
theorem dX7_fault_4 : decode cX7_fault 4 = .ok (.ireturn, 1) := by decide +kernel
theorem dX7_force_0 : decode cX7_force 0 = .ok (.aload_n 0, 1) := by decide +kernel
theorem dX7_force_1 : decode cX7_force 1 = .ok (.iload_n 1, 1) := by decide +kernel
theorem dX7_force_2 : decode cX7_force 2 = .ok (.invokevirtual 69, 3) := by decide +kernel
theorem dX7_force_5 : decode cX7_force 5 = .ok (.iload_n 2, 1) := by decide +kernel
theorem dX7_force_6 : decode cX7_force 6 = .ok (.iload_n 3, 1) := by decide +kernel
theorem dX7_force_7 : decode cX7_force 7 = .ok (.invokestatic 104, 3) := by decide +kernel
theorem dX7_force_10 : decode cX7_force 10 = .ok (.astore 4, 2) := by decide +kernel
theorem dX7_force_12 : decode cX7_force 12 = .ok (.aload 4, 2) := by decide +kernel
theorem dX7_force_14 : decode cX7_force 14 = .ok (.ifnonnull 7, 3) := by decide +kernel
theorem dX7_force_17 : decode cX7_force 17 = .ok (.iconst (-1), 1) := by decide +kernel
theorem dX7_force_18 : decode cX7_force 18 = .ok (.goto 8, 3) := by decide +kernel
theorem dX7_force_21 : decode cX7_force 21 = .ok (.aload 4, 2) := by decide +kernel
theorem dX7_force_23 : decode cX7_force 23 = .ok (.getfield 108, 3) := by decide +kernel
theorem dX7_force_26 : decode cX7_force 26 = .ok (.ireturn, 1) := by decide +kernel
theorem dX7_why_0 : decode cX7_why 0 = .ok (.aload_n 0, 1) := by decide +kernel
theorem dX7_why_1 : decode cX7_why 1 = .ok (.aload_n 0, 1) := by decide +kernel
theorem dX7_why_2 : decode cX7_why 2 = .ok (.iload_n 1, 1) := by decide +kernel
theorem dX7_why_3 : decode cX7_why 3 = .ok (.invokevirtual 69, 3) := by decide +kernel
theorem dX7_why_6 : decode cX7_why 6 = .ok (.aload_n 0, 1) := by decide +kernel
theorem dX7_why_7 : decode cX7_why 7 = .ok (.iload_n 2, 1) := by decide +kernel
theorem dX7_why_8 : decode cX7_why 8 = .ok (.invokevirtual 111, 3) := by decide +kernel
theorem dX7_why_11 : decode cX7_why 11 = .ok (.iload_n 3, 1) := by decide +kernel
theorem dX7_why_12 : decode cX7_why 12 = .ok (.invokevirtual 115, 3) := by decide +kernel
theorem dX7_why_15 : decode cX7_why 15 = .ok (.ireturn, 1) := by decide +kernel
theorem dX7_book_0 : decode cX7_book 0 = .ok (.aload_n 0, 1) := by decide +kernel
theorem dX7_book_1 : decode cX7_book 1 = .ok (.iload_n 1, 1) := by decide +kernel
theorem dX7_book_2 : decode cX7_book 2 = .ok (.invokevirtual 69, 3) := by decide +kernel
theorem dX7_book_5 : decode cX7_book 5 = .ok (.astore 4, 2) := by decide +kernel
theorem dX7_book_7 : decode cX7_book 7 = .ok (.aload_n 0, 1) := by decide +kernel
theorem dX7_book_8 : decode cX7_book 8 = .ok (.iload_n 2, 1) := by decide +kernel
theorem dX7_book_9 : decode cX7_book 9 = .ok (.invokevirtual 111, 3) := by decide +kernel
theorem dX7_book_12 : decode cX7_book 12 = .ok (.astore 5, 2) := by decide +kernel
theorem dX7_book_14 : decode cX7_book 14 = .ok (.aload 4, 2) := by decide +kernel
theorem dX7_book_16 : decode cX7_book 16 = .ok (.ifnull 18, 3) := by decide +kernel
theorem dX7_book_19 : decode cX7_book 19 = .ok (.aload 5, 2) := by decide +kernel
theorem dX7_book_21 : decode cX7_book 21 = .ok (.ifnull 13, 3) := by decide +kernel
theorem dX7_book_24 : decode cX7_book 24 = .ok (.aload_n 0, 1) := by decide +kernel
theorem dX7_book_25 : decode cX7_book 25 = .ok (.getfield 119, 3) := by decide +kernel
theorem dX7_book_28 : decode cX7_book 28 = .ok (.sipush 400, 3) := by decide +kernel
theorem dX7_book_31 : decode cX7_book 31 = .ok (.if_icmp .lt 5, 3) := by decide +kernel
theorem dX7_book_34 : decode cX7_book 34 = .ok (.iconst (-1), 1) := by decide +kernel
theorem dX7_book_35 : decode cX7_book 35 = .ok (.ireturn, 1) := by decide +kernel
theorem dX7_book_36 : decode cX7_book 36 = .ok (.aload_n 0, 1) := by decide +kernel
theorem dX7_book_37 : decode cX7_book 37 = .ok (.aload 4, 2) := by decide +kernel
theorem dX7_book_39 : decode cX7_book 39 = .ok (.aload 5, 2) := by decide +kernel
theorem dX7_book_41 : decode cX7_book 41 = .ok (.iload_n 3, 1) := by decide +kernel
theorem dX7_book_42 : decode cX7_book 42 = .ok (.invokevirtual 115, 3) := by decide +kernel
theorem dX7_book_45 : decode cX7_book 45 = .ok (.ifCond .eq 5, 3) := by decide +kernel
theorem dX7_book_48 : decode cX7_book 48 = .ok (.iconst (-1), 1) := by decide +kernel
theorem dX7_book_49 : decode cX7_book 49 = .ok (.ireturn, 1) := by decide +kernel
theorem dX7_book_50 : decode cX7_book 50 = .ok (.aload_n 0, 1) := by decide +kernel
theorem dX7_book_51 : decode cX7_book 51 = .ok (.aload 4, 2) := by decide +kernel
theorem dX7_book_53 : decode cX7_book 53 = .ok (.aload 5, 2) := by decide +kernel
theorem dX7_book_55 : decode cX7_book 55 = .ok (.iload_n 3, 1) := by decide +kernel
theorem dX7_book_56 : decode cX7_book 56 = .ok (.invokevirtual 122, 3) := by decide +kernel
theorem dX7_book_59 : decode cX7_book 59 = .ok (.aload_n 0, 1) := by decide +kernel
theorem dX7_book_60 : decode cX7_book 60 = .ok (.aload 5, 2) := by decide +kernel
theorem dX7_book_62 : decode cX7_book 62 = .ok (.iload_n 3, 1) := by decide +kernel
theorem dX7_book_63 : decode cX7_book 63 = .ok (.invokevirtual 126, 3) := by decide +kernel
theorem dX7_book_66 : decode cX7_book 66 = .ok (.aload_n 0, 1) := by decide +kernel
theorem dX7_book_67 : decode cX7_book 67 = .ok (.getfield 28, 3) := by decide +kernel
theorem dX7_book_70 : decode cX7_book 70 = .ok (.getfield 130, 3) := by decide +kernel
theorem dX7_book_73 : decode cX7_book 73 = .ok (.ireturn, 1) := by decide +kernel
theorem dX7_cancel_0 : decode cX7_cancel 0 = .ok (.aload_n 0, 1) := by decide +kernel
theorem dX7_cancel_1 : decode cX7_cancel 1 = .ok (.iload_n 1, 1) := by decide +kernel
theorem dX7_cancel_2 : decode cX7_cancel 2 = .ok (.invokevirtual 69, 3) := by decide +kernel
theorem dX7_cancel_5 : decode cX7_cancel 5 = .ok (.astore_n 3, 1) := by decide +kernel
theorem dX7_cancel_6 : decode cX7_cancel 6 = .ok (.aload_n 3, 1) := by decide +kernel
theorem dX7_cancel_7 : decode cX7_cancel 7 = .ok (.ifnull 19, 3) := by decide +kernel
theorem dX7_cancel_10 : decode cX7_cancel 10 = .ok (.aload_n 0, 1) := by decide +kernel
theorem dX7_cancel_11 : decode cX7_cancel 11 = .ok (.iload_n 2, 1) := by decide +kernel
theorem dX7_cancel_12 : decode cX7_cancel 12 = .ok (.invokevirtual 133, 3) := by decide +kernel
theorem dX7_cancel_15 : decode cX7_cancel 15 = .ok (.ifCond .eq 11, 3) := by decide +kernel
theorem dX7_cancel_18 : decode cX7_cancel 18 = .ok (.aload_n 3, 1) := by decide +kernel
theorem dX7_cancel_19 : decode cX7_cancel 19 = .ok (.iload_n 2, 1) := by decide +kernel
theorem dX7_cancel_20 : decode cX7_cancel 20 = .ok (.invokevirtual 136, 3) := by decide +kernel
theorem dX7_cancel_23 : decode cX7_cancel 23 = .ok (.ifnonnull 5, 3) := by decide +kernel
theorem dX7_cancel_26 : decode cX7_cancel 26 = .ok (.iconst 0, 1) := by decide +kernel
theorem dX7_cancel_27 : decode cX7_cancel 27 = .ok (.ireturn, 1) := by decide +kernel
theorem dX7_cancel_28 : decode cX7_cancel 28 = .ok (.aload_n 0, 1) := by decide +kernel
theorem dX7_cancel_29 : decode cX7_cancel 29 = .ok (.aload_n 3, 1) := by decide +kernel
theorem dX7_cancel_30 : decode cX7_cancel 30 = .ok (.iload_n 2, 1) := by decide +kernel
theorem dX7_cancel_31 : decode cX7_cancel 31 = .ok (.invokevirtual 139, 3) := by decide +kernel
theorem dX7_cancel_34 : decode cX7_cancel 34 = .ok (.iconst 1, 1) := by decide +kernel
theorem dX7_cancel_35 : decode cX7_cancel 35 = .ok (.ireturn, 1) := by decide +kernel
theorem dX7_where_0 : decode cX7_where 0 = .ok (.aload_n 0, 1) := by decide +kernel
theorem dX7_where_1 : decode cX7_where 1 = .ok (.iload_n 1, 1) := by decide +kernel
theorem dX7_where_2 : decode cX7_where 2 = .ok (.invokevirtual 69, 3) := by decide +kernel
theorem dX7_where_5 : decode cX7_where 5 = .ok (.astore_n 3, 1) := by decide +kernel
theorem dX7_where_6 : decode cX7_where 6 = .ok (.aload_n 3, 1) := by decide +kernel
theorem dX7_where_7 : decode cX7_where 7 = .ok (.ifnonnull 7, 3) := by decide +kernel
theorem dX7_where_10 : decode cX7_where 10 = .ok (.aconst_null, 1) := by decide +kernel
theorem dX7_where_11 : decode cX7_where 11 = .ok (.goto 8, 3) := by decide +kernel
theorem dX7_where_14 : decode cX7_where 14 = .ok (.aload_n 3, 1) := by decide +kernel
theorem dX7_where_15 : decode cX7_where 15 = .ok (.iload_n 2, 1) := by decide +kernel
theorem dX7_where_16 : decode cX7_where 16 = .ok (.invokevirtual 136, 3) := by decide +kernel
theorem dX7_where_19 : decode cX7_where 19 = .ok (.astore 4, 2) := by decide +kernel
theorem dX7_where_21 : decode cX7_where 21 = .ok (.aload 4, 2) := by decide +kernel
theorem dX7_where_23 : decode cX7_where 23 = .ok (.ifnonnull 7, 3) := by decide +kernel
theorem dX7_where_26 : decode cX7_where 26 = .ok (.iconst (-1), 1) := by decide +kernel
theorem dX7_where_27 : decode cX7_where 27 = .ok (.goto 8, 3) := by decide +kernel
theorem dX7_where_30 : decode cX7_where 30 = .ok (.aload 4, 2) := by decide +kernel
theorem dX7_where_32 : decode cX7_where 32 = .ok (.getfield 143, 3) := by decide +kernel
theorem dX7_where_35 : decode cX7_where 35 = .ok (.ireturn, 1) := by decide +kernel
theorem dX7_bill_0 : decode cX7_bill 0 = .ok (.aload_n 0, 1) := by decide +kernel
theorem dX7_bill_1 : decode cX7_bill 1 = .ok (.iload_n 1, 1) := by decide +kernel
theorem dX7_bill_2 : decode cX7_bill 2 = .ok (.invokevirtual 111, 3) := by decide +kernel
theorem dX7_bill_5 : decode cX7_bill 5 = .ok (.astore 4, 2) := by decide +kernel
theorem dX7_bill_7 : decode cX7_bill 7 = .ok (.aload 4, 2) := by decide +kernel
theorem dX7_bill_9 : decode cX7_bill 9 = .ok (.ifnull 10, 3) := by decide +kernel
theorem dX7_bill_12 : decode cX7_bill 12 = .ok (.iload_n 2, 1) := by decide +kernel
theorem dX7_bill_13 : decode cX7_bill 13 = .ok (.invokestatic 73, 3) := by decide +kernel
theorem dX7_bill_16 : decode cX7_bill 16 = .ok (.ifCond .ne 5, 3) := by decide +kernel
theorem dX7_bill_19 : decode cX7_bill 19 = .ok (.iconst (-1), 1) := by decide +kernel
theorem dX7_bill_20 : decode cX7_bill 20 = .ok (.ireturn, 1) := by decide +kernel
theorem dX7_bill_21 : decode cX7_bill 21 = .ok (.aload_n 0, 1) := by decide +kernel
theorem dX7_bill_22 : decode cX7_bill 22 = .ok (.aload 4, 2) := by decide +kernel
theorem dX7_bill_24 : decode cX7_bill 24 = .ok (.iload_n 2, 1) := by decide +kernel
theorem dX7_bill_25 : decode cX7_bill 25 = .ok (.invokevirtual 126, 3) := by decide +kernel
theorem dX7_bill_28 : decode cX7_bill 28 = .ok (.iload_n 3, 1) := by decide +kernel
theorem dX7_bill_29 : decode cX7_bill 29 = .ok (.tableswitch 97 0 4 #[35, 43, 51, 76, 89], 35) := by decide +kernel
theorem dX7_bill_64 : decode cX7_bill 64 = .ok (.aload_n 0, 1) := by decide +kernel
theorem dX7_bill_65 : decode cX7_bill 65 = .ok (.getfield 28, 3) := by decide +kernel
theorem dX7_bill_68 : decode cX7_bill 68 = .ok (.getfield 130, 3) := by decide +kernel
theorem dX7_bill_71 : decode cX7_bill 71 = .ok (.ireturn, 1) := by decide +kernel
theorem dX7_bill_72 : decode cX7_bill 72 = .ok (.aload_n 0, 1) := by decide +kernel
theorem dX7_bill_73 : decode cX7_bill 73 = .ok (.getfield 28, 3) := by decide +kernel
theorem dX7_bill_76 : decode cX7_bill 76 = .ok (.invokevirtual 144, 3) := by decide +kernel
theorem dX7_bill_79 : decode cX7_bill 79 = .ok (.ireturn, 1) := by decide +kernel
theorem dX7_bill_80 : decode cX7_bill 80 = .ok (.aload 4, 2) := by decide +kernel
theorem dX7_bill_82 : decode cX7_bill 82 = .ok (.getfield 148, 3) := by decide +kernel
theorem dX7_bill_85 : decode cX7_bill 85 = .ok (.bipush 100, 2) := by decide +kernel
theorem dX7_bill_87 : decode cX7_bill 87 = .ok (.bipush 40, 2) := by decide +kernel
theorem dX7_bill_89 : decode cX7_bill 89 = .ok (.aload_n 0, 1) := by decide +kernel
theorem dX7_bill_90 : decode cX7_bill 90 = .ok (.getfield 28, 3) := by decide +kernel
theorem dX7_bill_93 : decode cX7_bill 93 = .ok (.invokevirtual 151, 3) := by decide +kernel
theorem dX7_bill_96 : decode cX7_bill 96 = .ok (.iadd, 1) := by decide +kernel
theorem dX7_bill_97 : decode cX7_bill 97 = .ok (.invokestatic 154, 3) := by decide +kernel
theorem dX7_bill_100 : decode cX7_bill 100 = .ok (.imul, 1) := by decide +kernel
theorem dX7_bill_101 : decode cX7_bill 101 = .ok (.bipush 100, 2) := by decide +kernel
theorem dX7_bill_103 : decode cX7_bill 103 = .ok (.idiv, 1) := by decide +kernel
theorem dX7_bill_104 : decode cX7_bill 104 = .ok (.ireturn, 1) := by decide +kernel
theorem dX7_bill_105 : decode cX7_bill 105 = .ok (.aload_n 0, 1) := by decide +kernel
theorem dX7_bill_106 : decode cX7_bill 106 = .ok (.getfield 28, 3) := by decide +kernel
theorem dX7_bill_109 : decode cX7_bill 109 = .ok (.iload_n 2, 1) := by decide +kernel
theorem dX7_bill_110 : decode cX7_bill 110 = .ok (.aload_n 0, 1) := by decide +kernel
theorem dX7_bill_111 : decode cX7_bill 111 = .ok (.getfield 43, 3) := by decide +kernel
theorem dX7_bill_114 : decode cX7_bill 114 = .ok (.invokevirtual 160, 3) := by decide +kernel
theorem dX7_bill_117 : decode cX7_bill 117 = .ok (.ireturn, 1) := by decide +kernel
theorem dX7_bill_118 : decode cX7_bill 118 = .ok (.aload_n 0, 1) := by decide +kernel
theorem dX7_bill_119 : decode cX7_bill 119 = .ok (.getfield 28, 3) := by decide +kernel
theorem dX7_bill_122 : decode cX7_bill 122 = .ok (.invokevirtual 163, 3) := by decide +kernel
theorem dX7_bill_125 : decode cX7_bill 125 = .ok (.ireturn, 1) := by decide +kernel
theorem dX7_bill_126 : decode cX7_bill 126 = .ok (.iload_n 3, 1) := by decide +kernel
theorem dX7_bill_127 : decode cX7_bill 127 = .ok (.bipush 10, 2) := by decide +kernel
theorem dX7_bill_129 : decode cX7_bill 129 = .ok (.if_icmp .ge 7, 3) := by decide +kernel
theorem dX7_bill_132 : decode cX7_bill 132 = .ok (.iconst (-1), 1) := by decide +kernel
theorem dX7_bill_133 : decode cX7_bill 133 = .ok (.goto 14, 3) := by decide +kernel
theorem dX7_bill_136 : decode cX7_bill 136 = .ok (.aload_n 0, 1) := by decide +kernel
theorem dX7_bill_137 : decode cX7_bill 137 = .ok (.getfield 28, 3) := by decide +kernel
theorem dX7_bill_140 : decode cX7_bill 140 = .ok (.iload_n 3, 1) := by decide +kernel
theorem dX7_bill_141 : decode cX7_bill 141 = .ok (.bipush 10, 2) := by decide +kernel
theorem dX7_bill_143 : decode cX7_bill 143 = .ok (.isub, 1) := by decide +kernel
theorem dX7_bill_144 : decode cX7_bill 144 = .ok (.invokevirtual 166, 3) := by decide +kernel
theorem dX7_bill_147 : decode cX7_bill 147 = .ok (.ireturn, 1) := by decide +kernel
theorem dX7_order_0 : decode cX7_order 0 = .ok (.aload_n 0, 1) := by decide +kernel
theorem dX7_order_1 : decode cX7_order 1 = .ok (.iload_n 1, 1) := by decide +kernel
theorem dX7_order_2 : decode cX7_order 2 = .ok (.iload_n 2, 1) := by decide +kernel
theorem dX7_order_3 : decode cX7_order 3 = .ok (.invokevirtual 170, 3) := by decide +kernel
theorem dX7_order_6 : decode cX7_order 6 = .ok (.aload_n 0, 1) := by decide +kernel
theorem dX7_order_7 : decode cX7_order 7 = .ok (.getfield 35, 3) := by decide +kernel
theorem dX7_order_10 : decode cX7_order 10 = .ok (.iload_n 3, 1) := by decide +kernel
theorem dX7_order_11 : decode cX7_order 11 = .ok (.invokevirtual 174, 3) := by decide +kernel
theorem dX7_order_14 : decode cX7_order 14 = .ok (.ireturn, 1) := by decide +kernel
theorem dX7_waits_0 : decode cX7_waits 0 = .ok (.aload_n 0, 1) := by decide +kernel
theorem dX7_waits_1 : decode cX7_waits 1 = .ok (.iload_n 1, 1) := by decide +kernel
theorem dX7_waits_2 : decode cX7_waits 2 = .ok (.iload_n 2, 1) := by decide +kernel
theorem dX7_waits_3 : decode cX7_waits 3 = .ok (.invokevirtual 170, 3) := by decide +kernel
theorem dX7_waits_6 : decode cX7_waits 6 = .ok (.aload_n 0, 1) := by decide +kernel
theorem dX7_waits_7 : decode cX7_waits 7 = .ok (.getfield 35, 3) := by decide +kernel
theorem dX7_waits_10 : decode cX7_waits 10 = .ok (.getfield 175, 3) := by decide +kernel
theorem dX7_waits_13 : decode cX7_waits 13 = .ok (.ireturn, 1) := by decide +kernel
theorem dX7_fail_0 : decode cX7_fail 0 = .ok (.aload_n 0, 1) := by decide +kernel
theorem dX7_fail_1 : decode cX7_fail 1 = .ok (.iload_n 1, 1) := by decide +kernel
theorem dX7_fail_2 : decode cX7_fail 2 = .ok (.invokevirtual 69, 3) := by decide +kernel
theorem dX7_fail_5 : decode cX7_fail 5 = .ok (.astore_n 3, 1) := by decide +kernel
theorem dX7_fail_6 : decode cX7_fail 6 = .ok (.aload_n 3, 1) := by decide +kernel
theorem dX7_fail_7 : decode cX7_fail 7 = .ok (.ifnull 11, 3) := by decide +kernel
theorem dX7_fail_10 : decode cX7_fail 10 = .ok (.aload_n 0, 1) := by decide +kernel
theorem dX7_fail_11 : decode cX7_fail 11 = .ok (.iload_n 2, 1) := by decide +kernel
theorem dX7_fail_12 : decode cX7_fail 12 = .ok (.invokevirtual 133, 3) := by decide +kernel
theorem dX7_fail_15 : decode cX7_fail 15 = .ok (.ifCond .ne 6, 3) := by decide +kernel
theorem dX7_fail_18 : decode cX7_fail 18 = .ok (.bipush (-2), 2) := by decide +kernel
theorem dX7_fail_20 : decode cX7_fail 20 = .ok (.ireturn, 1) := by decide +kernel
theorem dX7_fail_21 : decode cX7_fail 21 = .ok (.aload_n 3, 1) := by decide +kernel
theorem dX7_fail_22 : decode cX7_fail 22 = .ok (.iload_n 2, 1) := by decide +kernel
theorem dX7_fail_23 : decode cX7_fail 23 = .ok (.invokevirtual 136, 3) := by decide +kernel
theorem dX7_fail_26 : decode cX7_fail 26 = .ok (.astore 4, 2) := by decide +kernel
theorem dX7_fail_28 : decode cX7_fail 28 = .ok (.aload 4, 2) := by decide +kernel
theorem dX7_fail_30 : decode cX7_fail 30 = .ok (.ifnonnull 6, 3) := by decide +kernel
theorem dX7_fail_33 : decode cX7_fail 33 = .ok (.bipush (-2), 2) := by decide +kernel
theorem dX7_fail_35 : decode cX7_fail 35 = .ok (.ireturn, 1) := by decide +kernel
theorem dX7_fail_36 : decode cX7_fail 36 = .ok (.aload_n 0, 1) := by decide +kernel
theorem dX7_fail_37 : decode cX7_fail 37 = .ok (.aload_n 3, 1) := by decide +kernel
theorem dX7_fail_38 : decode cX7_fail 38 = .ok (.iload_n 2, 1) := by decide +kernel
theorem dX7_fail_39 : decode cX7_fail 39 = .ok (.invokevirtual 139, 3) := by decide +kernel
theorem dX7_fail_42 : decode cX7_fail 42 = .ok (.aload_n 3, 1) := by decide +kernel
theorem dX7_fail_43 : decode cX7_fail 43 = .ok (.dup, 1) := by decide +kernel
theorem dX7_fail_44 : decode cX7_fail 44 = .ok (.getfield 178, 3) := by decide +kernel
theorem dX7_fail_47 : decode cX7_fail 47 = .ok (.iconst 1, 1) := by decide +kernel
theorem dX7_fail_48 : decode cX7_fail 48 = .ok (.iadd, 1) := by decide +kernel
theorem dX7_fail_49 : decode cX7_fail 49 = .ok (.putfield 178, 3) := by decide +kernel
theorem dX7_fail_52 : decode cX7_fail 52 = .ok (.aload_n 0, 1) := by decide +kernel
theorem dX7_fail_53 : decode cX7_fail 53 = .ok (.aload 4, 2) := by decide +kernel
theorem dX7_fail_55 : decode cX7_fail 55 = .ok (.iload_n 2, 1) := by decide +kernel
theorem dX7_fail_56 : decode cX7_fail 56 = .ok (.aload_n 3, 1) := by decide +kernel
theorem dX7_fail_57 : decode cX7_fail 57 = .ok (.invokevirtual 181, 3) := by decide +kernel
theorem dX7_fail_60 : decode cX7_fail 60 = .ok (.astore 5, 2) := by decide +kernel
theorem dX7_fail_62 : decode cX7_fail 62 = .ok (.aload 5, 2) := by decide +kernel
theorem dX7_fail_64 : decode cX7_fail 64 = .ok (.ifnonnull 5, 3) := by decide +kernel
theorem dX7_fail_67 : decode cX7_fail 67 = .ok (.iconst (-1), 1) := by decide +kernel
theorem dX7_fail_68 : decode cX7_fail 68 = .ok (.ireturn, 1) := by decide +kernel
theorem dX7_fail_69 : decode cX7_fail 69 = .ok (.aload_n 0, 1) := by decide +kernel
theorem dX7_fail_70 : decode cX7_fail 70 = .ok (.aload 5, 2) := by decide +kernel
theorem dX7_fail_72 : decode cX7_fail 72 = .ok (.aload 4, 2) := by decide +kernel
theorem dX7_fail_74 : decode cX7_fail 74 = .ok (.iload_n 2, 1) := by decide +kernel
theorem dX7_fail_75 : decode cX7_fail 75 = .ok (.invokevirtual 122, 3) := by decide +kernel
theorem dX7_fail_78 : decode cX7_fail 78 = .ok (.aload 5, 2) := by decide +kernel
theorem dX7_fail_80 : decode cX7_fail 80 = .ok (.getfield 185, 3) := by decide +kernel
theorem dX7_fail_83 : decode cX7_fail 83 = .ok (.ireturn, 1) := by decide +kernel
theorem dX7_fill_0 : decode cX7_fill 0 = .ok (.aload_n 0, 1) := by decide +kernel
theorem dX7_fill_1 : decode cX7_fill 1 = .ok (.iload_n 1, 1) := by decide +kernel
theorem dX7_fill_2 : decode cX7_fill 2 = .ok (.invokevirtual 111, 3) := by decide +kernel
theorem dX7_fill_5 : decode cX7_fill 5 = .ok (.astore 4, 2) := by decide +kernel
theorem dX7_fill_7 : decode cX7_fill 7 = .ok (.aload 4, 2) := by decide +kernel
theorem dX7_fill_9 : decode cX7_fill 9 = .ok (.ifnull 21, 3) := by decide +kernel
theorem dX7_fill_12 : decode cX7_fill 12 = .ok (.aload_n 0, 1) := by decide +kernel
theorem dX7_fill_13 : decode cX7_fill 13 = .ok (.iload_n 2, 1) := by decide +kernel
theorem dX7_fill_14 : decode cX7_fill 14 = .ok (.invokevirtual 133, 3) := by decide +kernel
theorem dX7_fill_17 : decode cX7_fill 17 = .ok (.ifCond .eq 13, 3) := by decide +kernel
theorem dX7_fill_20 : decode cX7_fill 20 = .ok (.iload_n 3, 1) := by decide +kernel
theorem dX7_fill_21 : decode cX7_fill 21 = .ok (.iconst 0, 1) := by decide +kernel
theorem dX7_fill_22 : decode cX7_fill 22 = .ok (.bipush 9, 2) := by decide +kernel
theorem dX7_fill_24 : decode cX7_fill 24 = .ok (.invokestatic 46, 3) := by decide +kernel
theorem dX7_fill_27 : decode cX7_fill 27 = .ok (.ifCond .ne 5, 3) := by decide +kernel
theorem dX7_fill_30 : decode cX7_fill 30 = .ok (.iconst (-1), 1) := by decide +kernel
theorem dX7_fill_31 : decode cX7_fill 31 = .ok (.ireturn, 1) := by decide +kernel
theorem dX7_fill_32 : decode cX7_fill 32 = .ok (.aload_n 0, 1) := by decide +kernel
theorem dX7_fill_33 : decode cX7_fill 33 = .ok (.aload 4, 2) := by decide +kernel
theorem dX7_fill_35 : decode cX7_fill 35 = .ok (.iload_n 2, 1) := by decide +kernel
theorem dX7_fill_36 : decode cX7_fill 36 = .ok (.invokevirtual 126, 3) := by decide +kernel
theorem dX7_fill_39 : decode cX7_fill 39 = .ok (.aload_n 0, 1) := by decide +kernel
theorem dX7_fill_40 : decode cX7_fill 40 = .ok (.getfield 28, 3) := by decide +kernel
theorem dX7_fill_43 : decode cX7_fill 43 = .ok (.getfield 130, 3) := by decide +kernel
theorem dX7_fill_46 : decode cX7_fill 46 = .ok (.istore 5, 2) := by decide +kernel
theorem dX7_fill_48 : decode cX7_fill 48 = .ok (.iload 5, 2) := by decide +kernel
theorem dX7_fill_50 : decode cX7_fill 50 = .ok (.iload_n 3, 1) := by decide +kernel
theorem dX7_fill_51 : decode cX7_fill 51 = .ok (.if_icmp .ge 46, 3) := by decide +kernel
theorem dX7_fill_54 : decode cX7_fill 54 = .ok (.aload_n 0, 1) := by decide +kernel
theorem dX7_fill_55 : decode cX7_fill 55 = .ok (.getfield 119, 3) := by decide +kernel
theorem dX7_fill_58 : decode cX7_fill 58 = .ok (.sipush 400, 3) := by decide +kernel
theorem dX7_fill_61 : decode cX7_fill 61 = .ok (.if_icmp .ge 36, 3) := by decide +kernel
theorem dX7_fill_64 : decode cX7_fill 64 = .ok (.aload_n 0, 1) := by decide +kernel
theorem dX7_fill_65 : decode cX7_fill 65 = .ok (.aload 4, 2) := by decide +kernel
theorem dX7_fill_67 : decode cX7_fill 67 = .ok (.iload_n 2, 1) := by decide +kernel
theorem dX7_fill_68 : decode cX7_fill 68 = .ok (.aconst_null, 1) := by decide +kernel
theorem dX7_fill_69 : decode cX7_fill 69 = .ok (.invokevirtual 181, 3) := by decide +kernel
theorem dX7_fill_72 : decode cX7_fill 72 = .ok (.astore 6, 2) := by decide +kernel
theorem dX7_fill_74 : decode cX7_fill 74 = .ok (.aload 6, 2) := by decide +kernel
theorem dX7_fill_76 : decode cX7_fill 76 = .ok (.ifnonnull 6, 3) := by decide +kernel
theorem dX7_fill_79 : decode cX7_fill 79 = .ok (.goto 18, 3) := by decide +kernel
theorem dX7_fill_82 : decode cX7_fill 82 = .ok (.aload_n 0, 1) := by decide +kernel
theorem dX7_fill_83 : decode cX7_fill 83 = .ok (.aload 6, 2) := by decide +kernel
theorem dX7_fill_85 : decode cX7_fill 85 = .ok (.aload 4, 2) := by decide +kernel
theorem dX7_fill_87 : decode cX7_fill 87 = .ok (.iload_n 2, 1) := by decide +kernel
theorem dX7_fill_88 : decode cX7_fill 88 = .ok (.invokevirtual 122, 3) := by decide +kernel
theorem dX7_fill_91 : decode cX7_fill 91 = .ok (.iinc 5 1, 3) := by decide +kernel
theorem dX7_fill_94 : decode cX7_fill 94 = .ok (.goto (-46), 3) := by decide +kernel
theorem dX7_fill_97 : decode cX7_fill 97 = .ok (.iload 5, 2) := by decide +kernel
theorem dX7_fill_99 : decode cX7_fill 99 = .ok (.ireturn, 1) := by decide +kernel
theorem dX7_pay_0 : decode cX7_pay 0 = .ok (.aload_n 0, 1) := by decide +kernel
theorem dX7_pay_1 : decode cX7_pay 1 = .ok (.iload_n 1, 1) := by decide +kernel
theorem dX7_pay_2 : decode cX7_pay 2 = .ok (.invokevirtual 69, 3) := by decide +kernel
theorem dX7_pay_5 : decode cX7_pay 5 = .ok (.astore 4, 2) := by decide +kernel
theorem dX7_pay_7 : decode cX7_pay 7 = .ok (.aload 4, 2) := by decide +kernel
theorem dX7_pay_9 : decode cX7_pay 9 = .ok (.ifnull 12, 3) := by decide +kernel
theorem dX7_pay_12 : decode cX7_pay 12 = .ok (.aload 4, 2) := by decide +kernel
theorem dX7_pay_14 : decode cX7_pay 14 = .ok (.iload_n 2, 1) := by decide +kernel
theorem dX7_pay_15 : decode cX7_pay 15 = .ok (.invokevirtual 136, 3) := by decide +kernel
theorem dX7_pay_18 : decode cX7_pay 18 = .ok (.ifnonnull 5, 3) := by decide +kernel
theorem dX7_pay_21 : decode cX7_pay 21 = .ok (.iconst 0, 1) := by decide +kernel
theorem dX7_pay_22 : decode cX7_pay 22 = .ok (.ireturn, 1) := by decide +kernel
theorem dX7_pay_23 : decode cX7_pay 23 = .ok (.aload 4, 2) := by decide +kernel
theorem dX7_pay_25 : decode cX7_pay 25 = .ok (.iload_n 2, 1) := by decide +kernel
theorem dX7_pay_26 : decode cX7_pay 26 = .ok (.iload_n 3, 1) := by decide +kernel
theorem dX7_pay_27 : decode cX7_pay 27 = .ok (.invokestatic 104, 3) := by decide +kernel
theorem dX7_pay_30 : decode cX7_pay 30 = .ok (.astore 5, 2) := by decide +kernel
theorem dX7_pay_32 : decode cX7_pay 32 = .ok (.aload 5, 2) := by decide +kernel
theorem dX7_pay_34 : decode cX7_pay 34 = .ok (.ifnonnull 7, 3) := by decide +kernel
theorem dX7_pay_37 : decode cX7_pay 37 = .ok (.iconst 0, 1) := by decide +kernel
theorem dX7_pay_38 : decode cX7_pay 38 = .ok (.goto 9, 3) := by decide +kernel
theorem dX7_pay_41 : decode cX7_pay 41 = .ok (.aload 5, 2) := by decide +kernel
theorem dX7_pay_43 : decode cX7_pay 43 = .ok (.iconst 4, 1) := by decide +kernel
theorem dX7_pay_44 : decode cX7_pay 44 = .ok (.invokevirtual 188, 3) := by decide +kernel
theorem dX7_pay_47 : decode cX7_pay 47 = .ok (.ireturn, 1) := by decide +kernel
theorem dX7_turnOf_0 : decode cX7_turnOf 0 = .ok (.aload_n 0, 1) := by decide +kernel
theorem dX7_turnOf_1 : decode cX7_turnOf 1 = .ok (.iload_n 1, 1) := by decide +kernel
theorem dX7_turnOf_2 : decode cX7_turnOf 2 = .ok (.invokevirtual 69, 3) := by decide +kernel
theorem dX7_turnOf_5 : decode cX7_turnOf 5 = .ok (.astore_n 3, 1) := by decide +kernel
theorem dX7_turnOf_6 : decode cX7_turnOf 6 = .ok (.aload_n 3, 1) := by decide +kernel
theorem dX7_turnOf_7 : decode cX7_turnOf 7 = .ok (.ifnonnull 5, 3) := by decide +kernel
theorem dX7_turnOf_10 : decode cX7_turnOf 10 = .ok (.iconst (-1), 1) := by decide +kernel
theorem dX7_turnOf_11 : decode cX7_turnOf 11 = .ok (.ireturn, 1) := by decide +kernel
theorem dX7_turnOf_12 : decode cX7_turnOf 12 = .ok (.iload_n 2, 1) := by decide +kernel
theorem dX7_turnOf_13 : decode cX7_turnOf 13 = .ok (.tableswitch 86 0 6 #[43, 48, 53, 66, 71, 76, 81], 43) := by decide +kernel
theorem dX7_turnOf_56 : decode cX7_turnOf 56 = .ok (.aload_n 3, 1) := by decide +kernel
theorem dX7_turnOf_57 : decode cX7_turnOf 57 = .ok (.getfield 191, 3) := by decide +kernel
theorem dX7_turnOf_60 : decode cX7_turnOf 60 = .ok (.ireturn, 1) := by decide +kernel
theorem dX7_turnOf_61 : decode cX7_turnOf 61 = .ok (.aload_n 3, 1) := by decide +kernel
theorem dX7_turnOf_62 : decode cX7_turnOf 62 = .ok (.getfield 194, 3) := by decide +kernel
theorem dX7_turnOf_65 : decode cX7_turnOf 65 = .ok (.ireturn, 1) := by decide +kernel
theorem dX7_turnOf_66 : decode cX7_turnOf 66 = .ok (.aload_n 3, 1) := by decide +kernel
theorem dX7_turnOf_67 : decode cX7_turnOf 67 = .ok (.getfield 197, 3) := by decide +kernel
theorem dX7_turnOf_70 : decode cX7_turnOf 70 = .ok (.ifCond .eq 7, 3) := by decide +kernel
theorem dX7_turnOf_73 : decode cX7_turnOf 73 = .ok (.iconst 1, 1) := by decide +kernel
theorem dX7_turnOf_74 : decode cX7_turnOf 74 = .ok (.goto 4, 3) := by decide +kernel
theorem dX7_turnOf_77 : decode cX7_turnOf 77 = .ok (.iconst 0, 1) := by decide +kernel
theorem dX7_turnOf_78 : decode cX7_turnOf 78 = .ok (.ireturn, 1) := by decide +kernel
theorem dX7_turnOf_79 : decode cX7_turnOf 79 = .ok (.aload_n 3, 1) := by decide +kernel
theorem dX7_turnOf_80 : decode cX7_turnOf 80 = .ok (.getfield 201, 3) := by decide +kernel
theorem dX7_turnOf_83 : decode cX7_turnOf 83 = .ok (.ireturn, 1) := by decide +kernel
theorem dX7_turnOf_84 : decode cX7_turnOf 84 = .ok (.aload_n 3, 1) := by decide +kernel
theorem dX7_turnOf_85 : decode cX7_turnOf 85 = .ok (.getfield 204, 3) := by decide +kernel
theorem dX7_turnOf_88 : decode cX7_turnOf 88 = .ok (.ireturn, 1) := by decide +kernel
theorem dX7_turnOf_89 : decode cX7_turnOf 89 = .ok (.aload_n 3, 1) := by decide +kernel
theorem dX7_turnOf_90 : decode cX7_turnOf 90 = .ok (.getfield 207, 3) := by decide +kernel
theorem dX7_turnOf_93 : decode cX7_turnOf 93 = .ok (.ireturn, 1) := by decide +kernel
theorem dX7_turnOf_94 : decode cX7_turnOf 94 = .ok (.aload_n 3, 1) := by decide +kernel
theorem dX7_turnOf_95 : decode cX7_turnOf 95 = .ok (.getfield 178, 3) := by decide +kernel
theorem dX7_turnOf_98 : decode cX7_turnOf 98 = .ok (.ireturn, 1) := by decide +kernel
theorem dX7_turnOf_99 : decode cX7_turnOf 99 = .ok (.iconst (-1), 1) := by decide +kernel
theorem dX7_turnOf_100 : decode cX7_turnOf 100 = .ok (.ireturn, 1) := by decide +kernel
theorem dX7_count_0 : decode cX7_count 0 = .ok (.iload_n 1, 1) := by decide +kernel
theorem dX7_count_1 : decode cX7_count 1 = .ok (.tableswitch 69 0 5 #[39, 44, 49, 54, 59, 64], 39) := by decide +kernel
theorem dX7_count_40 : decode cX7_count 40 = .ok (.aload_n 0, 1) := by decide +kernel
theorem dX7_count_41 : decode cX7_count 41 = .ok (.getfield 43, 3) := by decide +kernel
theorem dX7_count_44 : decode cX7_count 44 = .ok (.ireturn, 1) := by decide +kernel
theorem dX7_count_45 : decode cX7_count 45 = .ok (.aload_n 0, 1) := by decide +kernel
theorem dX7_count_46 : decode cX7_count 46 = .ok (.getfield 50, 3) := by decide +kernel
theorem dX7_count_49 : decode cX7_count 49 = .ok (.ireturn, 1) := by decide +kernel
theorem dX7_count_50 : decode cX7_count 50 = .ok (.aload_n 0, 1) := by decide +kernel
theorem dX7_count_51 : decode cX7_count 51 = .ok (.getfield 56, 3) := by decide +kernel
theorem dX7_count_54 : decode cX7_count 54 = .ok (.ireturn, 1) := by decide +kernel
theorem dX7_count_55 : decode cX7_count 55 = .ok (.aload_n 0, 1) := by decide +kernel
theorem dX7_count_56 : decode cX7_count 56 = .ok (.getfield 77, 3) := by decide +kernel
theorem dX7_count_59 : decode cX7_count 59 = .ok (.ireturn, 1) := by decide +kernel
theorem dX7_count_60 : decode cX7_count 60 = .ok (.aload_n 0, 1) := by decide +kernel
theorem dX7_count_61 : decode cX7_count 61 = .ok (.getfield 119, 3) := by decide +kernel
theorem dX7_count_64 : decode cX7_count 64 = .ok (.ireturn, 1) := by decide +kernel
theorem dX7_count_65 : decode cX7_count 65 = .ok (.aload_n 0, 1) := by decide +kernel
theorem dX7_count_66 : decode cX7_count 66 = .ok (.getfield 62, 3) := by decide +kernel
theorem dX7_count_69 : decode cX7_count 69 = .ok (.ireturn, 1) := by decide +kernel
theorem dX7_count_70 : decode cX7_count 70 = .ok (.iconst (-1), 1) := by decide +kernel
theorem dX7_count_71 : decode cX7_count 71 = .ok (.ireturn, 1) := by decide +kernel
theorem dX7_isWithin_0 : decode cX7_isWithin 0 = .ok (.iload_n 0, 1) := by decide +kernel
theorem dX7_isWithin_1 : decode cX7_isWithin 1 = .ok (.iload_n 1, 1) := by decide +kernel
theorem dX7_isWithin_2 : decode cX7_isWithin 2 = .ok (.if_icmp .lt 12, 3) := by decide +kernel
theorem dX7_isWithin_5 : decode cX7_isWithin 5 = .ok (.iload_n 0, 1) := by decide +kernel
theorem dX7_isWithin_6 : decode cX7_isWithin 6 = .ok (.iload_n 2, 1) := by decide +kernel
theorem dX7_isWithin_7 : decode cX7_isWithin 7 = .ok (.if_icmp .gt 7, 3) := by decide +kernel
theorem dX7_isWithin_10 : decode cX7_isWithin 10 = .ok (.iconst 1, 1) := by decide +kernel
theorem dX7_isWithin_11 : decode cX7_isWithin 11 = .ok (.goto 4, 3) := by decide +kernel
theorem dX7_isWithin_14 : decode cX7_isWithin 14 = .ok (.iconst 0, 1) := by decide +kernel
theorem dX7_isWithin_15 : decode cX7_isWithin 15 = .ok (.ireturn, 1) := by decide +kernel
theorem dX7_isWeek_0 : decode cX7_isWeek 0 = .ok (.iload_n 0, 1) := by decide +kernel
theorem dX7_isWeek_1 : decode cX7_isWeek 1 = .ok (.ifCond .lt 13, 3) := by decide +kernel
theorem dX7_isWeek_4 : decode cX7_isWeek 4 = .ok (.iload_n 0, 1) := by decide +kernel
theorem dX7_isWeek_5 : decode cX7_isWeek 5 = .ok (.bipush 60, 2) := by decide +kernel
theorem dX7_isWeek_7 : decode cX7_isWeek 7 = .ok (.if_icmp .ge 7, 3) := by decide +kernel
theorem dX7_isWeek_10 : decode cX7_isWeek 10 = .ok (.iconst 1, 1) := by decide +kernel
theorem dX7_isWeek_11 : decode cX7_isWeek 11 = .ok (.goto 4, 3) := by decide +kernel
theorem dX7_isWeek_14 : decode cX7_isWeek 14 = .ok (.iconst 0, 1) := by decide +kernel
theorem dX7_isWeek_15 : decode cX7_isWeek 15 = .ok (.ireturn, 1) := by decide +kernel
theorem dX7_isOpen_0 : decode cX7_isOpen 0 = .ok (.iload_n 1, 1) := by decide +kernel
theorem dX7_isOpen_1 : decode cX7_isOpen 1 = .ok (.aload_n 0, 1) := by decide +kernel
theorem dX7_isOpen_2 : decode cX7_isOpen 2 = .ok (.getfield 43, 3) := by decide +kernel
theorem dX7_isOpen_5 : decode cX7_isOpen 5 = .ok (.if_icmp .lt 13, 3) := by decide +kernel
theorem dX7_isOpen_8 : decode cX7_isOpen 8 = .ok (.iload_n 1, 1) := by decide +kernel
theorem dX7_isOpen_9 : decode cX7_isOpen 9 = .ok (.bipush 60, 2) := by decide +kernel
theorem dX7_isOpen_11 : decode cX7_isOpen 11 = .ok (.if_icmp .ge 7, 3) := by decide +kernel
theorem dX7_isOpen_14 : decode cX7_isOpen 14 = .ok (.iconst 1, 1) := by decide +kernel
theorem dX7_isOpen_15 : decode cX7_isOpen 15 = .ok (.goto 4, 3) := by decide +kernel
theorem dX7_isOpen_18 : decode cX7_isOpen 18 = .ok (.iconst 0, 1) := by decide +kernel
theorem dX7_isOpen_19 : decode cX7_isOpen 19 = .ok (.ireturn, 1) := by decide +kernel
theorem dX7_turnAt_0 : decode cX7_turnAt 0 = .ok (.iload_n 1, 1) := by decide +kernel
theorem dX7_turnAt_1 : decode cX7_turnAt 1 = .ok (.iconst 0, 1) := by decide +kernel
theorem dX7_turnAt_2 : decode cX7_turnAt 2 = .ok (.aload_n 0, 1) := by decide +kernel
theorem dX7_turnAt_3 : decode cX7_turnAt 3 = .ok (.getfield 50, 3) := by decide +kernel
theorem dX7_turnAt_6 : decode cX7_turnAt 6 = .ok (.iconst 1, 1) := by decide +kernel
theorem dX7_turnAt_7 : decode cX7_turnAt 7 = .ok (.isub, 1) := by decide +kernel
theorem dX7_turnAt_8 : decode cX7_turnAt 8 = .ok (.invokestatic 46, 3) := by decide +kernel
theorem dX7_turnAt_11 : decode cX7_turnAt 11 = .ok (.ifCond .eq 12, 3) := by decide +kernel
theorem dX7_turnAt_14 : decode cX7_turnAt 14 = .ok (.aload_n 0, 1) := by decide +kernel
theorem dX7_turnAt_15 : decode cX7_turnAt 15 = .ok (.getfield 11, 3) := by decide +kernel
theorem dX7_turnAt_18 : decode cX7_turnAt 18 = .ok (.iload_n 1, 1) := by decide +kernel
theorem dX7_turnAt_19 : decode cX7_turnAt 19 = .ok (.aaload, 1) := by decide +kernel
theorem dX7_turnAt_20 : decode cX7_turnAt 20 = .ok (.goto 4, 3) := by decide +kernel
theorem dX7_turnAt_23 : decode cX7_turnAt 23 = .ok (.aconst_null, 1) := by decide +kernel
theorem dX7_turnAt_24 : decode cX7_turnAt 24 = .ok (.areturn, 1) := by decide +kernel
theorem dX7_hallAt_0 : decode cX7_hallAt 0 = .ok (.iload_n 1, 1) := by decide +kernel
theorem dX7_hallAt_1 : decode cX7_hallAt 1 = .ok (.iconst 0, 1) := by decide +kernel
theorem dX7_hallAt_2 : decode cX7_hallAt 2 = .ok (.aload_n 0, 1) := by decide +kernel
theorem dX7_hallAt_3 : decode cX7_hallAt 3 = .ok (.getfield 56, 3) := by decide +kernel
theorem dX7_hallAt_6 : decode cX7_hallAt 6 = .ok (.iconst 1, 1) := by decide +kernel
theorem dX7_hallAt_7 : decode cX7_hallAt 7 = .ok (.isub, 1) := by decide +kernel
theorem dX7_hallAt_8 : decode cX7_hallAt 8 = .ok (.invokestatic 46, 3) := by decide +kernel
theorem dX7_hallAt_11 : decode cX7_hallAt 11 = .ok (.ifCond .eq 12, 3) := by decide +kernel
theorem dX7_hallAt_14 : decode cX7_hallAt 14 = .ok (.aload_n 0, 1) := by decide +kernel
theorem dX7_hallAt_15 : decode cX7_hallAt 15 = .ok (.getfield 17, 3) := by decide +kernel
theorem dX7_hallAt_18 : decode cX7_hallAt 18 = .ok (.iload_n 1, 1) := by decide +kernel
theorem dX7_hallAt_19 : decode cX7_hallAt 19 = .ok (.aaload, 1) := by decide +kernel
theorem dX7_hallAt_20 : decode cX7_hallAt 20 = .ok (.goto 4, 3) := by decide +kernel
theorem dX7_hallAt_23 : decode cX7_hallAt 23 = .ok (.aconst_null, 1) := by decide +kernel
theorem dX7_hallAt_24 : decode cX7_hallAt 24 = .ok (.areturn, 1) := by decide +kernel
theorem dX7_putBytes_0 : decode cX7_putBytes 0 = .ok (.bipush 24, 2) := by decide +kernel
theorem dX7_putBytes_2 : decode cX7_putBytes 2 = .ok (.istore_n 2, 1) := by decide +kernel
theorem dX7_putBytes_3 : decode cX7_putBytes 3 = .ok (.iload_n 2, 1) := by decide +kernel
theorem dX7_putBytes_4 : decode cX7_putBytes 4 = .ok (.ifCond .lt 42, 3) := by decide +kernel
theorem dX7_putBytes_7 : decode cX7_putBytes 7 = .ok (.aload_n 0, 1) := by decide +kernel
theorem dX7_putBytes_8 : decode cX7_putBytes 8 = .ok (.getfield 62, 3) := by decide +kernel
theorem dX7_putBytes_11 : decode cX7_putBytes 11 = .ok (.sipush 600, 3) := by decide +kernel
theorem dX7_putBytes_14 : decode cX7_putBytes 14 = .ok (.if_icmp .ge 32, 3) := by decide +kernel
theorem dX7_putBytes_17 : decode cX7_putBytes 17 = .ok (.aload_n 0, 1) := by decide +kernel
theorem dX7_putBytes_18 : decode cX7_putBytes 18 = .ok (.getfield 21, 3) := by decide +kernel
theorem dX7_putBytes_21 : decode cX7_putBytes 21 = .ok (.aload_n 0, 1) := by decide +kernel
theorem dX7_putBytes_22 : decode cX7_putBytes 22 = .ok (.getfield 62, 3) := by decide +kernel
theorem dX7_putBytes_25 : decode cX7_putBytes 25 = .ok (.iload_n 1, 1) := by decide +kernel
theorem dX7_putBytes_26 : decode cX7_putBytes 26 = .ok (.iload_n 2, 1) := by decide +kernel
theorem dX7_putBytes_27 : decode cX7_putBytes 27 = .ok (.iushr, 1) := by decide +kernel
theorem dX7_putBytes_28 : decode cX7_putBytes 28 = .ok (.i2b, 1) := by decide +kernel
theorem dX7_putBytes_29 : decode cX7_putBytes 29 = .ok (.bastore, 1) := by decide +kernel
theorem dX7_putBytes_30 : decode cX7_putBytes 30 = .ok (.aload_n 0, 1) := by decide +kernel
theorem dX7_putBytes_31 : decode cX7_putBytes 31 = .ok (.dup, 1) := by decide +kernel
theorem dX7_putBytes_32 : decode cX7_putBytes 32 = .ok (.getfield 62, 3) := by decide +kernel
theorem dX7_putBytes_35 : decode cX7_putBytes 35 = .ok (.iconst 1, 1) := by decide +kernel
theorem dX7_putBytes_36 : decode cX7_putBytes 36 = .ok (.iadd, 1) := by decide +kernel
theorem dX7_putBytes_37 : decode cX7_putBytes 37 = .ok (.putfield 62, 3) := by decide +kernel
theorem dX7_putBytes_40 : decode cX7_putBytes 40 = .ok (.iinc 2 (-8), 3) := by decide +kernel
theorem dX7_putBytes_43 : decode cX7_putBytes 43 = .ok (.goto (-40), 3) := by decide +kernel
theorem dX7_putBytes_46 : decode cX7_putBytes 46 = .ok (.return_, 1) := by decide +kernel
theorem dX7_contractAsKnown_0 : decode cX7_contractAsKnown 0 = .ok (.aload_n 0, 1) := by decide +kernel
theorem dX7_contractAsKnown_1 : decode cX7_contractAsKnown 1 = .ok (.ifnull 17, 3) := by decide +kernel
theorem dX7_contractAsKnown_4 : decode cX7_contractAsKnown 4 = .ok (.iload_n 1, 1) := by decide +kernel
theorem dX7_contractAsKnown_5 : decode cX7_contractAsKnown 5 = .ok (.invokestatic 73, 3) := by decide +kernel
theorem dX7_contractAsKnown_8 : decode cX7_contractAsKnown 8 = .ok (.ifCond .eq 10, 3) := by decide +kernel
theorem dX7_contractAsKnown_11 : decode cX7_contractAsKnown 11 = .ok (.iload_n 2, 1) := by decide +kernel
theorem dX7_contractAsKnown_12 : decode cX7_contractAsKnown 12 = .ok (.invokestatic 73, 3) := by decide +kernel
theorem dX7_contractAsKnown_15 : decode cX7_contractAsKnown 15 = .ok (.ifCond .ne 5, 3) := by decide +kernel
theorem dX7_contractAsKnown_18 : decode cX7_contractAsKnown 18 = .ok (.aconst_null, 1) := by decide +kernel
theorem dX7_contractAsKnown_19 : decode cX7_contractAsKnown 19 = .ok (.areturn, 1) := by decide +kernel
theorem dX7_contractAsKnown_20 : decode cX7_contractAsKnown 20 = .ok (.aload_n 0, 1) := by decide +kernel
theorem dX7_contractAsKnown_21 : decode cX7_contractAsKnown 21 = .ok (.iload_n 1, 1) := by decide +kernel
theorem dX7_contractAsKnown_22 : decode cX7_contractAsKnown 22 = .ok (.iload_n 2, 1) := by decide +kernel
theorem dX7_contractAsKnown_23 : decode cX7_contractAsKnown 23 = .ok (.invokevirtual 210, 3) := by decide +kernel
theorem dX7_contractAsKnown_26 : decode cX7_contractAsKnown 26 = .ok (.areturn, 1) := by decide +kernel
theorem dX7_gather_0 : decode cX7_gather 0 = .ok (.aload_n 0, 1) := by decide +kernel
theorem dX7_gather_1 : decode cX7_gather 1 = .ok (.getfield 28, 3) := by decide +kernel
theorem dX7_gather_4 : decode cX7_gather 4 = .ok (.iconst 0, 1) := by decide +kernel
theorem dX7_gather_5 : decode cX7_gather 5 = .ok (.putfield 130, 3) := by decide +kernel
theorem dX7_gather_8 : decode cX7_gather 8 = .ok (.iconst 0, 1) := by decide +kernel
theorem dX7_gather_9 : decode cX7_gather 9 = .ok (.istore_n 3, 1) := by decide +kernel
theorem dX7_gather_10 : decode cX7_gather 10 = .ok (.iload_n 3, 1) := by decide +kernel
theorem dX7_gather_11 : decode cX7_gather 11 = .ok (.aload_n 0, 1) := by decide +kernel
theorem dX7_gather_12 : decode cX7_gather 12 = .ok (.getfield 50, 3) := by decide +kernel
theorem dX7_gather_15 : decode cX7_gather 15 = .ok (.if_icmp .ge 40, 3) := by decide +kernel
theorem dX7_gather_18 : decode cX7_gather 18 = .ok (.aload_n 0, 1) := by decide +kernel
theorem dX7_gather_19 : decode cX7_gather 19 = .ok (.iload_n 3, 1) := by decide +kernel
theorem dX7_gather_20 : decode cX7_gather 20 = .ok (.invokevirtual 69, 3) := by decide +kernel
theorem dX7_gather_23 : decode cX7_gather 23 = .ok (.astore 4, 2) := by decide +kernel
theorem dX7_gather_25 : decode cX7_gather 25 = .ok (.aload 4, 2) := by decide +kernel
theorem dX7_gather_27 : decode cX7_gather 27 = .ok (.ifnull 22, 3) := by decide +kernel
theorem dX7_gather_30 : decode cX7_gather 30 = .ok (.aload 4, 2) := by decide +kernel
theorem dX7_gather_32 : decode cX7_gather 32 = .ok (.iload_n 2, 1) := by decide +kernel
theorem dX7_gather_33 : decode cX7_gather 33 = .ok (.invokevirtual 136, 3) := by decide +kernel
theorem dX7_gather_36 : decode cX7_gather 36 = .ok (.aload_n 1, 1) := by decide +kernel
theorem dX7_gather_37 : decode cX7_gather 37 = .ok (.if_acmp .ne 12, 3) := by decide +kernel
theorem dX7_gather_40 : decode cX7_gather 40 = .ok (.aload_n 0, 1) := by decide +kernel
theorem dX7_gather_41 : decode cX7_gather 41 = .ok (.getfield 28, 3) := by decide +kernel
theorem dX7_gather_44 : decode cX7_gather 44 = .ok (.aload 4, 2) := by decide +kernel
theorem dX7_gather_46 : decode cX7_gather 46 = .ok (.invokevirtual 214, 3) := by decide +kernel
theorem dX7_gather_49 : decode cX7_gather 49 = .ok (.iinc 3 1, 3) := by decide +kernel
theorem dX7_gather_52 : decode cX7_gather 52 = .ok (.goto (-42), 3) := by decide +kernel
theorem dX7_gather_55 : decode cX7_gather 55 = .ok (.return_, 1) := by decide +kernel
theorem dX7_layBest_0 : decode cX7_layBest 0 = .ok (.aload_n 0, 1) := by decide +kernel
theorem dX7_layBest_1 : decode cX7_layBest 1 = .ok (.iload_n 1, 1) := by decide +kernel
theorem dX7_layBest_2 : decode cX7_layBest 2 = .ok (.invokevirtual 111, 3) := by decide +kernel
theorem dX7_layBest_5 : decode cX7_layBest 5 = .ok (.astore_n 3, 1) := by decide +kernel
theorem dX7_layBest_6 : decode cX7_layBest 6 = .ok (.aload_n 3, 1) := by decide +kernel
theorem dX7_layBest_7 : decode cX7_layBest 7 = .ok (.ifnull 10, 3) := by decide +kernel
theorem dX7_layBest_10 : decode cX7_layBest 10 = .ok (.iload_n 2, 1) := by decide +kernel
theorem dX7_layBest_11 : decode cX7_layBest 11 = .ok (.invokestatic 73, 3) := by decide +kernel
theorem dX7_layBest_14 : decode cX7_layBest 14 = .ok (.ifCond .ne 14, 3) := by decide +kernel
theorem dX7_layBest_17 : decode cX7_layBest 17 = .ok (.aload_n 0, 1) := by decide +kernel
theorem dX7_layBest_18 : decode cX7_layBest 18 = .ok (.getfield 28, 3) := by decide +kernel
theorem dX7_layBest_21 : decode cX7_layBest 21 = .ok (.iconst 0, 1) := by decide +kernel
theorem dX7_layBest_22 : decode cX7_layBest 22 = .ok (.putfield 130, 3) := by decide +kernel
theorem dX7_layBest_25 : decode cX7_layBest 25 = .ok (.goto 9, 3) := by decide +kernel
theorem dX7_layBest_28 : decode cX7_layBest 28 = .ok (.aload_n 0, 1) := by decide +kernel
theorem dX7_layBest_29 : decode cX7_layBest 29 = .ok (.aload_n 3, 1) := by decide +kernel
theorem dX7_layBest_30 : decode cX7_layBest 30 = .ok (.iload_n 2, 1) := by decide +kernel
theorem dX7_layBest_31 : decode cX7_layBest 31 = .ok (.invokevirtual 126, 3) := by decide +kernel
theorem dX7_layBest_34 : decode cX7_layBest 34 = .ok (.aload_n 0, 1) := by decide +kernel
theorem dX7_layBest_35 : decode cX7_layBest 35 = .ok (.getfield 35, 3) := by decide +kernel
theorem dX7_layBest_38 : decode cX7_layBest 38 = .ok (.aload_n 0, 1) := by decide +kernel
theorem dX7_layBest_39 : decode cX7_layBest 39 = .ok (.getfield 28, 3) := by decide +kernel
theorem dX7_layBest_42 : decode cX7_layBest 42 = .ok (.iload_n 2, 1) := by decide +kernel
theorem dX7_layBest_43 : decode cX7_layBest 43 = .ok (.aload_n 0, 1) := by decide +kernel
theorem dX7_layBest_44 : decode cX7_layBest 44 = .ok (.getfield 43, 3) := by decide +kernel
theorem dX7_layBest_47 : decode cX7_layBest 47 = .ok (.invokevirtual 218, 3) := by decide +kernel
theorem dX7_layBest_50 : decode cX7_layBest 50 = .ok (.return_, 1) := by decide +kernel
theorem dX7_putOn_0 : decode cX7_putOn 0 = .ok (.aload_n 1, 1) := by decide +kernel
theorem dX7_putOn_1 : decode cX7_putOn 1 = .ok (.iload_n 3, 1) := by decide +kernel
theorem dX7_putOn_2 : decode cX7_putOn 2 = .ok (.aload_n 2, 1) := by decide +kernel
theorem dX7_putOn_3 : decode cX7_putOn 3 = .ok (.invokevirtual 222, 3) := by decide +kernel
theorem dX7_putOn_6 : decode cX7_putOn 6 = .ok (.aload_n 1, 1) := by decide +kernel
theorem dX7_putOn_7 : decode cX7_putOn 7 = .ok (.dup, 1) := by decide +kernel
theorem dX7_putOn_8 : decode cX7_putOn 8 = .ok (.getfield 207, 3) := by decide +kernel
theorem dX7_putOn_11 : decode cX7_putOn 11 = .ok (.iconst 1, 1) := by decide +kernel
theorem dX7_putOn_12 : decode cX7_putOn 12 = .ok (.iadd, 1) := by decide +kernel
theorem dX7_putOn_13 : decode cX7_putOn 13 = .ok (.putfield 207, 3) := by decide +kernel
theorem dX7_putOn_16 : decode cX7_putOn 16 = .ok (.aload_n 0, 1) := by decide +kernel
theorem dX7_putOn_17 : decode cX7_putOn 17 = .ok (.dup, 1) := by decide +kernel
theorem dX7_putOn_18 : decode cX7_putOn 18 = .ok (.getfield 119, 3) := by decide +kernel
theorem dX7_putOn_21 : decode cX7_putOn 21 = .ok (.iconst 1, 1) := by decide +kernel
theorem dX7_putOn_22 : decode cX7_putOn 22 = .ok (.iadd, 1) := by decide +kernel
theorem dX7_putOn_23 : decode cX7_putOn 23 = .ok (.putfield 119, 3) := by decide +kernel
theorem dX7_putOn_26 : decode cX7_putOn 26 = .ok (.return_, 1) := by decide +kernel
theorem dX7_takeOff_0 : decode cX7_takeOff 0 = .ok (.aload_n 1, 1) := by decide +kernel
theorem dX7_takeOff_1 : decode cX7_takeOff 1 = .ok (.iload_n 2, 1) := by decide +kernel
theorem dX7_takeOff_2 : decode cX7_takeOff 2 = .ok (.aconst_null, 1) := by decide +kernel
theorem dX7_takeOff_3 : decode cX7_takeOff 3 = .ok (.invokevirtual 222, 3) := by decide +kernel
theorem dX7_takeOff_6 : decode cX7_takeOff 6 = .ok (.aload_n 1, 1) := by decide +kernel
theorem dX7_takeOff_7 : decode cX7_takeOff 7 = .ok (.dup, 1) := by decide +kernel
theorem dX7_takeOff_8 : decode cX7_takeOff 8 = .ok (.getfield 207, 3) := by decide +kernel
theorem dX7_takeOff_11 : decode cX7_takeOff 11 = .ok (.iconst 1, 1) := by decide +kernel
theorem dX7_takeOff_12 : decode cX7_takeOff 12 = .ok (.isub, 1) := by decide +kernel
theorem dX7_takeOff_13 : decode cX7_takeOff 13 = .ok (.putfield 207, 3) := by decide +kernel
theorem dX7_takeOff_16 : decode cX7_takeOff 16 = .ok (.aload_n 0, 1) := by decide +kernel
theorem dX7_takeOff_17 : decode cX7_takeOff 17 = .ok (.dup, 1) := by decide +kernel
theorem dX7_takeOff_18 : decode cX7_takeOff 18 = .ok (.getfield 119, 3) := by decide +kernel
theorem dX7_takeOff_21 : decode cX7_takeOff 21 = .ok (.iconst 1, 1) := by decide +kernel
theorem dX7_takeOff_22 : decode cX7_takeOff 22 = .ok (.isub, 1) := by decide +kernel
theorem dX7_takeOff_23 : decode cX7_takeOff 23 = .ok (.putfield 119, 3) := by decide +kernel
theorem dX7_takeOff_26 : decode cX7_takeOff 26 = .ok (.return_, 1) := by decide +kernel
theorem dX7_greatestDraw_0 : decode cX7_greatestDraw 0 = .ok (.aconst_null, 1) := by decide +kernel
theorem dX7_greatestDraw_1 : decode cX7_greatestDraw 1 = .ok (.astore 4, 2) := by decide +kernel
theorem dX7_greatestDraw_3 : decode cX7_greatestDraw 3 = .ok (.iconst 0, 1) := by decide +kernel
theorem dX7_greatestDraw_4 : decode cX7_greatestDraw 4 = .ok (.istore 5, 2) := by decide +kernel
theorem dX7_greatestDraw_6 : decode cX7_greatestDraw 6 = .ok (.iload 5, 2) := by decide +kernel
theorem dX7_greatestDraw_8 : decode cX7_greatestDraw 8 = .ok (.aload_n 0, 1) := by decide +kernel
theorem dX7_greatestDraw_9 : decode cX7_greatestDraw 9 = .ok (.getfield 50, 3) := by decide +kernel
theorem dX7_greatestDraw_12 : decode cX7_greatestDraw 12 = .ok (.if_icmp .ge 64, 3) := by decide +kernel
theorem dX7_greatestDraw_15 : decode cX7_greatestDraw 15 = .ok (.aload_n 0, 1) := by decide +kernel
theorem dX7_greatestDraw_16 : decode cX7_greatestDraw 16 = .ok (.iload 5, 2) := by decide +kernel
theorem dX7_greatestDraw_18 : decode cX7_greatestDraw 18 = .ok (.invokevirtual 69, 3) := by decide +kernel
theorem dX7_greatestDraw_21 : decode cX7_greatestDraw 21 = .ok (.astore 6, 2) := by decide +kernel
theorem dX7_greatestDraw_23 : decode cX7_greatestDraw 23 = .ok (.aload 6, 2) := by decide +kernel
theorem dX7_greatestDraw_25 : decode cX7_greatestDraw 25 = .ok (.ifnull 45, 3) := by decide +kernel
theorem dX7_greatestDraw_28 : decode cX7_greatestDraw 28 = .ok (.aload 6, 2) := by decide +kernel
theorem dX7_greatestDraw_30 : decode cX7_greatestDraw 30 = .ok (.aload_n 3, 1) := by decide +kernel
theorem dX7_greatestDraw_31 : decode cX7_greatestDraw 31 = .ok (.if_acmp .eq 39, 3) := by decide +kernel
theorem dX7_greatestDraw_34 : decode cX7_greatestDraw 34 = .ok (.aload 4, 2) := by decide +kernel
theorem dX7_greatestDraw_36 : decode cX7_greatestDraw 36 = .ok (.ifnull 19, 3) := by decide +kernel
theorem dX7_greatestDraw_39 : decode cX7_greatestDraw 39 = .ok (.aload 6, 2) := by decide +kernel
theorem dX7_greatestDraw_41 : decode cX7_greatestDraw 41 = .ok (.getfield 204, 3) := by decide +kernel
theorem dX7_greatestDraw_44 : decode cX7_greatestDraw 44 = .ok (.aload 4, 2) := by decide +kernel
theorem dX7_greatestDraw_46 : decode cX7_greatestDraw 46 = .ok (.getfield 204, 3) := by decide +kernel
theorem dX7_greatestDraw_49 : decode cX7_greatestDraw 49 = .ok (.if_icmp .gt 6, 3) := by decide +kernel
theorem dX7_greatestDraw_52 : decode cX7_greatestDraw 52 = .ok (.goto 18, 3) := by decide +kernel
theorem dX7_greatestDraw_55 : decode cX7_greatestDraw 55 = .ok (.aload_n 0, 1) := by decide +kernel
theorem dX7_greatestDraw_56 : decode cX7_greatestDraw 56 = .ok (.aload 6, 2) := by decide +kernel
theorem dX7_greatestDraw_58 : decode cX7_greatestDraw 58 = .ok (.aload_n 1, 1) := by decide +kernel
theorem dX7_greatestDraw_59 : decode cX7_greatestDraw 59 = .ok (.iload_n 2, 1) := by decide +kernel
theorem dX7_greatestDraw_60 : decode cX7_greatestDraw 60 = .ok (.invokevirtual 115, 3) := by decide +kernel
theorem dX7_greatestDraw_63 : decode cX7_greatestDraw 63 = .ok (.ifCond .ne 7, 3) := by decide +kernel
theorem dX7_greatestDraw_66 : decode cX7_greatestDraw 66 = .ok (.aload 6, 2) := by decide +kernel
theorem dX7_greatestDraw_68 : decode cX7_greatestDraw 68 = .ok (.astore 4, 2) := by decide +kernel
theorem dX7_greatestDraw_70 : decode cX7_greatestDraw 70 = .ok (.iinc 5 1, 3) := by decide +kernel
theorem dX7_greatestDraw_73 : decode cX7_greatestDraw 73 = .ok (.goto (-67), 3) := by decide +kernel
theorem dX7_greatestDraw_76 : decode cX7_greatestDraw 76 = .ok (.aload 4, 2) := by decide +kernel
theorem dX7_greatestDraw_78 : decode cX7_greatestDraw 78 = .ok (.areturn, 1) := by decide +kernel
theorem dX7_barTo_0 : decode cX7_barTo 0 = .ok (.aload_n 1, 1) := by decide +kernel
theorem dX7_barTo_1 : decode cX7_barTo 1 = .ok (.ifnull 15, 3) := by decide +kernel
theorem dX7_barTo_4 : decode cX7_barTo 4 = .ok (.aload_n 2, 1) := by decide +kernel
theorem dX7_barTo_5 : decode cX7_barTo 5 = .ok (.ifnull 11, 3) := by decide +kernel
theorem dX7_barTo_8 : decode cX7_barTo 8 = .ok (.aload_n 0, 1) := by decide +kernel
theorem dX7_barTo_9 : decode cX7_barTo 9 = .ok (.iload_n 3, 1) := by decide +kernel
theorem dX7_barTo_10 : decode cX7_barTo 10 = .ok (.invokevirtual 133, 3) := by decide +kernel
theorem dX7_barTo_13 : decode cX7_barTo 13 = .ok (.ifCond .ne 5, 3) := by decide +kernel
theorem dX7_barTo_16 : decode cX7_barTo 16 = .ok (.iconst 1, 1) := by decide +kernel
theorem dX7_barTo_17 : decode cX7_barTo 17 = .ok (.ireturn, 1) := by decide +kernel
theorem dX7_barTo_18 : decode cX7_barTo 18 = .ok (.aload_n 1, 1) := by decide +kernel
theorem dX7_barTo_19 : decode cX7_barTo 19 = .ok (.iload_n 3, 1) := by decide +kernel
theorem dX7_barTo_20 : decode cX7_barTo 20 = .ok (.invokevirtual 136, 3) := by decide +kernel
theorem dX7_barTo_23 : decode cX7_barTo 23 = .ok (.ifnull 5, 3) := by decide +kernel
theorem dX7_barTo_26 : decode cX7_barTo 26 = .ok (.iconst 2, 1) := by decide +kernel
theorem dX7_barTo_27 : decode cX7_barTo 27 = .ok (.ireturn, 1) := by decide +kernel
theorem dX7_barTo_28 : decode cX7_barTo 28 = .ok (.aload_n 1, 1) := by decide +kernel
theorem dX7_barTo_29 : decode cX7_barTo 29 = .ok (.iload_n 3, 1) := by decide +kernel
theorem dX7_barTo_30 : decode cX7_barTo 30 = .ok (.iconst 1, 1) := by decide +kernel
theorem dX7_barTo_31 : decode cX7_barTo 31 = .ok (.isub, 1) := by decide +kernel
theorem dX7_barTo_32 : decode cX7_barTo 32 = .ok (.invokevirtual 136, 3) := by decide +kernel
theorem dX7_barTo_35 : decode cX7_barTo 35 = .ok (.aload_n 2, 1) := by decide +kernel
theorem dX7_barTo_36 : decode cX7_barTo 36 = .ok (.invokestatic 226, 3) := by decide +kernel
theorem dX7_barTo_39 : decode cX7_barTo 39 = .ok (.ifCond .ne 17, 3) := by decide +kernel
theorem dX7_barTo_42 : decode cX7_barTo 42 = .ok (.aload_n 1, 1) := by decide +kernel
theorem dX7_barTo_43 : decode cX7_barTo 43 = .ok (.iload_n 3, 1) := by decide +kernel
theorem dX7_barTo_44 : decode cX7_barTo 44 = .ok (.iconst 1, 1) := by decide +kernel
theorem dX7_barTo_45 : decode cX7_barTo 45 = .ok (.iadd, 1) := by decide +kernel
theorem dX7_barTo_46 : decode cX7_barTo 46 = .ok (.invokevirtual 136, 3) := by decide +kernel
theorem dX7_barTo_49 : decode cX7_barTo 49 = .ok (.aload_n 2, 1) := by decide +kernel
theorem dX7_barTo_50 : decode cX7_barTo 50 = .ok (.invokestatic 226, 3) := by decide +kernel
theorem dX7_barTo_53 : decode cX7_barTo 53 = .ok (.ifCond .eq 5, 3) := by decide +kernel
theorem dX7_barTo_56 : decode cX7_barTo 56 = .ok (.iconst 3, 1) := by decide +kernel
theorem dX7_barTo_57 : decode cX7_barTo 57 = .ok (.ireturn, 1) := by decide +kernel
theorem dX7_barTo_58 : decode cX7_barTo 58 = .ok (.aload_n 1, 1) := by decide +kernel
theorem dX7_barTo_59 : decode cX7_barTo 59 = .ok (.iload_n 3, 1) := by decide +kernel
theorem dX7_barTo_60 : decode cX7_barTo 60 = .ok (.aload_n 0, 1) := by decide +kernel
theorem dX7_barTo_61 : decode cX7_barTo 61 = .ok (.getfield 43, 3) := by decide +kernel
theorem dX7_barTo_64 : decode cX7_barTo 64 = .ok (.invokevirtual 210, 3) := by decide +kernel
theorem dX7_barTo_67 : decode cX7_barTo 67 = .ok (.astore 4, 2) := by decide +kernel
theorem dX7_barTo_69 : decode cX7_barTo 69 = .ok (.aload 4, 2) := by decide +kernel
theorem dX7_barTo_71 : decode cX7_barTo 71 = .ok (.ifnull 14, 3) := by decide +kernel
theorem dX7_barTo_74 : decode cX7_barTo 74 = .ok (.aload 4, 2) := by decide +kernel
theorem dX7_barTo_76 : decode cX7_barTo 76 = .ok (.aload_n 2, 1) := by decide +kernel
theorem dX7_barTo_77 : decode cX7_barTo 77 = .ok (.invokevirtual 230, 3) := by decide +kernel
theorem dX7_barTo_80 : decode cX7_barTo 80 = .ok (.ifCond .eq 5, 3) := by decide +kernel
theorem dX7_barTo_83 : decode cX7_barTo 83 = .ok (.iconst 4, 1) := by decide +kernel
theorem dX7_barTo_84 : decode cX7_barTo 84 = .ok (.ireturn, 1) := by decide +kernel
theorem dX7_barTo_85 : decode cX7_barTo 85 = .ok (.aload 4, 2) := by decide +kernel
theorem dX7_barTo_87 : decode cX7_barTo 87 = .ok (.ifnull 16, 3) := by decide +kernel
theorem dX7_barTo_90 : decode cX7_barTo 90 = .ok (.aload_n 1, 1) := by decide +kernel
theorem dX7_barTo_91 : decode cX7_barTo 91 = .ok (.aload_n 2, 1) := by decide +kernel
theorem dX7_barTo_92 : decode cX7_barTo 92 = .ok (.iload_n 3, 1) := by decide +kernel
theorem dX7_barTo_93 : decode cX7_barTo 93 = .ok (.aload 4, 2) := by decide +kernel
theorem dX7_barTo_95 : decode cX7_barTo 95 = .ok (.invokestatic 234, 3) := by decide +kernel
theorem dX7_barTo_98 : decode cX7_barTo 98 = .ok (.ifCond .eq 5, 3) := by decide +kernel
theorem dX7_barTo_101 : decode cX7_barTo 101 = .ok (.iconst 5, 1) := by decide +kernel
theorem dX7_barTo_102 : decode cX7_barTo 102 = .ok (.ireturn, 1) := by decide +kernel
theorem dX7_barTo_103 : decode cX7_barTo 103 = .ok (.aload_n 0, 1) := by decide +kernel
theorem dX7_barTo_104 : decode cX7_barTo 104 = .ok (.aload_n 1, 1) := by decide +kernel
theorem dX7_barTo_105 : decode cX7_barTo 105 = .ok (.aload_n 2, 1) := by decide +kernel
theorem dX7_barTo_106 : decode cX7_barTo 106 = .ok (.iload_n 3, 1) := by decide +kernel
theorem dX7_barTo_107 : decode cX7_barTo 107 = .ok (.invokevirtual 238, 3) := by decide +kernel
theorem dX7_barTo_110 : decode cX7_barTo 110 = .ok (.ifCond .eq 6, 3) := by decide +kernel
theorem dX7_barTo_113 : decode cX7_barTo 113 = .ok (.bipush 6, 2) := by decide +kernel
theorem dX7_barTo_115 : decode cX7_barTo 115 = .ok (.ireturn, 1) := by decide +kernel
theorem dX7_barTo_116 : decode cX7_barTo 116 = .ok (.aload_n 0, 1) := by decide +kernel
theorem dX7_barTo_117 : decode cX7_barTo 117 = .ok (.aload_n 1, 1) := by decide +kernel
theorem dX7_barTo_118 : decode cX7_barTo 118 = .ok (.aload_n 2, 1) := by decide +kernel
theorem dX7_barTo_119 : decode cX7_barTo 119 = .ok (.iload_n 3, 1) := by decide +kernel
theorem dX7_barTo_120 : decode cX7_barTo 120 = .ok (.aload 4, 2) := by decide +kernel
theorem dX7_barTo_122 : decode cX7_barTo 122 = .ok (.invokevirtual 242, 3) := by decide +kernel
theorem dX7_barTo_125 : decode cX7_barTo 125 = .ok (.ireturn, 1) := by decide +kernel
theorem dX7_barOnBill_0 : decode cX7_barOnBill 0 = .ok (.aload_n 0, 1) := by decide +kernel
theorem dX7_barOnBill_1 : decode cX7_barOnBill 1 = .ok (.aload_n 2, 1) := by decide +kernel
theorem dX7_barOnBill_2 : decode cX7_barOnBill 2 = .ok (.iload_n 3, 1) := by decide +kernel
theorem dX7_barOnBill_3 : decode cX7_barOnBill 3 = .ok (.invokevirtual 126, 3) := by decide +kernel
theorem dX7_barOnBill_6 : decode cX7_barOnBill 6 = .ok (.aload_n 0, 1) := by decide +kernel
theorem dX7_barOnBill_7 : decode cX7_barOnBill 7 = .ok (.getfield 28, 3) := by decide +kernel
theorem dX7_barOnBill_10 : decode cX7_barOnBill 10 = .ok (.aload_n 1, 1) := by decide +kernel
theorem dX7_barOnBill_11 : decode cX7_barOnBill 11 = .ok (.getfield 201, 3) := by decide +kernel
theorem dX7_barOnBill_14 : decode cX7_barOnBill 14 = .ok (.invokevirtual 246, 3) := by decide +kernel
theorem dX7_barOnBill_17 : decode cX7_barOnBill 17 = .ok (.ifCond .eq 6, 3) := by decide +kernel
theorem dX7_barOnBill_20 : decode cX7_barOnBill 20 = .ok (.bipush 7, 2) := by decide +kernel
theorem dX7_barOnBill_22 : decode cX7_barOnBill 22 = .ok (.ireturn, 1) := by decide +kernel
theorem dX7_barOnBill_23 : decode cX7_barOnBill 23 = .ok (.aload_n 0, 1) := by decide +kernel
theorem dX7_barOnBill_24 : decode cX7_barOnBill 24 = .ok (.getfield 28, 3) := by decide +kernel
theorem dX7_barOnBill_27 : decode cX7_barOnBill 27 = .ok (.aload_n 1, 1) := by decide +kernel
theorem dX7_barOnBill_28 : decode cX7_barOnBill 28 = .ok (.aload 4, 2) := by decide +kernel
theorem dX7_barOnBill_30 : decode cX7_barOnBill 30 = .ok (.iload_n 3, 1) := by decide +kernel
theorem dX7_barOnBill_31 : decode cX7_barOnBill 31 = .ok (.aload_n 0, 1) := by decide +kernel
theorem dX7_barOnBill_32 : decode cX7_barOnBill 32 = .ok (.getfield 43, 3) := by decide +kernel
theorem dX7_barOnBill_35 : decode cX7_barOnBill 35 = .ok (.invokevirtual 249, 3) := by decide +kernel
theorem dX7_barOnBill_38 : decode cX7_barOnBill 38 = .ok (.ifCond .eq 6, 3) := by decide +kernel
theorem dX7_barOnBill_41 : decode cX7_barOnBill 41 = .ok (.bipush 8, 2) := by decide +kernel
theorem dX7_barOnBill_43 : decode cX7_barOnBill 43 = .ok (.ireturn, 1) := by decide +kernel
theorem dX7_barOnBill_44 : decode cX7_barOnBill 44 = .ok (.aload_n 1, 1) := by decide +kernel
theorem dX7_barOnBill_45 : decode cX7_barOnBill 45 = .ok (.aload_n 2, 1) := by decide +kernel
theorem dX7_barOnBill_46 : decode cX7_barOnBill 46 = .ok (.iload_n 3, 1) := by decide +kernel
theorem dX7_barOnBill_47 : decode cX7_barOnBill 47 = .ok (.invokevirtual 253, 3) := by decide +kernel
theorem dX7_barOnBill_50 : decode cX7_barOnBill 50 = .ok (.ifCond .eq 6, 3) := by decide +kernel
theorem dX7_barOnBill_53 : decode cX7_barOnBill 53 = .ok (.bipush 9, 2) := by decide +kernel
theorem dX7_barOnBill_55 : decode cX7_barOnBill 55 = .ok (.ireturn, 1) := by decide +kernel
theorem dX7_barOnBill_56 : decode cX7_barOnBill 56 = .ok (.aload_n 0, 1) := by decide +kernel
theorem dX7_barOnBill_57 : decode cX7_barOnBill 57 = .ok (.getfield 28, 3) := by decide +kernel
theorem dX7_barOnBill_60 : decode cX7_barOnBill 60 = .ok (.getfield 130, 3) := by decide +kernel
theorem dX7_barOnBill_63 : decode cX7_barOnBill 63 = .ok (.bipush 9, 2) := by decide +kernel
theorem dX7_barOnBill_65 : decode cX7_barOnBill 65 = .ok (.if_icmp .lt 6, 3) := by decide +kernel
theorem dX7_barOnBill_68 : decode cX7_barOnBill 68 = .ok (.bipush 10, 2) := by decide +kernel
theorem dX7_barOnBill_70 : decode cX7_barOnBill 70 = .ok (.ireturn, 1) := by decide +kernel
theorem dX7_barOnBill_71 : decode cX7_barOnBill 71 = .ok (.aload_n 0, 1) := by decide +kernel
theorem dX7_barOnBill_72 : decode cX7_barOnBill 72 = .ok (.getfield 28, 3) := by decide +kernel
theorem dX7_barOnBill_75 : decode cX7_barOnBill 75 = .ok (.invokevirtual 144, 3) := by decide +kernel
theorem dX7_barOnBill_78 : decode cX7_barOnBill 78 = .ok (.aload_n 1, 1) := by decide +kernel
theorem dX7_barOnBill_79 : decode cX7_barOnBill 79 = .ok (.getfield 191, 3) := by decide +kernel
theorem dX7_barOnBill_82 : decode cX7_barOnBill 82 = .ok (.iadd, 1) := by decide +kernel
theorem dX7_barOnBill_83 : decode cX7_barOnBill 83 = .ok (.aload_n 2, 1) := by decide +kernel
theorem dX7_barOnBill_84 : decode cX7_barOnBill 84 = .ok (.getfield 257, 3) := by decide +kernel
theorem dX7_barOnBill_87 : decode cX7_barOnBill 87 = .ok (.if_icmp .le 8, 3) := by decide +kernel
theorem dX7_barOnBill_90 : decode cX7_barOnBill 90 = .ok (.bipush 11, 2) := by decide +kernel
theorem dX7_barOnBill_92 : decode cX7_barOnBill 92 = .ok (.goto 4, 3) := by decide +kernel
theorem dX7_barOnBill_95 : decode cX7_barOnBill 95 = .ok (.iconst 0, 1) := by decide +kernel
theorem dX7_barOnBill_96 : decode cX7_barOnBill 96 = .ok (.ireturn, 1) := by decide +kernel
theorem dX7_isTooFar_0 : decode cX7_isTooFar 0 = .ok (.aload_n 0, 1) := by decide +kernel
theorem dX7_isTooFar_1 : decode cX7_isTooFar 1 = .ok (.ifnull 18, 3) := by decide +kernel
theorem dX7_isTooFar_4 : decode cX7_isTooFar 4 = .ok (.aload_n 0, 1) := by decide +kernel
theorem dX7_isTooFar_5 : decode cX7_isTooFar 5 = .ok (.aload_n 1, 1) := by decide +kernel
theorem dX7_isTooFar_6 : decode cX7_isTooFar 6 = .ok (.invokevirtual 258, 3) := by decide +kernel
theorem dX7_isTooFar_9 : decode cX7_isTooFar 9 = .ok (.sipush 150, 3) := by decide +kernel
theorem dX7_isTooFar_12 : decode cX7_isTooFar 12 = .ok (.if_icmp .le 7, 3) := by decide +kernel
theorem dX7_isTooFar_15 : decode cX7_isTooFar 15 = .ok (.iconst 1, 1) := by decide +kernel
theorem dX7_isTooFar_16 : decode cX7_isTooFar 16 = .ok (.goto 4, 3) := by decide +kernel
theorem dX7_isTooFar_19 : decode cX7_isTooFar 19 = .ok (.iconst 0, 1) := by decide +kernel
theorem dX7_isTooFar_20 : decode cX7_isTooFar 20 = .ok (.ireturn, 1) := by decide +kernel
theorem dX7_isBarredByOwn_0 : decode cX7_isBarredByOwn 0 = .ok (.iconst 0, 1) := by decide +kernel
theorem dX7_isBarredByOwn_1 : decode cX7_isBarredByOwn 1 = .ok (.istore 4, 2) := by decide +kernel
theorem dX7_isBarredByOwn_3 : decode cX7_isBarredByOwn 3 = .ok (.iload 4, 2) := by decide +kernel
theorem dX7_isBarredByOwn_5 : decode cX7_isBarredByOwn 5 = .ok (.bipush 60, 2) := by decide +kernel
theorem dX7_isBarredByOwn_7 : decode cX7_isBarredByOwn 7 = .ok (.if_icmp .ge 44, 3) := by decide +kernel
theorem dX7_isBarredByOwn_10 : decode cX7_isBarredByOwn 10 = .ok (.aload_n 0, 1) := by decide +kernel
theorem dX7_isBarredByOwn_11 : decode cX7_isBarredByOwn 11 = .ok (.iload 4, 2) := by decide +kernel
theorem dX7_isBarredByOwn_13 : decode cX7_isBarredByOwn 13 = .ok (.invokevirtual 136, 3) := by decide +kernel
theorem dX7_isBarredByOwn_16 : decode cX7_isBarredByOwn 16 = .ok (.astore 5, 2) := by decide +kernel
theorem dX7_isBarredByOwn_18 : decode cX7_isBarredByOwn 18 = .ok (.aload 5, 2) := by decide +kernel
theorem dX7_isBarredByOwn_20 : decode cX7_isBarredByOwn 20 = .ok (.ifnull 25, 3) := by decide +kernel
theorem dX7_isBarredByOwn_23 : decode cX7_isBarredByOwn 23 = .ok (.aload_n 3, 1) := by decide +kernel
theorem dX7_isBarredByOwn_24 : decode cX7_isBarredByOwn 24 = .ok (.aload 5, 2) := by decide +kernel
theorem dX7_isBarredByOwn_26 : decode cX7_isBarredByOwn 26 = .ok (.aload_n 1, 1) := by decide +kernel
theorem dX7_isBarredByOwn_27 : decode cX7_isBarredByOwn 27 = .ok (.invokevirtual 258, 3) := by decide +kernel
theorem dX7_isBarredByOwn_30 : decode cX7_isBarredByOwn 30 = .ok (.iload 4, 2) := by decide +kernel
theorem dX7_isBarredByOwn_32 : decode cX7_isBarredByOwn 32 = .ok (.iload_n 2, 1) := by decide +kernel
theorem dX7_isBarredByOwn_33 : decode cX7_isBarredByOwn 33 = .ok (.isub, 1) := by decide +kernel
theorem dX7_isBarredByOwn_34 : decode cX7_isBarredByOwn 34 = .ok (.invokestatic 262, 3) := by decide +kernel
theorem dX7_isBarredByOwn_37 : decode cX7_isBarredByOwn 37 = .ok (.invokevirtual 265, 3) := by decide +kernel
theorem dX7_isBarredByOwn_40 : decode cX7_isBarredByOwn 40 = .ok (.ifCond .eq 5, 3) := by decide +kernel
theorem dX7_isBarredByOwn_43 : decode cX7_isBarredByOwn 43 = .ok (.iconst 1, 1) := by decide +kernel
theorem dX7_isBarredByOwn_44 : decode cX7_isBarredByOwn 44 = .ok (.ireturn, 1) := by decide +kernel
theorem dX7_isBarredByOwn_45 : decode cX7_isBarredByOwn 45 = .ok (.iinc 4 1, 3) := by decide +kernel
theorem dX7_isBarredByOwn_48 : decode cX7_isBarredByOwn 48 = .ok (.goto (-45), 3) := by decide +kernel
theorem dX7_isBarredByOwn_51 : decode cX7_isBarredByOwn 51 = .ok (.iconst 0, 1) := by decide +kernel
theorem dX7_isBarredByOwn_52 : decode cX7_isBarredByOwn 52 = .ok (.ireturn, 1) := by decide +kernel
theorem dX7_isBarredByOtherWeeks_0 : decode cX7_isBarredByOtherWeeks 0 = .ok (.iconst 0, 1) := by decide +kernel
theorem dX7_isBarredByOtherWeeks_1 : decode cX7_isBarredByOtherWeeks 1 = .ok (.istore 4, 2) := by decide +kernel
theorem dX7_isBarredByOtherWeeks_3 : decode cX7_isBarredByOtherWeeks 3 = .ok (.iload 4, 2) := by decide +kernel
theorem dX7_isBarredByOtherWeeks_5 : decode cX7_isBarredByOtherWeeks 5 = .ok (.bipush 60, 2) := by decide +kernel
theorem dX7_isBarredByOtherWeeks_7 : decode cX7_isBarredByOtherWeeks 7 = .ok (.if_icmp .ge 65, 3) := by decide +kernel
theorem dX7_isBarredByOtherWeeks_10 : decode cX7_isBarredByOtherWeeks 10 = .ok (.aload_n 1, 1) := by decide +kernel
theorem dX7_isBarredByOtherWeeks_11 : decode cX7_isBarredByOtherWeeks 11 = .ok (.iload 4, 2) := by decide +kernel
theorem dX7_isBarredByOtherWeeks_13 : decode cX7_isBarredByOtherWeeks 13 = .ok (.invokevirtual 136, 3) := by decide +kernel
theorem dX7_isBarredByOtherWeeks_16 : decode cX7_isBarredByOtherWeeks 16 = .ok (.astore 5, 2) := by decide +kernel
theorem dX7_isBarredByOtherWeeks_18 : decode cX7_isBarredByOtherWeeks 18 = .ok (.aload 5, 2) := by decide +kernel
theorem dX7_isBarredByOtherWeeks_20 : decode cX7_isBarredByOtherWeeks 20 = .ok (.ifnonnull 6, 3) := by decide +kernel
theorem dX7_isBarredByOtherWeeks_23 : decode cX7_isBarredByOtherWeeks 23 = .ok (.goto 43, 3) := by decide +kernel
theorem dX7_isBarredByOtherWeeks_26 : decode cX7_isBarredByOtherWeeks 26 = .ok (.aload_n 1, 1) := by decide +kernel
theorem dX7_isBarredByOtherWeeks_27 : decode cX7_isBarredByOtherWeeks 27 = .ok (.iload 4, 2) := by decide +kernel
theorem dX7_isBarredByOtherWeeks_29 : decode cX7_isBarredByOtherWeeks 29 = .ok (.aload_n 0, 1) := by decide +kernel
theorem dX7_isBarredByOtherWeeks_30 : decode cX7_isBarredByOtherWeeks 30 = .ok (.getfield 43, 3) := by decide +kernel
theorem dX7_isBarredByOtherWeeks_33 : decode cX7_isBarredByOtherWeeks 33 = .ok (.invokevirtual 210, 3) := by decide +kernel
theorem dX7_isBarredByOtherWeeks_36 : decode cX7_isBarredByOtherWeeks 36 = .ok (.astore 6, 2) := by decide +kernel
theorem dX7_isBarredByOtherWeeks_38 : decode cX7_isBarredByOtherWeeks 38 = .ok (.aload 6, 2) := by decide +kernel
theorem dX7_isBarredByOtherWeeks_40 : decode cX7_isBarredByOtherWeeks 40 = .ok (.ifnull 26, 3) := by decide +kernel
theorem dX7_isBarredByOtherWeeks_43 : decode cX7_isBarredByOtherWeeks 43 = .ok (.aload 6, 2) := by decide +kernel
theorem dX7_isBarredByOtherWeeks_45 : decode cX7_isBarredByOtherWeeks 45 = .ok (.aload 5, 2) := by decide +kernel
theorem dX7_isBarredByOtherWeeks_47 : decode cX7_isBarredByOtherWeeks 47 = .ok (.aload_n 2, 1) := by decide +kernel
theorem dX7_isBarredByOtherWeeks_48 : decode cX7_isBarredByOtherWeeks 48 = .ok (.invokevirtual 258, 3) := by decide +kernel
theorem dX7_isBarredByOtherWeeks_51 : decode cX7_isBarredByOtherWeeks 51 = .ok (.iload 4, 2) := by decide +kernel
theorem dX7_isBarredByOtherWeeks_53 : decode cX7_isBarredByOtherWeeks 53 = .ok (.iload_n 3, 1) := by decide +kernel
theorem dX7_isBarredByOtherWeeks_54 : decode cX7_isBarredByOtherWeeks 54 = .ok (.isub, 1) := by decide +kernel
theorem dX7_isBarredByOtherWeeks_55 : decode cX7_isBarredByOtherWeeks 55 = .ok (.invokestatic 262, 3) := by decide +kernel
theorem dX7_isBarredByOtherWeeks_58 : decode cX7_isBarredByOtherWeeks 58 = .ok (.invokevirtual 265, 3) := by decide +kernel
theorem dX7_isBarredByOtherWeeks_61 : decode cX7_isBarredByOtherWeeks 61 = .ok (.ifCond .eq 5, 3) := by decide +kernel
theorem dX7_isBarredByOtherWeeks_64 : decode cX7_isBarredByOtherWeeks 64 = .ok (.iconst 1, 1) := by decide +kernel
theorem dX7_isBarredByOtherWeeks_65 : decode cX7_isBarredByOtherWeeks 65 = .ok (.ireturn, 1) := by decide +kernel
theorem dX7_isBarredByOtherWeeks_66 : decode cX7_isBarredByOtherWeeks 66 = .ok (.iinc 4 1, 3) := by decide +kernel
theorem dX7_isBarredByOtherWeeks_69 : decode cX7_isBarredByOtherWeeks 69 = .ok (.goto (-66), 3) := by decide +kernel
theorem dX7_isBarredByOtherWeeks_72 : decode cX7_isBarredByOtherWeeks 72 = .ok (.iconst 0, 1) := by decide +kernel
theorem dX7_isBarredByOtherWeeks_73 : decode cX7_isBarredByOtherWeeks 73 = .ok (.ireturn, 1) := by decide +kernel
theorem dX8_init_0 : decode cX8_init 0 = .ok (.aload_n 0, 1) := by decide +kernel
theorem dX8_init_1 : decode cX8_init 1 = .ok (.invokespecial 1, 3) := by decide +kernel
theorem dX8_init_4 : decode cX8_init 4 = .ok (.aload_n 0, 1) := by decide +kernel
theorem dX8_init_5 : decode cX8_init 5 = .ok (.bipush 40, 2) := by decide +kernel
theorem dX8_init_7 : decode cX8_init 7 = .ok (.newarray .int, 2) := by decide +kernel
theorem dX8_init_9 : decode cX8_init 9 = .ok (.putfield 7, 3) := by decide +kernel
theorem dX8_init_12 : decode cX8_init 12 = .ok (.aload_n 0, 1) := by decide +kernel
theorem dX8_init_13 : decode cX8_init 13 = .ok (.bipush 40, 2) := by decide +kernel
theorem dX8_init_15 : decode cX8_init 15 = .ok (.newarray .int, 2) := by decide +kernel
theorem dX8_init_17 : decode cX8_init 17 = .ok (.putfield 13, 3) := by decide +kernel
theorem dX8_init_20 : decode cX8_init 20 = .ok (.aload_n 0, 1) := by decide +kernel
theorem dX8_init_21 : decode cX8_init 21 = .ok (.bipush 40, 2) := by decide +kernel
theorem dX8_init_23 : decode cX8_init 23 = .ok (.newarray .int, 2) := by decide +kernel
theorem dX8_init_25 : decode cX8_init 25 = .ok (.putfield 16, 3) := by decide +kernel
theorem dX8_init_28 : decode cX8_init 28 = .ok (.aload_n 0, 1) := by decide +kernel
theorem dX8_init_29 : decode cX8_init 29 = .ok (.bipush 40, 2) := by decide +kernel
theorem dX8_init_31 : decode cX8_init 31 = .ok (.newarray .int, 2) := by decide +kernel
theorem dX8_init_33 : decode cX8_init 33 = .ok (.putfield 19, 3) := by decide +kernel
theorem dX8_init_36 : decode cX8_init 36 = .ok (.aload_n 0, 1) := by decide +kernel
theorem dX8_init_37 : decode cX8_init 37 = .ok (.bipush 40, 2) := by decide +kernel
theorem dX8_init_39 : decode cX8_init 39 = .ok (.newarray .int, 2) := by decide +kernel
theorem dX8_init_41 : decode cX8_init 41 = .ok (.putfield 22, 3) := by decide +kernel
theorem dX8_init_44 : decode cX8_init 44 = .ok (.aload_n 0, 1) := by decide +kernel
theorem dX8_init_45 : decode cX8_init 45 = .ok (.bipush 40, 2) := by decide +kernel
theorem dX8_init_47 : decode cX8_init 47 = .ok (.newarray .boolean, 2) := by decide +kernel
theorem dX8_init_49 : decode cX8_init 49 = .ok (.putfield 25, 3) := by decide +kernel
theorem dX8_init_52 : decode cX8_init 52 = .ok (.aload_n 0, 1) := by decide +kernel
theorem dX8_init_53 : decode cX8_init 53 = .ok (.bipush 10, 2) := by decide +kernel
theorem dX8_init_55 : decode cX8_init 55 = .ok (.newarray .int, 2) := by decide +kernel
theorem dX8_init_57 : decode cX8_init 57 = .ok (.putfield 29, 3) := by decide +kernel
theorem dX8_init_60 : decode cX8_init 60 = .ok (.aload_n 0, 1) := by decide +kernel
theorem dX8_init_61 : decode cX8_init 61 = .ok (.bipush 10, 2) := by decide +kernel
theorem dX8_init_63 : decode cX8_init 63 = .ok (.newarray .int, 2) := by decide +kernel
theorem dX8_init_65 : decode cX8_init 65 = .ok (.putfield 32, 3) := by decide +kernel
theorem dX8_init_68 : decode cX8_init 68 = .ok (.aload_n 0, 1) := by decide +kernel
theorem dX8_init_69 : decode cX8_init 69 = .ok (.bipush 10, 2) := by decide +kernel
theorem dX8_init_71 : decode cX8_init 71 = .ok (.newarray .int, 2) := by decide +kernel
theorem dX8_init_73 : decode cX8_init 73 = .ok (.putfield 35, 3) := by decide +kernel
theorem dX8_init_76 : decode cX8_init 76 = .ok (.aload_n 0, 1) := by decide +kernel
theorem dX8_init_77 : decode cX8_init 77 = .ok (.sipush 2400, 3) := by decide +kernel
theorem dX8_init_80 : decode cX8_init 80 = .ok (.newarray .int, 2) := by decide +kernel
theorem dX8_init_82 : decode cX8_init 82 = .ok (.putfield 38, 3) := by decide +kernel
theorem dX8_init_85 : decode cX8_init 85 = .ok (.aload_n 0, 1) := by decide +kernel
theorem dX8_init_86 : decode cX8_init 86 = .ok (.sipush 600, 3) := by decide +kernel
theorem dX8_init_89 : decode cX8_init 89 = .ok (.newarray .byte, 2) := by decide +kernel
theorem dX8_init_91 : decode cX8_init 91 = .ok (.putfield 41, 3) := by decide +kernel
theorem dX8_init_94 : decode cX8_init 94 = .ok (.aload_n 0, 1) := by decide +kernel
theorem dX8_init_95 : decode cX8_init 95 = .ok (.sipush 600, 3) := by decide +kernel
theorem dX8_init_98 : decode cX8_init 98 = .ok (.newarray .byte, 2) := by decide +kernel
theorem dX8_init_100 : decode cX8_init 100 = .ok (.putfield 45, 3) := by decide +kernel
theorem dX8_init_103 : decode cX8_init 103 = .ok (.aload_n 0, 1) := by decide +kernel
theorem dX8_init_104 : decode cX8_init 104 = .ok (.iconst (-1), 1) := by decide +kernel
theorem dX8_init_105 : decode cX8_init 105 = .ok (.putfield 48, 3) := by decide +kernel
theorem dX8_init_108 : decode cX8_init 108 = .ok (.aload_n 0, 1) := by decide +kernel
theorem dX8_init_109 : decode cX8_init 109 = .ok (.bipush 61, 2) := by decide +kernel
theorem dX8_init_111 : decode cX8_init 111 = .ok (.newarray .int, 2) := by decide +kernel
theorem dX8_init_113 : decode cX8_init 113 = .ok (.putfield 52, 3) := by decide +kernel
theorem dX8_init_116 : decode cX8_init 116 = .ok (.aload_n 0, 1) := by decide +kernel
theorem dX8_init_117 : decode cX8_init 117 = .ok (.bipush 61, 2) := by decide +kernel
theorem dX8_init_119 : decode cX8_init 119 = .ok (.newarray .int, 2) := by decide +kernel
theorem dX8_init_121 : decode cX8_init 121 = .ok (.putfield 55, 3) := by decide +kernel
theorem dX8_init_124 : decode cX8_init 124 = .ok (.aload_n 0, 1) := by decide +kernel
theorem dX8_init_125 : decode cX8_init 125 = .ok (.bipush 61, 2) := by decide +kernel
theorem dX8_init_127 : decode cX8_init 127 = .ok (.newarray .int, 2) := by decide +kernel
theorem dX8_init_129 : decode cX8_init 129 = .ok (.putfield 58, 3) := by decide +kernel
theorem dX8_init_132 : decode cX8_init 132 = .ok (.aload_n 0, 1) := by decide +kernel
theorem dX8_init_133 : decode cX8_init 133 = .ok (.bipush 61, 2) := by decide +kernel
theorem dX8_init_135 : decode cX8_init 135 = .ok (.newarray .int, 2) := by decide +kernel
theorem dX8_init_137 : decode cX8_init 137 = .ok (.putfield 61, 3) := by decide +kernel
theorem dX8_init_140 : decode cX8_init 140 = .ok (.aload_n 0, 1) := by decide +kernel
theorem dX8_init_141 : decode cX8_init 141 = .ok (.sipush 732, 3) := by decide +kernel
theorem dX8_init_144 : decode cX8_init 144 = .ok (.newarray .int, 2) := by decide +kernel
theorem dX8_init_146 : decode cX8_init 146 = .ok (.putfield 64, 3) := by decide +kernel
theorem dX8_init_149 : decode cX8_init 149 = .ok (.aload_n 0, 1) := by decide +kernel
theorem dX8_init_150 : decode cX8_init 150 = .ok (.sipush 732, 3) := by decide +kernel
theorem dX8_init_153 : decode cX8_init 153 = .ok (.newarray .int, 2) := by decide +kernel
theorem dX8_init_155 : decode cX8_init 155 = .ok (.putfield 67, 3) := by decide +kernel
theorem dX8_init_158 : decode cX8_init 158 = .ok (.aload_n 0, 1) := by decide +kernel
theorem dX8_init_159 : decode cX8_init 159 = .ok (.sipush 732, 3) := by decide +kernel
theorem dX8_init_162 : decode cX8_init 162 = .ok (.newarray .int, 2) := by decide +kernel
theorem dX8_init_164 : decode cX8_init 164 = .ok (.putfield 70, 3) := by decide +kernel
theorem dX8_init_167 : decode cX8_init 167 = .ok (.aload_n 0, 1) := by decide +kernel
theorem dX8_init_168 : decode cX8_init 168 = .ok (.bipush 9, 2) := by decide +kernel
theorem dX8_init_170 : decode cX8_init 170 = .ok (.newarray .int, 2) := by decide +kernel
theorem dX8_init_172 : decode cX8_init 172 = .ok (.putfield 73, 3) := by decide +kernel
theorem dX8_init_175 : decode cX8_init 175 = .ok (.aload_n 0, 1) := by decide +kernel
theorem dX8_init_176 : decode cX8_init 176 = .ok (.bipush 9, 2) := by decide +kernel
theorem dX8_init_178 : decode cX8_init 178 = .ok (.newarray .int, 2) := by decide +kernel
theorem dX8_init_180 : decode cX8_init 180 = .ok (.putfield 76, 3) := by decide +kernel
theorem dX8_init_183 : decode cX8_init 183 = .ok (.aload_n 0, 1) := by decide +kernel
theorem dX8_init_184 : decode cX8_init 184 = .ok (.bipush 9, 2) := by decide +kernel
theorem dX8_init_186 : decode cX8_init 186 = .ok (.newarray .int, 2) := by decide +kernel
theorem dX8_init_188 : decode cX8_init 188 = .ok (.putfield 79, 3) := by decide +kernel
theorem dX8_init_191 : decode cX8_init 191 = .ok (.aload_n 0, 1) := by decide +kernel
theorem dX8_init_192 : decode cX8_init 192 = .ok (.sipush 4608, 3) := by decide +kernel
theorem dX8_init_195 : decode cX8_init 195 = .ok (.newarray .int, 2) := by decide +kernel
theorem dX8_init_197 : decode cX8_init 197 = .ok (.putfield 82, 3) := by decide +kernel
theorem dX8_init_200 : decode cX8_init 200 = .ok (.iconst 0, 1) := by decide +kernel
theorem dX8_init_201 : decode cX8_init 201 = .ok (.istore_n 1, 1) := by decide +kernel
theorem dX8_init_202 : decode cX8_init 202 = .ok (.iload_n 1, 1) := by decide +kernel
theorem dX8_init_203 : decode cX8_init 203 = .ok (.sipush 2400, 3) := by decide +kernel
theorem dX8_init_206 : decode cX8_init 206 = .ok (.if_icmp .ge 16, 3) := by decide +kernel
theorem dX8_init_209 : decode cX8_init 209 = .ok (.aload_n 0, 1) := by decide +kernel
theorem dX8_init_210 : decode cX8_init 210 = .ok (.getfield 38, 3) := by decide +kernel
theorem dX8_init_213 : decode cX8_init 213 = .ok (.iload_n 1, 1) := by decide +kernel
theorem dX8_init_214 : decode cX8_init 214 = .ok (.iconst (-1), 1) := by decide +kernel
theorem dX8_init_215 : decode cX8_init 215 = .ok (.iastore, 1) := by decide +kernel
theorem dX8_init_216 : decode cX8_init 216 = .ok (.iinc 1 1, 3) := by decide +kernel
theorem dX8_init_219 : decode cX8_init 219 = .ok (.goto (-17), 3) := by decide +kernel
theorem dX8_init_222 : decode cX8_init 222 = .ok (.return_, 1) := by decide +kernel
theorem dX8_isIn_0 : decode cX8_isIn 0 = .ok (.iload_n 0, 1) := by decide +kernel
theorem dX8_isIn_1 : decode cX8_isIn 1 = .ok (.iload_n 1, 1) := by decide +kernel
theorem dX8_isIn_2 : decode cX8_isIn 2 = .ok (.if_icmp .lt 12, 3) := by decide +kernel
theorem dX8_isIn_5 : decode cX8_isIn 5 = .ok (.iload_n 0, 1) := by decide +kernel
theorem dX8_isIn_6 : decode cX8_isIn 6 = .ok (.iload_n 2, 1) := by decide +kernel
theorem dX8_isIn_7 : decode cX8_isIn 7 = .ok (.if_icmp .gt 7, 3) := by decide +kernel
theorem dX8_isIn_10 : decode cX8_isIn 10 = .ok (.iconst 1, 1) := by decide +kernel
theorem dX8_isIn_11 : decode cX8_isIn 11 = .ok (.goto 4, 3) := by decide +kernel
theorem dX8_isIn_14 : decode cX8_isIn 14 = .ok (.iconst 0, 1) := by decide +kernel
theorem dX8_isIn_15 : decode cX8_isIn 15 = .ok (.ireturn, 1) := by decide +kernel
theorem dX8_isTurn_0 : decode cX8_isTurn 0 = .ok (.iload_n 1, 1) := by decide +kernel
theorem dX8_isTurn_1 : decode cX8_isTurn 1 = .ok (.iconst 0, 1) := by decide +kernel
theorem dX8_isTurn_2 : decode cX8_isTurn 2 = .ok (.aload_n 0, 1) := by decide +kernel
theorem dX8_isTurn_3 : decode cX8_isTurn 3 = .ok (.getfield 85, 3) := by decide +kernel
theorem dX8_isTurn_6 : decode cX8_isTurn 6 = .ok (.iconst 1, 1) := by decide +kernel
theorem dX8_isTurn_7 : decode cX8_isTurn 7 = .ok (.isub, 1) := by decide +kernel
theorem dX8_isTurn_8 : decode cX8_isTurn 8 = .ok (.invokestatic 88, 3) := by decide +kernel
theorem dX8_isTurn_11 : decode cX8_isTurn 11 = .ok (.ireturn, 1) := by decide +kernel
theorem dX8_isHall_0 : decode cX8_isHall 0 = .ok (.iload_n 1, 1) := by decide +kernel
theorem dX8_isHall_1 : decode cX8_isHall 1 = .ok (.iconst 0, 1) := by decide +kernel
theorem dX8_isHall_2 : decode cX8_isHall 2 = .ok (.aload_n 0, 1) := by decide +kernel
theorem dX8_isHall_3 : decode cX8_isHall 3 = .ok (.getfield 92, 3) := by decide +kernel
theorem dX8_isHall_6 : decode cX8_isHall 6 = .ok (.iconst 1, 1) := by decide +kernel
theorem dX8_isHall_7 : decode cX8_isHall 7 = .ok (.isub, 1) := by decide +kernel
theorem dX8_isHall_8 : decode cX8_isHall 8 = .ok (.invokestatic 88, 3) := by decide +kernel
theorem dX8_isHall_11 : decode cX8_isHall 11 = .ok (.ireturn, 1) := by decide +kernel
theorem dX8_isWeek_0 : decode cX8_isWeek 0 = .ok (.iload_n 0, 1) := by decide +kernel
theorem dX8_isWeek_1 : decode cX8_isWeek 1 = .ok (.iconst 0, 1) := by decide +kernel
theorem dX8_isWeek_2 : decode cX8_isWeek 2 = .ok (.bipush 59, 2) := by decide +kernel
theorem dX8_isWeek_4 : decode cX8_isWeek 4 = .ok (.invokestatic 88, 3) := by decide +kernel
theorem dX8_isWeek_7 : decode cX8_isWeek 7 = .ok (.ireturn, 1) := by decide +kernel
theorem dX8_one_0 : decode cX8_one 0 = .ok (.iload_n 0, 1) := by decide +kernel
theorem dX8_one_1 : decode cX8_one 1 = .ok (.ifCond .eq 7, 3) := by decide +kernel
theorem dX8_one_4 : decode cX8_one 4 = .ok (.iconst 1, 1) := by decide +kernel
theorem dX8_one_5 : decode cX8_one 5 = .ok (.goto 4, 3) := by decide +kernel
theorem dX8_one_8 : decode cX8_one 8 = .ok (.iconst 0, 1) := by decide +kernel
theorem dX8_one_9 : decode cX8_one 9 = .ok (.ireturn, 1) := by decide +kernel
theorem dX8_weeks_0 : decode cX8_weeks 0 = .ok (.iload_n 1, 1) := by decide +kernel
theorem dX8_weeks_1 : decode cX8_weeks 1 = .ok (.iconst 1, 1) := by decide +kernel
theorem dX8_weeks_2 : decode cX8_weeks 2 = .ok (.bipush 59, 2) := by decide +kernel
theorem dX8_weeks_4 : decode cX8_weeks 4 = .ok (.aload_n 0, 1) := by decide +kernel
theorem dX8_weeks_5 : decode cX8_weeks 5 = .ok (.getfield 95, 3) := by decide +kernel
theorem dX8_weeks_8 : decode cX8_weeks 8 = .ok (.isub, 1) := by decide +kernel
theorem dX8_weeks_9 : decode cX8_weeks 9 = .ok (.invokestatic 88, 3) := by decide +kernel
theorem dX8_weeks_12 : decode cX8_weeks 12 = .ok (.ifCond .ne 5, 3) := by decide +kernel
theorem dX8_weeks_15 : decode cX8_weeks 15 = .ok (.iconst (-1), 1) := by decide +kernel
theorem dX8_weeks_16 : decode cX8_weeks 16 = .ok (.ireturn, 1) := by decide +kernel
theorem dX8_weeks_17 : decode cX8_weeks 17 = .ok (.aload_n 0, 1) := by decide +kernel
theorem dX8_weeks_18 : decode cX8_weeks 18 = .ok (.dup, 1) := by decide +kernel
theorem dX8_weeks_19 : decode cX8_weeks 19 = .ok (.getfield 95, 3) := by decide +kernel
theorem dX8_weeks_22 : decode cX8_weeks 22 = .ok (.iload_n 1, 1) := by decide +kernel
theorem dX8_weeks_23 : decode cX8_weeks 23 = .ok (.iadd, 1) := by decide +kernel
theorem dX8_weeks_24 : decode cX8_weeks 24 = .ok (.putfield 95, 3) := by decide +kernel
theorem dX8_weeks_27 : decode cX8_weeks 27 = .ok (.aload_n 0, 1) := by decide +kernel
theorem dX8_weeks_28 : decode cX8_weeks 28 = .ok (.getfield 95, 3) := by decide +kernel
theorem dX8_weeks_31 : decode cX8_weeks 31 = .ok (.ireturn, 1) := by decide +kernel
theorem dX8_turn_0 : decode cX8_turn 0 = .ok (.iload_n 1, 1) := by decide +kernel
theorem dX8_turn_1 : decode cX8_turn 1 = .ok (.iconst 3, 1) := by decide +kernel
theorem dX8_turn_2 : decode cX8_turn 2 = .ok (.bipush 20, 2) := by decide +kernel
theorem dX8_turn_4 : decode cX8_turn 4 = .ok (.invokestatic 88, 3) := by decide +kernel
theorem dX8_turn_7 : decode cX8_turn 7 = .ok (.ifCond .eq 52, 3) := by decide +kernel
theorem dX8_turn_10 : decode cX8_turn 10 = .ok (.iload_n 2, 1) := by decide +kernel
theorem dX8_turn_11 : decode cX8_turn 11 = .ok (.iconst 0, 1) := by decide +kernel
theorem dX8_turn_12 : decode cX8_turn 12 = .ok (.iconst 3, 1) := by decide +kernel
theorem dX8_turn_13 : decode cX8_turn 13 = .ok (.invokestatic 88, 3) := by decide +kernel
theorem dX8_turn_16 : decode cX8_turn 16 = .ok (.ifCond .eq 43, 3) := by decide +kernel
theorem dX8_turn_19 : decode cX8_turn 19 = .ok (.iload_n 3, 1) := by decide +kernel
theorem dX8_turn_20 : decode cX8_turn 20 = .ok (.ifCond .eq 8, 3) := by decide +kernel
theorem dX8_turn_23 : decode cX8_turn 23 = .ok (.iload_n 2, 1) := by decide +kernel
theorem dX8_turn_24 : decode cX8_turn 24 = .ok (.iconst 3, 1) := by decide +kernel
theorem dX8_turn_25 : decode cX8_turn 25 = .ok (.if_icmp .eq 34, 3) := by decide +kernel
theorem dX8_turn_28 : decode cX8_turn 28 = .ok (.iload 4, 2) := by decide +kernel
theorem dX8_turn_30 : decode cX8_turn 30 = .ok (.iconst 0, 1) := by decide +kernel
theorem dX8_turn_31 : decode cX8_turn 31 = .ok (.bipush 9, 2) := by decide +kernel
theorem dX8_turn_33 : decode cX8_turn 33 = .ok (.invokestatic 88, 3) := by decide +kernel
theorem dX8_turn_36 : decode cX8_turn 36 = .ok (.ifCond .eq 23, 3) := by decide +kernel
theorem dX8_turn_39 : decode cX8_turn 39 = .ok (.iload 5, 2) := by decide +kernel
theorem dX8_turn_41 : decode cX8_turn 41 = .ok (.iconst 0, 1) := by decide +kernel
theorem dX8_turn_42 : decode cX8_turn 42 = .ok (.bipush 99, 2) := by decide +kernel
theorem dX8_turn_44 : decode cX8_turn 44 = .ok (.invokestatic 88, 3) := by decide +kernel
theorem dX8_turn_47 : decode cX8_turn 47 = .ok (.ifCond .eq 12, 3) := by decide +kernel
theorem dX8_turn_50 : decode cX8_turn 50 = .ok (.aload_n 0, 1) := by decide +kernel
theorem dX8_turn_51 : decode cX8_turn 51 = .ok (.getfield 85, 3) := by decide +kernel
theorem dX8_turn_54 : decode cX8_turn 54 = .ok (.bipush 40, 2) := by decide +kernel
theorem dX8_turn_56 : decode cX8_turn 56 = .ok (.if_icmp .ne 5, 3) := by decide +kernel
theorem dX8_turn_59 : decode cX8_turn 59 = .ok (.iconst (-1), 1) := by decide +kernel
theorem dX8_turn_60 : decode cX8_turn 60 = .ok (.ireturn, 1) := by decide +kernel
theorem dX8_turn_61 : decode cX8_turn 61 = .ok (.aload_n 0, 1) := by decide +kernel
theorem dX8_turn_62 : decode cX8_turn 62 = .ok (.getfield 7, 3) := by decide +kernel
theorem dX8_turn_65 : decode cX8_turn 65 = .ok (.aload_n 0, 1) := by decide +kernel
theorem dX8_turn_66 : decode cX8_turn 66 = .ok (.getfield 85, 3) := by decide +kernel
theorem dX8_turn_69 : decode cX8_turn 69 = .ok (.iload_n 1, 1) := by decide +kernel
theorem dX8_turn_70 : decode cX8_turn 70 = .ok (.iastore, 1) := by decide +kernel
theorem dX8_turn_71 : decode cX8_turn 71 = .ok (.aload_n 0, 1) := by decide +kernel
theorem dX8_turn_72 : decode cX8_turn 72 = .ok (.getfield 13, 3) := by decide +kernel
theorem dX8_turn_75 : decode cX8_turn 75 = .ok (.aload_n 0, 1) := by decide +kernel
theorem dX8_turn_76 : decode cX8_turn 76 = .ok (.getfield 85, 3) := by decide +kernel
theorem dX8_turn_79 : decode cX8_turn 79 = .ok (.iload_n 2, 1) := by decide +kernel
theorem dX8_turn_80 : decode cX8_turn 80 = .ok (.iastore, 1) := by decide +kernel
theorem dX8_turn_81 : decode cX8_turn 81 = .ok (.aload_n 0, 1) := by decide +kernel
theorem dX8_turn_82 : decode cX8_turn 82 = .ok (.getfield 25, 3) := by decide +kernel
theorem dX8_turn_85 : decode cX8_turn 85 = .ok (.aload_n 0, 1) := by decide +kernel
theorem dX8_turn_86 : decode cX8_turn 86 = .ok (.getfield 85, 3) := by decide +kernel
theorem dX8_turn_89 : decode cX8_turn 89 = .ok (.iload_n 3, 1) := by decide +kernel
theorem dX8_turn_90 : decode cX8_turn 90 = .ok (.bastore, 1) := by decide +kernel
theorem dX8_turn_91 : decode cX8_turn 91 = .ok (.aload_n 0, 1) := by decide +kernel
theorem dX8_turn_92 : decode cX8_turn 92 = .ok (.getfield 16, 3) := by decide +kernel
theorem dX8_turn_95 : decode cX8_turn 95 = .ok (.aload_n 0, 1) := by decide +kernel
theorem dX8_turn_96 : decode cX8_turn 96 = .ok (.getfield 85, 3) := by decide +kernel
theorem dX8_turn_99 : decode cX8_turn 99 = .ok (.iload 4, 2) := by decide +kernel
theorem dX8_turn_101 : decode cX8_turn 101 = .ok (.iastore, 1) := by decide +kernel
theorem dX8_turn_102 : decode cX8_turn 102 = .ok (.aload_n 0, 1) := by decide +kernel
theorem dX8_turn_103 : decode cX8_turn 103 = .ok (.getfield 19, 3) := by decide +kernel
theorem dX8_turn_106 : decode cX8_turn 106 = .ok (.aload_n 0, 1) := by decide +kernel
theorem dX8_turn_107 : decode cX8_turn 107 = .ok (.getfield 85, 3) := by decide +kernel
theorem dX8_turn_110 : decode cX8_turn 110 = .ok (.iload 5, 2) := by decide +kernel
theorem dX8_turn_112 : decode cX8_turn 112 = .ok (.iastore, 1) := by decide +kernel
theorem dX8_turn_113 : decode cX8_turn 113 = .ok (.aload_n 0, 1) := by decide +kernel
theorem dX8_turn_114 : decode cX8_turn 114 = .ok (.dup, 1) := by decide +kernel
theorem dX8_turn_115 : decode cX8_turn 115 = .ok (.getfield 85, 3) := by decide +kernel
theorem dX8_turn_118 : decode cX8_turn 118 = .ok (.iconst 1, 1) := by decide +kernel
theorem dX8_turn_119 : decode cX8_turn 119 = .ok (.iadd, 1) := by decide +kernel
theorem dX8_turn_120 : decode cX8_turn 120 = .ok (.putfield 85, 3) := by decide +kernel
theorem dX8_turn_123 : decode cX8_turn 123 = .ok (.aload_n 0, 1) := by decide +kernel
theorem dX8_turn_124 : decode cX8_turn 124 = .ok (.getfield 85, 3) := by decide +kernel
theorem dX8_turn_127 : decode cX8_turn 127 = .ok (.iconst 1, 1) := by decide +kernel
theorem dX8_turn_128 : decode cX8_turn 128 = .ok (.isub, 1) := by decide +kernel
theorem dX8_turn_129 : decode cX8_turn 129 = .ok (.ireturn, 1) := by decide +kernel
theorem dX8_hall_0 : decode cX8_hall 0 = .ok (.iload_n 1, 1) := by decide +kernel
theorem dX8_hall_1 : decode cX8_hall 1 = .ok (.iconst 0, 1) := by decide +kernel
theorem dX8_hall_2 : decode cX8_hall 2 = .ok (.sipush 300, 3) := by decide +kernel
theorem dX8_hall_5 : decode cX8_hall 5 = .ok (.invokestatic 88, 3) := by decide +kernel
theorem dX8_hall_8 : decode cX8_hall 8 = .ok (.ifCond .eq 34, 3) := by decide +kernel
theorem dX8_hall_11 : decode cX8_hall 11 = .ok (.iload_n 2, 1) := by decide +kernel
theorem dX8_hall_12 : decode cX8_hall 12 = .ok (.iconst 1, 1) := by decide +kernel
theorem dX8_hall_13 : decode cX8_hall 13 = .ok (.sipush 1000, 3) := by decide +kernel
theorem dX8_hall_16 : decode cX8_hall 16 = .ok (.invokestatic 88, 3) := by decide +kernel
theorem dX8_hall_19 : decode cX8_hall 19 = .ok (.ifCond .eq 23, 3) := by decide +kernel
theorem dX8_hall_22 : decode cX8_hall 22 = .ok (.iload_n 3, 1) := by decide +kernel
theorem dX8_hall_23 : decode cX8_hall 23 = .ok (.bipush 20, 2) := by decide +kernel
theorem dX8_hall_25 : decode cX8_hall 25 = .ok (.bipush 120, 2) := by decide +kernel
theorem dX8_hall_27 : decode cX8_hall 27 = .ok (.invokestatic 88, 3) := by decide +kernel
theorem dX8_hall_30 : decode cX8_hall 30 = .ok (.ifCond .eq 12, 3) := by decide +kernel
theorem dX8_hall_33 : decode cX8_hall 33 = .ok (.aload_n 0, 1) := by decide +kernel
theorem dX8_hall_34 : decode cX8_hall 34 = .ok (.getfield 92, 3) := by decide +kernel
theorem dX8_hall_37 : decode cX8_hall 37 = .ok (.bipush 10, 2) := by decide +kernel
theorem dX8_hall_39 : decode cX8_hall 39 = .ok (.if_icmp .ne 5, 3) := by decide +kernel
theorem dX8_hall_42 : decode cX8_hall 42 = .ok (.iconst (-1), 1) := by decide +kernel
theorem dX8_hall_43 : decode cX8_hall 43 = .ok (.ireturn, 1) := by decide +kernel
theorem dX8_hall_44 : decode cX8_hall 44 = .ok (.aload_n 0, 1) := by decide +kernel
theorem dX8_hall_45 : decode cX8_hall 45 = .ok (.getfield 29, 3) := by decide +kernel
theorem dX8_hall_48 : decode cX8_hall 48 = .ok (.aload_n 0, 1) := by decide +kernel
theorem dX8_hall_49 : decode cX8_hall 49 = .ok (.getfield 92, 3) := by decide +kernel
theorem dX8_hall_52 : decode cX8_hall 52 = .ok (.iload_n 1, 1) := by decide +kernel
theorem dX8_hall_53 : decode cX8_hall 53 = .ok (.iastore, 1) := by decide +kernel
theorem dX8_hall_54 : decode cX8_hall 54 = .ok (.aload_n 0, 1) := by decide +kernel
theorem dX8_hall_55 : decode cX8_hall 55 = .ok (.getfield 32, 3) := by decide +kernel
theorem dX8_hall_58 : decode cX8_hall 58 = .ok (.aload_n 0, 1) := by decide +kernel
theorem dX8_hall_59 : decode cX8_hall 59 = .ok (.getfield 92, 3) := by decide +kernel
theorem dX8_hall_62 : decode cX8_hall 62 = .ok (.iload_n 2, 1) := by decide +kernel
theorem dX8_hall_63 : decode cX8_hall 63 = .ok (.iastore, 1) := by decide +kernel
theorem dX8_hall_64 : decode cX8_hall 64 = .ok (.aload_n 0, 1) := by decide +kernel
theorem dX8_hall_65 : decode cX8_hall 65 = .ok (.getfield 35, 3) := by decide +kernel
theorem dX8_hall_68 : decode cX8_hall 68 = .ok (.aload_n 0, 1) := by decide +kernel
theorem dX8_hall_69 : decode cX8_hall 69 = .ok (.getfield 92, 3) := by decide +kernel
theorem dX8_hall_72 : decode cX8_hall 72 = .ok (.iload_n 3, 1) := by decide +kernel
theorem dX8_hall_73 : decode cX8_hall 73 = .ok (.iastore, 1) := by decide +kernel
theorem dX8_hall_74 : decode cX8_hall 74 = .ok (.aload_n 0, 1) := by decide +kernel
theorem dX8_hall_75 : decode cX8_hall 75 = .ok (.dup, 1) := by decide +kernel
theorem dX8_hall_76 : decode cX8_hall 76 = .ok (.getfield 92, 3) := by decide +kernel
theorem dX8_hall_79 : decode cX8_hall 79 = .ok (.iconst 1, 1) := by decide +kernel
theorem dX8_hall_80 : decode cX8_hall 80 = .ok (.iadd, 1) := by decide +kernel
theorem dX8_hall_81 : decode cX8_hall 81 = .ok (.putfield 92, 3) := by decide +kernel
theorem dX8_hall_84 : decode cX8_hall 84 = .ok (.aload_n 0, 1) := by decide +kernel
theorem dX8_hall_85 : decode cX8_hall 85 = .ok (.getfield 92, 3) := by decide +kernel
theorem dX8_hall_88 : decode cX8_hall 88 = .ok (.iconst 1, 1) := by decide +kernel
theorem dX8_hall_89 : decode cX8_hall 89 = .ok (.isub, 1) := by decide +kernel
theorem dX8_hall_90 : decode cX8_hall 90 = .ok (.ireturn, 1) := by decide +kernel
theorem dX8_feed_0 : decode cX8_feed 0 = .ok (.aload_n 0, 1) := by decide +kernel
theorem dX8_feed_1 : decode cX8_feed 1 = .ok (.getfield 98, 3) := by decide +kernel
theorem dX8_feed_4 : decode cX8_feed 4 = .ok (.bipush 20, 2) := by decide +kernel
theorem dX8_feed_6 : decode cX8_feed 6 = .ok (.iadd, 1) := by decide +kernel
theorem dX8_feed_7 : decode cX8_feed 7 = .ok (.sipush 600, 3) := by decide +kernel
theorem dX8_feed_10 : decode cX8_feed 10 = .ok (.if_icmp .le 5, 3) := by decide +kernel
theorem dX8_feed_13 : decode cX8_feed 13 = .ok (.iconst (-1), 1) := by decide +kernel
theorem dX8_feed_14 : decode cX8_feed 14 = .ok (.ireturn, 1) := by decide +kernel
theorem dX8_feed_15 : decode cX8_feed 15 = .ok (.aload_n 0, 1) := by decide +kernel
theorem dX8_feed_16 : decode cX8_feed 16 = .ok (.iload_n 1, 1) := by decide +kernel
theorem dX8_feed_17 : decode cX8_feed 17 = .ok (.invokevirtual 101, 3) := by decide +kernel
theorem dX8_feed_20 : decode cX8_feed 20 = .ok (.aload_n 0, 1) := by decide +kernel
theorem dX8_feed_21 : decode cX8_feed 21 = .ok (.iload_n 2, 1) := by decide +kernel
theorem dX8_feed_22 : decode cX8_feed 22 = .ok (.invokevirtual 101, 3) := by decide +kernel
theorem dX8_feed_25 : decode cX8_feed 25 = .ok (.aload_n 0, 1) := by decide +kernel
theorem dX8_feed_26 : decode cX8_feed 26 = .ok (.iload_n 3, 1) := by decide +kernel
theorem dX8_feed_27 : decode cX8_feed 27 = .ok (.invokevirtual 101, 3) := by decide +kernel
theorem dX8_feed_30 : decode cX8_feed 30 = .ok (.aload_n 0, 1) := by decide +kernel
theorem dX8_feed_31 : decode cX8_feed 31 = .ok (.iload 4, 2) := by decide +kernel
theorem dX8_feed_33 : decode cX8_feed 33 = .ok (.invokevirtual 101, 3) := by decide +kernel
theorem dX8_feed_36 : decode cX8_feed 36 = .ok (.aload_n 0, 1) := by decide +kernel
theorem dX8_feed_37 : decode cX8_feed 37 = .ok (.iload 5, 2) := by decide +kernel
theorem dX8_feed_39 : decode cX8_feed 39 = .ok (.invokevirtual 101, 3) := by decide +kernel
theorem dX8_feed_42 : decode cX8_feed 42 = .ok (.aload_n 0, 1) := by decide +kernel
theorem dX8_feed_43 : decode cX8_feed 43 = .ok (.getfield 98, 3) := by decide +kernel
theorem dX8_feed_46 : decode cX8_feed 46 = .ok (.ireturn, 1) := by decide +kernel
theorem dX8_four_0 : decode cX8_four 0 = .ok (.bipush 24, 2) := by decide +kernel
theorem dX8_four_2 : decode cX8_four 2 = .ok (.istore_n 2, 1) := by decide +kernel
theorem dX8_four_3 : decode cX8_four 3 = .ok (.iload_n 2, 1) := by decide +kernel
theorem dX8_four_4 : decode cX8_four 4 = .ok (.ifCond .lt 32, 3) := by decide +kernel
theorem dX8_four_7 : decode cX8_four 7 = .ok (.aload_n 0, 1) := by decide +kernel
theorem dX8_four_8 : decode cX8_four 8 = .ok (.getfield 41, 3) := by decide +kernel
theorem dX8_four_11 : decode cX8_four 11 = .ok (.aload_n 0, 1) := by decide +kernel
theorem dX8_four_12 : decode cX8_four 12 = .ok (.getfield 98, 3) := by decide +kernel
theorem dX8_four_15 : decode cX8_four 15 = .ok (.iload_n 1, 1) := by decide +kernel
theorem dX8_four_16 : decode cX8_four 16 = .ok (.iload_n 2, 1) := by decide +kernel
theorem dX8_four_17 : decode cX8_four 17 = .ok (.ishr, 1) := by decide +kernel
theorem dX8_four_18 : decode cX8_four 18 = .ok (.i2b, 1) := by decide +kernel
theorem dX8_four_19 : decode cX8_four 19 = .ok (.bastore, 1) := by decide +kernel
theorem dX8_four_20 : decode cX8_four 20 = .ok (.aload_n 0, 1) := by decide +kernel
theorem dX8_four_21 : decode cX8_four 21 = .ok (.dup, 1) := by decide +kernel
theorem dX8_four_22 : decode cX8_four 22 = .ok (.getfield 98, 3) := by decide +kernel
theorem dX8_four_25 : decode cX8_four 25 = .ok (.iconst 1, 1) := by decide +kernel
theorem dX8_four_26 : decode cX8_four 26 = .ok (.iadd, 1) := by decide +kernel
theorem dX8_four_27 : decode cX8_four 27 = .ok (.putfield 98, 3) := by decide +kernel
theorem dX8_four_30 : decode cX8_four 30 = .ok (.iinc 2 (-8), 3) := by decide +kernel
theorem dX8_four_33 : decode cX8_four 33 = .ok (.goto (-30), 3) := by decide +kernel
theorem dX8_four_36 : decode cX8_four 36 = .ok (.return_, 1) := by decide +kernel
theorem dX8_blanks_0 : decode cX8_blanks 0 = .ok (.aload_n 0, 1) := by decide +kernel
theorem dX8_blanks_1 : decode cX8_blanks 1 = .ok (.getfield 105, 3) := by decide +kernel
theorem dX8_blanks_4 : decode cX8_blanks 4 = .ok (.aload_n 0, 1) := by decide +kernel
theorem dX8_blanks_5 : decode cX8_blanks 5 = .ok (.getfield 108, 3) := by decide +kernel
theorem dX8_blanks_8 : decode cX8_blanks 8 = .ok (.if_icmp .ge 44, 3) := by decide +kernel
theorem dX8_blanks_11 : decode cX8_blanks 11 = .ok (.aload_n 0, 1) := by decide +kernel
theorem dX8_blanks_12 : decode cX8_blanks 12 = .ok (.getfield 45, 3) := by decide +kernel
theorem dX8_blanks_15 : decode cX8_blanks 15 = .ok (.aload_n 0, 1) := by decide +kernel
theorem dX8_blanks_16 : decode cX8_blanks 16 = .ok (.getfield 105, 3) := by decide +kernel
theorem dX8_blanks_19 : decode cX8_blanks 19 = .ok (.baload, 1) := by decide +kernel
theorem dX8_blanks_20 : decode cX8_blanks 20 = .ok (.bipush 32, 2) := by decide +kernel
theorem dX8_blanks_22 : decode cX8_blanks 22 = .ok (.if_icmp .eq 17, 3) := by decide +kernel
theorem dX8_blanks_25 : decode cX8_blanks 25 = .ok (.aload_n 0, 1) := by decide +kernel
theorem dX8_blanks_26 : decode cX8_blanks 26 = .ok (.getfield 45, 3) := by decide +kernel
theorem dX8_blanks_29 : decode cX8_blanks 29 = .ok (.aload_n 0, 1) := by decide +kernel
theorem dX8_blanks_30 : decode cX8_blanks 30 = .ok (.getfield 105, 3) := by decide +kernel
theorem dX8_blanks_33 : decode cX8_blanks 33 = .ok (.baload, 1) := by decide +kernel
theorem dX8_blanks_34 : decode cX8_blanks 34 = .ok (.bipush 10, 2) := by decide +kernel
theorem dX8_blanks_36 : decode cX8_blanks 36 = .ok (.if_icmp .ne 16, 3) := by decide +kernel
theorem dX8_blanks_39 : decode cX8_blanks 39 = .ok (.aload_n 0, 1) := by decide +kernel
theorem dX8_blanks_40 : decode cX8_blanks 40 = .ok (.dup, 1) := by decide +kernel
theorem dX8_blanks_41 : decode cX8_blanks 41 = .ok (.getfield 105, 3) := by decide +kernel
theorem dX8_blanks_44 : decode cX8_blanks 44 = .ok (.iconst 1, 1) := by decide +kernel
theorem dX8_blanks_45 : decode cX8_blanks 45 = .ok (.iadd, 1) := by decide +kernel
theorem dX8_blanks_46 : decode cX8_blanks 46 = .ok (.putfield 105, 3) := by decide +kernel
theorem dX8_blanks_49 : decode cX8_blanks 49 = .ok (.goto (-49), 3) := by decide +kernel
theorem dX8_blanks_52 : decode cX8_blanks 52 = .ok (.return_, 1) := by decide +kernel
theorem dX8_word_0 : decode cX8_word 0 = .ok (.aload_n 0, 1) := by decide +kernel
theorem dX8_word_1 : decode cX8_word 1 = .ok (.invokevirtual 111, 3) := by decide +kernel
theorem dX8_word_4 : decode cX8_word 4 = .ok (.aload_n 0, 1) := by decide +kernel
theorem dX8_word_5 : decode cX8_word 5 = .ok (.aload_n 0, 1) := by decide +kernel
theorem dX8_word_6 : decode cX8_word 6 = .ok (.getfield 105, 3) := by decide +kernel
theorem dX8_word_9 : decode cX8_word 9 = .ok (.putfield 114, 3) := by decide +kernel
theorem dX8_word_12 : decode cX8_word 12 = .ok (.lconst 0, 1) := by decide +kernel
theorem dX8_word_13 : decode cX8_word 13 = .ok (.lstore_n 1, 1) := by decide +kernel
theorem dX8_word_14 : decode cX8_word 14 = .ok (.aload_n 0, 1) := by decide +kernel
theorem dX8_word_15 : decode cX8_word 15 = .ok (.getfield 114, 3) := by decide +kernel
theorem dX8_word_18 : decode cX8_word 18 = .ok (.aload_n 0, 1) := by decide +kernel
theorem dX8_word_19 : decode cX8_word 19 = .ok (.getfield 108, 3) := by decide +kernel
theorem dX8_word_22 : decode cX8_word 22 = .ok (.if_icmp .ge 78, 3) := by decide +kernel
theorem dX8_word_25 : decode cX8_word 25 = .ok (.aload_n 0, 1) := by decide +kernel
theorem dX8_word_26 : decode cX8_word 26 = .ok (.getfield 45, 3) := by decide +kernel
theorem dX8_word_29 : decode cX8_word 29 = .ok (.aload_n 0, 1) := by decide +kernel
theorem dX8_word_30 : decode cX8_word 30 = .ok (.getfield 114, 3) := by decide +kernel
theorem dX8_word_33 : decode cX8_word 33 = .ok (.baload, 1) := by decide +kernel
theorem dX8_word_34 : decode cX8_word 34 = .ok (.bipush 97, 2) := by decide +kernel
theorem dX8_word_36 : decode cX8_word 36 = .ok (.if_icmp .lt 64, 3) := by decide +kernel
theorem dX8_word_39 : decode cX8_word 39 = .ok (.aload_n 0, 1) := by decide +kernel
theorem dX8_word_40 : decode cX8_word 40 = .ok (.getfield 45, 3) := by decide +kernel
theorem dX8_word_43 : decode cX8_word 43 = .ok (.aload_n 0, 1) := by decide +kernel
theorem dX8_word_44 : decode cX8_word 44 = .ok (.getfield 114, 3) := by decide +kernel
theorem dX8_word_47 : decode cX8_word 47 = .ok (.baload, 1) := by decide +kernel
theorem dX8_word_48 : decode cX8_word 48 = .ok (.bipush 122, 2) := by decide +kernel
theorem dX8_word_50 : decode cX8_word 50 = .ok (.if_icmp .gt 50, 3) := by decide +kernel
theorem dX8_word_53 : decode cX8_word 53 = .ok (.aload_n 0, 1) := by decide +kernel
theorem dX8_word_54 : decode cX8_word 54 = .ok (.getfield 114, 3) := by decide +kernel
theorem dX8_word_57 : decode cX8_word 57 = .ok (.aload_n 0, 1) := by decide +kernel
theorem dX8_word_58 : decode cX8_word 58 = .ok (.getfield 105, 3) := by decide +kernel
theorem dX8_word_61 : decode cX8_word 61 = .ok (.isub, 1) := by decide +kernel
theorem dX8_word_62 : decode cX8_word 62 = .ok (.bipush 7, 2) := by decide +kernel
theorem dX8_word_64 : decode cX8_word 64 = .ok (.if_icmp .ge 21, 3) := by decide +kernel
theorem dX8_word_67 : decode cX8_word 67 = .ok (.lload_n 1, 1) := by decide +kernel
theorem dX8_word_68 : decode cX8_word 68 = .ok (.bipush 8, 2) := by decide +kernel
theorem dX8_word_70 : decode cX8_word 70 = .ok (.lshl, 1) := by decide +kernel
theorem dX8_word_71 : decode cX8_word 71 = .ok (.aload_n 0, 1) := by decide +kernel
theorem dX8_word_72 : decode cX8_word 72 = .ok (.getfield 45, 3) := by decide +kernel
theorem dX8_word_75 : decode cX8_word 75 = .ok (.aload_n 0, 1) := by decide +kernel
theorem dX8_word_76 : decode cX8_word 76 = .ok (.getfield 114, 3) := by decide +kernel
theorem dX8_word_79 : decode cX8_word 79 = .ok (.baload, 1) := by decide +kernel
theorem dX8_word_80 : decode cX8_word 80 = .ok (.i2l, 1) := by decide +kernel
theorem dX8_word_81 : decode cX8_word 81 = .ok (.lor, 1) := by decide +kernel
theorem dX8_word_82 : decode cX8_word 82 = .ok (.goto 4, 3) := by decide +kernel
theorem dX8_word_85 : decode cX8_word 85 = .ok (.lconst 0, 1) := by decide +kernel
theorem dX8_word_86 : decode cX8_word 86 = .ok (.lstore_n 1, 1) := by decide +kernel
theorem dX8_word_87 : decode cX8_word 87 = .ok (.aload_n 0, 1) := by decide +kernel
theorem dX8_word_88 : decode cX8_word 88 = .ok (.dup, 1) := by decide +kernel
theorem dX8_word_89 : decode cX8_word 89 = .ok (.getfield 114, 3) := by decide +kernel
theorem dX8_word_92 : decode cX8_word 92 = .ok (.iconst 1, 1) := by decide +kernel
theorem dX8_word_93 : decode cX8_word 93 = .ok (.iadd, 1) := by decide +kernel
theorem dX8_word_94 : decode cX8_word 94 = .ok (.putfield 114, 3) := by decide +kernel
theorem dX8_word_97 : decode cX8_word 97 = .ok (.goto (-83), 3) := by decide +kernel
theorem dX8_word_100 : decode cX8_word 100 = .ok (.aload_n 0, 1) := by decide +kernel
theorem dX8_word_101 : decode cX8_word 101 = .ok (.getfield 114, 3) := by decide +kernel
theorem dX8_word_104 : decode cX8_word 104 = .ok (.aload_n 0, 1) := by decide +kernel
theorem dX8_word_105 : decode cX8_word 105 = .ok (.getfield 105, 3) := by decide +kernel
theorem dX8_word_108 : decode cX8_word 108 = .ok (.isub, 1) := by decide +kernel
theorem dX8_word_109 : decode cX8_word 109 = .ok (.bipush 7, 2) := by decide +kernel
theorem dX8_word_111 : decode cX8_word 111 = .ok (.if_icmp .le 7, 3) := by decide +kernel
theorem dX8_word_114 : decode cX8_word 114 = .ok (.lconst 0, 1) := by decide +kernel
theorem dX8_word_115 : decode cX8_word 115 = .ok (.goto 4, 3) := by decide +kernel
theorem dX8_word_118 : decode cX8_word 118 = .ok (.lload_n 1, 1) := by decide +kernel
theorem dX8_word_119 : decode cX8_word 119 = .ok (.lreturn, 1) := by decide +kernel
theorem dX8_takes_0 : decode cX8_takes 0 = .ok (.aload_n 0, 1) := by decide +kernel
theorem dX8_takes_1 : decode cX8_takes 1 = .ok (.invokevirtual 117, 3) := by decide +kernel
theorem dX8_takes_4 : decode cX8_takes 4 = .ok (.lload_n 1, 1) := by decide +kernel
theorem dX8_takes_5 : decode cX8_takes 5 = .ok (.lcmp, 1) := by decide +kernel
theorem dX8_takes_6 : decode cX8_takes 6 = .ok (.ifCond .eq 5, 3) := by decide +kernel
theorem dX8_takes_9 : decode cX8_takes 9 = .ok (.iconst 0, 1) := by decide +kernel
theorem dX8_takes_10 : decode cX8_takes 10 = .ok (.ireturn, 1) := by decide +kernel
theorem dX8_takes_11 : decode cX8_takes 11 = .ok (.aload_n 0, 1) := by decide +kernel
theorem dX8_takes_12 : decode cX8_takes 12 = .ok (.aload_n 0, 1) := by decide +kernel
theorem dX8_takes_13 : decode cX8_takes 13 = .ok (.getfield 114, 3) := by decide +kernel
theorem dX8_takes_16 : decode cX8_takes 16 = .ok (.putfield 105, 3) := by decide +kernel
theorem dX8_takes_19 : decode cX8_takes 19 = .ok (.iconst 1, 1) := by decide +kernel
theorem dX8_takes_20 : decode cX8_takes 20 = .ok (.ireturn, 1) := by decide +kernel
theorem dX8_takesNumber_0 : decode cX8_takesNumber 0 = .ok (.aload_n 0, 1) := by decide +kernel
theorem dX8_takesNumber_1 : decode cX8_takesNumber 1 = .ok (.invokevirtual 111, 3) := by decide +kernel
theorem dX8_takesNumber_4 : decode cX8_takesNumber 4 = .ok (.aload_n 0, 1) := by decide +kernel
theorem dX8_takesNumber_5 : decode cX8_takesNumber 5 = .ok (.getfield 105, 3) := by decide +kernel
theorem dX8_takesNumber_8 : decode cX8_takesNumber 8 = .ok (.istore_n 1, 1) := by decide +kernel
theorem dX8_takesNumber_9 : decode cX8_takesNumber 9 = .ok (.aload_n 0, 1) := by decide +kernel
theorem dX8_takesNumber_10 : decode cX8_takesNumber 10 = .ok (.iconst 0, 1) := by decide +kernel
theorem dX8_takesNumber_11 : decode cX8_takesNumber 11 = .ok (.putfield 121, 3) := by decide +kernel
theorem dX8_takesNumber_14 : decode cX8_takesNumber 14 = .ok (.iload_n 1, 1) := by decide +kernel
theorem dX8_takesNumber_15 : decode cX8_takesNumber 15 = .ok (.aload_n 0, 1) := by decide +kernel
theorem dX8_takesNumber_16 : decode cX8_takesNumber 16 = .ok (.getfield 108, 3) := by decide +kernel
theorem dX8_takesNumber_19 : decode cX8_takesNumber 19 = .ok (.if_icmp .ge 62, 3) := by decide +kernel
theorem dX8_takesNumber_22 : decode cX8_takesNumber 22 = .ok (.aload_n 0, 1) := by decide +kernel
theorem dX8_takesNumber_23 : decode cX8_takesNumber 23 = .ok (.getfield 45, 3) := by decide +kernel
theorem dX8_takesNumber_26 : decode cX8_takesNumber 26 = .ok (.iload_n 1, 1) := by decide +kernel
theorem dX8_takesNumber_27 : decode cX8_takesNumber 27 = .ok (.baload, 1) := by decide +kernel
theorem dX8_takesNumber_28 : decode cX8_takesNumber 28 = .ok (.bipush 48, 2) := by decide +kernel
theorem dX8_takesNumber_30 : decode cX8_takesNumber 30 = .ok (.if_icmp .lt 51, 3) := by decide +kernel
theorem dX8_takesNumber_33 : decode cX8_takesNumber 33 = .ok (.aload_n 0, 1) := by decide +kernel
theorem dX8_takesNumber_34 : decode cX8_takesNumber 34 = .ok (.getfield 45, 3) := by decide +kernel
theorem dX8_takesNumber_37 : decode cX8_takesNumber 37 = .ok (.iload_n 1, 1) := by decide +kernel
theorem dX8_takesNumber_38 : decode cX8_takesNumber 38 = .ok (.baload, 1) := by decide +kernel
theorem dX8_takesNumber_39 : decode cX8_takesNumber 39 = .ok (.bipush 57, 2) := by decide +kernel
theorem dX8_takesNumber_41 : decode cX8_takesNumber 41 = .ok (.if_icmp .gt 40, 3) := by decide +kernel
theorem dX8_takesNumber_44 : decode cX8_takesNumber 44 = .ok (.iload_n 1, 1) := by decide +kernel
theorem dX8_takesNumber_45 : decode cX8_takesNumber 45 = .ok (.aload_n 0, 1) := by decide +kernel
theorem dX8_takesNumber_46 : decode cX8_takesNumber 46 = .ok (.getfield 105, 3) := by decide +kernel
theorem dX8_takesNumber_49 : decode cX8_takesNumber 49 = .ok (.isub, 1) := by decide +kernel
theorem dX8_takesNumber_50 : decode cX8_takesNumber 50 = .ok (.iconst 3, 1) := by decide +kernel
theorem dX8_takesNumber_51 : decode cX8_takesNumber 51 = .ok (.if_icmp .ge 24, 3) := by decide +kernel
theorem dX8_takesNumber_54 : decode cX8_takesNumber 54 = .ok (.aload_n 0, 1) := by decide +kernel
theorem dX8_takesNumber_55 : decode cX8_takesNumber 55 = .ok (.bipush 10, 2) := by decide +kernel
theorem dX8_takesNumber_57 : decode cX8_takesNumber 57 = .ok (.aload_n 0, 1) := by decide +kernel
theorem dX8_takesNumber_58 : decode cX8_takesNumber 58 = .ok (.getfield 121, 3) := by decide +kernel
theorem dX8_takesNumber_61 : decode cX8_takesNumber 61 = .ok (.imul, 1) := by decide +kernel
theorem dX8_takesNumber_62 : decode cX8_takesNumber 62 = .ok (.aload_n 0, 1) := by decide +kernel
theorem dX8_takesNumber_63 : decode cX8_takesNumber 63 = .ok (.getfield 45, 3) := by decide +kernel
theorem dX8_takesNumber_66 : decode cX8_takesNumber 66 = .ok (.iload_n 1, 1) := by decide +kernel
theorem dX8_takesNumber_67 : decode cX8_takesNumber 67 = .ok (.baload, 1) := by decide +kernel
theorem dX8_takesNumber_68 : decode cX8_takesNumber 68 = .ok (.iadd, 1) := by decide +kernel
theorem dX8_takesNumber_69 : decode cX8_takesNumber 69 = .ok (.bipush 48, 2) := by decide +kernel
theorem dX8_takesNumber_71 : decode cX8_takesNumber 71 = .ok (.isub, 1) := by decide +kernel
theorem dX8_takesNumber_72 : decode cX8_takesNumber 72 = .ok (.putfield 121, 3) := by decide +kernel
theorem dX8_takesNumber_75 : decode cX8_takesNumber 75 = .ok (.iinc 1 1, 3) := by decide +kernel
theorem dX8_takesNumber_78 : decode cX8_takesNumber 78 = .ok (.goto (-64), 3) := by decide +kernel
theorem dX8_takesNumber_81 : decode cX8_takesNumber 81 = .ok (.iload_n 1, 1) := by decide +kernel
theorem dX8_takesNumber_82 : decode cX8_takesNumber 82 = .ok (.aload_n 0, 1) := by decide +kernel
theorem dX8_takesNumber_83 : decode cX8_takesNumber 83 = .ok (.getfield 105, 3) := by decide +kernel
theorem dX8_takesNumber_86 : decode cX8_takesNumber 86 = .ok (.if_icmp .eq 13, 3) := by decide +kernel
theorem dX8_takesNumber_89 : decode cX8_takesNumber 89 = .ok (.iload_n 1, 1) := by decide +kernel
theorem dX8_takesNumber_90 : decode cX8_takesNumber 90 = .ok (.aload_n 0, 1) := by decide +kernel
theorem dX8_takesNumber_91 : decode cX8_takesNumber 91 = .ok (.getfield 105, 3) := by decide +kernel
theorem dX8_takesNumber_94 : decode cX8_takesNumber 94 = .ok (.isub, 1) := by decide +kernel
theorem dX8_takesNumber_95 : decode cX8_takesNumber 95 = .ok (.iconst 3, 1) := by decide +kernel
theorem dX8_takesNumber_96 : decode cX8_takesNumber 96 = .ok (.if_icmp .le 5, 3) := by decide +kernel
theorem dX8_takesNumber_99 : decode cX8_takesNumber 99 = .ok (.iconst 0, 1) := by decide +kernel
theorem dX8_takesNumber_100 : decode cX8_takesNumber 100 = .ok (.ireturn, 1) := by decide +kernel
theorem dX8_takesNumber_101 : decode cX8_takesNumber 101 = .ok (.aload_n 0, 1) := by decide +kernel
theorem dX8_takesNumber_102 : decode cX8_takesNumber 102 = .ok (.iload_n 1, 1) := by decide +kernel
theorem dX8_takesNumber_103 : decode cX8_takesNumber 103 = .ok (.putfield 105, 3) := by decide +kernel
theorem dX8_takesNumber_106 : decode cX8_takesNumber 106 = .ok (.iconst 1, 1) := by decide +kernel
theorem dX8_takesNumber_107 : decode cX8_takesNumber 107 = .ok (.ireturn, 1) := by decide +kernel
theorem dX8_statement_0 : decode cX8_statement 0 = .ok (.aload_n 0, 1) := by decide +kernel
theorem dX8_statement_1 : decode cX8_statement 1 = .ok (.getfield 70, 3) := by decide +kernel
theorem dX8_statement_4 : decode cX8_statement 4 = .ok (.iload_n 1, 1) := by decide +kernel
theorem dX8_statement_5 : decode cX8_statement 5 = .ok (.iconst 0, 1) := by decide +kernel
theorem dX8_statement_6 : decode cX8_statement 6 = .ok (.iastore, 1) := by decide +kernel
theorem dX8_statement_7 : decode cX8_statement 7 = .ok (.aload_n 0, 1) := by decide +kernel
theorem dX8_statement_8 : decode cX8_statement 8 = .ok (.ldc2_w 124, 3) := by decide +kernel
theorem dX8_statement_11 : decode cX8_statement 11 = .ok (.invokevirtual 126, 3) := by decide +kernel
theorem dX8_statement_14 : decode cX8_statement 14 = .ok (.ifCond .eq 61, 3) := by decide +kernel
theorem dX8_statement_17 : decode cX8_statement 17 = .ok (.aload_n 0, 1) := by decide +kernel
theorem dX8_statement_18 : decode cX8_statement 18 = .ok (.getfield 64, 3) := by decide +kernel
theorem dX8_statement_21 : decode cX8_statement 21 = .ok (.iload_n 1, 1) := by decide +kernel
theorem dX8_statement_22 : decode cX8_statement 22 = .ok (.iconst 0, 1) := by decide +kernel
theorem dX8_statement_23 : decode cX8_statement 23 = .ok (.iastore, 1) := by decide +kernel
theorem dX8_statement_24 : decode cX8_statement 24 = .ok (.aload_n 0, 1) := by decide +kernel
theorem dX8_statement_25 : decode cX8_statement 25 = .ok (.invokevirtual 130, 3) := by decide +kernel
theorem dX8_statement_28 : decode cX8_statement 28 = .ok (.ifCond .ne 5, 3) := by decide +kernel
theorem dX8_statement_31 : decode cX8_statement 31 = .ok (.iconst 0, 1) := by decide +kernel
theorem dX8_statement_32 : decode cX8_statement 32 = .ok (.ireturn, 1) := by decide +kernel
theorem dX8_statement_33 : decode cX8_statement 33 = .ok (.aload_n 0, 1) := by decide +kernel
theorem dX8_statement_34 : decode cX8_statement 34 = .ok (.getfield 67, 3) := by decide +kernel
theorem dX8_statement_37 : decode cX8_statement 37 = .ok (.iload_n 1, 1) := by decide +kernel
theorem dX8_statement_38 : decode cX8_statement 38 = .ok (.aload_n 0, 1) := by decide +kernel
theorem dX8_statement_39 : decode cX8_statement 39 = .ok (.getfield 121, 3) := by decide +kernel
theorem dX8_statement_42 : decode cX8_statement 42 = .ok (.iastore, 1) := by decide +kernel
theorem dX8_statement_43 : decode cX8_statement 43 = .ok (.aload_n 0, 1) := by decide +kernel
theorem dX8_statement_44 : decode cX8_statement 44 = .ok (.ldc2_w 134, 3) := by decide +kernel
theorem dX8_statement_47 : decode cX8_statement 47 = .ok (.invokevirtual 126, 3) := by decide +kernel
theorem dX8_statement_50 : decode cX8_statement 50 = .ok (.ifCond .eq 10, 3) := by decide +kernel
theorem dX8_statement_53 : decode cX8_statement 53 = .ok (.aload_n 0, 1) := by decide +kernel
theorem dX8_statement_54 : decode cX8_statement 54 = .ok (.invokevirtual 130, 3) := by decide +kernel
theorem dX8_statement_57 : decode cX8_statement 57 = .ok (.ifCond .ne 5, 3) := by decide +kernel
theorem dX8_statement_60 : decode cX8_statement 60 = .ok (.iconst 0, 1) := by decide +kernel
theorem dX8_statement_61 : decode cX8_statement 61 = .ok (.ireturn, 1) := by decide +kernel
theorem dX8_statement_62 : decode cX8_statement 62 = .ok (.aload_n 0, 1) := by decide +kernel
theorem dX8_statement_63 : decode cX8_statement 63 = .ok (.getfield 70, 3) := by decide +kernel
theorem dX8_statement_66 : decode cX8_statement 66 = .ok (.iload_n 1, 1) := by decide +kernel
theorem dX8_statement_67 : decode cX8_statement 67 = .ok (.aload_n 0, 1) := by decide +kernel
theorem dX8_statement_68 : decode cX8_statement 68 = .ok (.getfield 121, 3) := by decide +kernel
theorem dX8_statement_71 : decode cX8_statement 71 = .ok (.iastore, 1) := by decide +kernel
theorem dX8_statement_72 : decode cX8_statement 72 = .ok (.goto 147, 3) := by decide +kernel
theorem dX8_statement_75 : decode cX8_statement 75 = .ok (.aload_n 0, 1) := by decide +kernel
theorem dX8_statement_76 : decode cX8_statement 76 = .ok (.ldc2_w 136, 3) := by decide +kernel
theorem dX8_statement_79 : decode cX8_statement 79 = .ok (.invokevirtual 126, 3) := by decide +kernel
theorem dX8_statement_82 : decode cX8_statement 82 = .ok (.ifCond .eq 50, 3) := by decide +kernel
theorem dX8_statement_85 : decode cX8_statement 85 = .ok (.aload_n 0, 1) := by decide +kernel
theorem dX8_statement_86 : decode cX8_statement 86 = .ok (.getfield 64, 3) := by decide +kernel
theorem dX8_statement_89 : decode cX8_statement 89 = .ok (.iload_n 1, 1) := by decide +kernel
theorem dX8_statement_90 : decode cX8_statement 90 = .ok (.aload_n 0, 1) := by decide +kernel
theorem dX8_statement_91 : decode cX8_statement 91 = .ok (.ldc2_w 138, 3) := by decide +kernel
theorem dX8_statement_94 : decode cX8_statement 94 = .ok (.invokevirtual 126, 3) := by decide +kernel
theorem dX8_statement_97 : decode cX8_statement 97 = .ok (.ifCond .eq 7, 3) := by decide +kernel
theorem dX8_statement_100 : decode cX8_statement 100 = .ok (.iconst 1, 1) := by decide +kernel
theorem dX8_statement_101 : decode cX8_statement 101 = .ok (.goto 18, 3) := by decide +kernel
theorem dX8_statement_104 : decode cX8_statement 104 = .ok (.aload_n 0, 1) := by decide +kernel
theorem dX8_statement_105 : decode cX8_statement 105 = .ok (.ldc2_w 140, 3) := by decide +kernel
theorem dX8_statement_108 : decode cX8_statement 108 = .ok (.invokevirtual 126, 3) := by decide +kernel
theorem dX8_statement_111 : decode cX8_statement 111 = .ok (.ifCond .eq 7, 3) := by decide +kernel
theorem dX8_statement_114 : decode cX8_statement 114 = .ok (.iconst 2, 1) := by decide +kernel
theorem dX8_statement_115 : decode cX8_statement 115 = .ok (.goto 4, 3) := by decide +kernel
theorem dX8_statement_118 : decode cX8_statement 118 = .ok (.iconst (-1), 1) := by decide +kernel
theorem dX8_statement_119 : decode cX8_statement 119 = .ok (.iastore, 1) := by decide +kernel
theorem dX8_statement_120 : decode cX8_statement 120 = .ok (.aload_n 0, 1) := by decide +kernel
theorem dX8_statement_121 : decode cX8_statement 121 = .ok (.getfield 64, 3) := by decide +kernel
theorem dX8_statement_124 : decode cX8_statement 124 = .ok (.iload_n 1, 1) := by decide +kernel
theorem dX8_statement_125 : decode cX8_statement 125 = .ok (.iaload, 1) := by decide +kernel
theorem dX8_statement_126 : decode cX8_statement 126 = .ok (.iconst (-1), 1) := by decide +kernel
theorem dX8_statement_127 : decode cX8_statement 127 = .ok (.if_icmp .ne 73, 3) := by decide +kernel
theorem dX8_statement_130 : decode cX8_statement 130 = .ok (.iconst 0, 1) := by decide +kernel
theorem dX8_statement_131 : decode cX8_statement 131 = .ok (.ireturn, 1) := by decide +kernel
theorem dX8_statement_132 : decode cX8_statement 132 = .ok (.aload_n 0, 1) := by decide +kernel
theorem dX8_statement_133 : decode cX8_statement 133 = .ok (.ldc2_w 142, 3) := by decide +kernel
theorem dX8_statement_136 : decode cX8_statement 136 = .ok (.invokevirtual 126, 3) := by decide +kernel
theorem dX8_statement_139 : decode cX8_statement 139 = .ok (.ifCond .eq 22, 3) := by decide +kernel
theorem dX8_statement_142 : decode cX8_statement 142 = .ok (.aload_n 0, 1) := by decide +kernel
theorem dX8_statement_143 : decode cX8_statement 143 = .ok (.getfield 64, 3) := by decide +kernel
theorem dX8_statement_146 : decode cX8_statement 146 = .ok (.iload_n 1, 1) := by decide +kernel
theorem dX8_statement_147 : decode cX8_statement 147 = .ok (.iconst 3, 1) := by decide +kernel
theorem dX8_statement_148 : decode cX8_statement 148 = .ok (.iastore, 1) := by decide +kernel
theorem dX8_statement_149 : decode cX8_statement 149 = .ok (.aload_n 0, 1) := by decide +kernel
theorem dX8_statement_150 : decode cX8_statement 150 = .ok (.ldc2_w 144, 3) := by decide +kernel
theorem dX8_statement_153 : decode cX8_statement 153 = .ok (.invokevirtual 126, 3) := by decide +kernel
theorem dX8_statement_156 : decode cX8_statement 156 = .ok (.ifCond .ne 44, 3) := by decide +kernel
theorem dX8_statement_159 : decode cX8_statement 159 = .ok (.iconst 0, 1) := by decide +kernel
theorem dX8_statement_160 : decode cX8_statement 160 = .ok (.ireturn, 1) := by decide +kernel
theorem dX8_statement_161 : decode cX8_statement 161 = .ok (.aload_n 0, 1) := by decide +kernel
theorem dX8_statement_162 : decode cX8_statement 162 = .ok (.ldc2_w 146, 3) := by decide +kernel
theorem dX8_statement_165 : decode cX8_statement 165 = .ok (.invokevirtual 126, 3) := by decide +kernel
theorem dX8_statement_168 : decode cX8_statement 168 = .ok (.ifCond .eq 13, 3) := by decide +kernel
theorem dX8_statement_171 : decode cX8_statement 171 = .ok (.aload_n 0, 1) := by decide +kernel
theorem dX8_statement_172 : decode cX8_statement 172 = .ok (.getfield 64, 3) := by decide +kernel
theorem dX8_statement_175 : decode cX8_statement 175 = .ok (.iload_n 1, 1) := by decide +kernel
theorem dX8_statement_176 : decode cX8_statement 176 = .ok (.iconst 4, 1) := by decide +kernel
theorem dX8_statement_177 : decode cX8_statement 177 = .ok (.iastore, 1) := by decide +kernel
theorem dX8_statement_178 : decode cX8_statement 178 = .ok (.goto 22, 3) := by decide +kernel
theorem dX8_statement_181 : decode cX8_statement 181 = .ok (.aload_n 0, 1) := by decide +kernel
theorem dX8_statement_182 : decode cX8_statement 182 = .ok (.getfield 64, 3) := by decide +kernel
theorem dX8_statement_185 : decode cX8_statement 185 = .ok (.iload_n 1, 1) := by decide +kernel
theorem dX8_statement_186 : decode cX8_statement 186 = .ok (.iconst 5, 1) := by decide +kernel
theorem dX8_statement_187 : decode cX8_statement 187 = .ok (.iastore, 1) := by decide +kernel
theorem dX8_statement_188 : decode cX8_statement 188 = .ok (.aload_n 0, 1) := by decide +kernel
theorem dX8_statement_189 : decode cX8_statement 189 = .ok (.ldc2_w 148, 3) := by decide +kernel
theorem dX8_statement_192 : decode cX8_statement 192 = .ok (.invokevirtual 126, 3) := by decide +kernel
theorem dX8_statement_195 : decode cX8_statement 195 = .ok (.ifCond .ne 5, 3) := by decide +kernel
theorem dX8_statement_198 : decode cX8_statement 198 = .ok (.iconst 0, 1) := by decide +kernel
theorem dX8_statement_199 : decode cX8_statement 199 = .ok (.ireturn, 1) := by decide +kernel
theorem dX8_statement_200 : decode cX8_statement 200 = .ok (.aload_n 0, 1) := by decide +kernel
theorem dX8_statement_201 : decode cX8_statement 201 = .ok (.invokevirtual 130, 3) := by decide +kernel
theorem dX8_statement_204 : decode cX8_statement 204 = .ok (.ifCond .ne 5, 3) := by decide +kernel
theorem dX8_statement_207 : decode cX8_statement 207 = .ok (.iconst 0, 1) := by decide +kernel
theorem dX8_statement_208 : decode cX8_statement 208 = .ok (.ireturn, 1) := by decide +kernel
theorem dX8_statement_209 : decode cX8_statement 209 = .ok (.aload_n 0, 1) := by decide +kernel
theorem dX8_statement_210 : decode cX8_statement 210 = .ok (.getfield 67, 3) := by decide +kernel
theorem dX8_statement_213 : decode cX8_statement 213 = .ok (.iload_n 1, 1) := by decide +kernel
theorem dX8_statement_214 : decode cX8_statement 214 = .ok (.aload_n 0, 1) := by decide +kernel
theorem dX8_statement_215 : decode cX8_statement 215 = .ok (.getfield 121, 3) := by decide +kernel
theorem dX8_statement_218 : decode cX8_statement 218 = .ok (.iastore, 1) := by decide +kernel
theorem dX8_statement_219 : decode cX8_statement 219 = .ok (.aload_n 0, 1) := by decide +kernel
theorem dX8_statement_220 : decode cX8_statement 220 = .ok (.invokevirtual 111, 3) := by decide +kernel
theorem dX8_statement_223 : decode cX8_statement 223 = .ok (.aload_n 0, 1) := by decide +kernel
theorem dX8_statement_224 : decode cX8_statement 224 = .ok (.getfield 105, 3) := by decide +kernel
theorem dX8_statement_227 : decode cX8_statement 227 = .ok (.aload_n 0, 1) := by decide +kernel
theorem dX8_statement_228 : decode cX8_statement 228 = .ok (.getfield 108, 3) := by decide +kernel
theorem dX8_statement_231 : decode cX8_statement 231 = .ok (.if_icmp .eq 17, 3) := by decide +kernel
theorem dX8_statement_234 : decode cX8_statement 234 = .ok (.aload_n 0, 1) := by decide +kernel
theorem dX8_statement_235 : decode cX8_statement 235 = .ok (.getfield 45, 3) := by decide +kernel
theorem dX8_statement_238 : decode cX8_statement 238 = .ok (.aload_n 0, 1) := by decide +kernel
theorem dX8_statement_239 : decode cX8_statement 239 = .ok (.getfield 105, 3) := by decide +kernel
theorem dX8_statement_242 : decode cX8_statement 242 = .ok (.baload, 1) := by decide +kernel
theorem dX8_statement_243 : decode cX8_statement 243 = .ok (.bipush 59, 2) := by decide +kernel
theorem dX8_statement_245 : decode cX8_statement 245 = .ok (.if_icmp .eq 5, 3) := by decide +kernel
theorem dX8_statement_248 : decode cX8_statement 248 = .ok (.iconst 0, 1) := by decide +kernel
theorem dX8_statement_249 : decode cX8_statement 249 = .ok (.ireturn, 1) := by decide +kernel
theorem dX8_statement_250 : decode cX8_statement 250 = .ok (.aload_n 0, 1) := by decide +kernel
theorem dX8_statement_251 : decode cX8_statement 251 = .ok (.dup, 1) := by decide +kernel
theorem dX8_statement_252 : decode cX8_statement 252 = .ok (.getfield 105, 3) := by decide +kernel
theorem dX8_statement_255 : decode cX8_statement 255 = .ok (.iconst 1, 1) := by decide +kernel
theorem dX8_statement_256 : decode cX8_statement 256 = .ok (.iadd, 1) := by decide +kernel
theorem dX8_statement_257 : decode cX8_statement 257 = .ok (.putfield 105, 3) := by decide +kernel
theorem dX8_statement_260 : decode cX8_statement 260 = .ok (.iconst 1, 1) := by decide +kernel
theorem dX8_statement_261 : decode cX8_statement 261 = .ok (.ireturn, 1) := by decide +kernel
theorem dX8_sign_0 : decode cX8_sign 0 = .ok (.aload_n 0, 1) := by decide +kernel
theorem dX8_sign_1 : decode cX8_sign 1 = .ok (.iload_n 1, 1) := by decide +kernel
theorem dX8_sign_2 : decode cX8_sign 2 = .ok (.invokevirtual 150, 3) := by decide +kernel
theorem dX8_sign_5 : decode cX8_sign 5 = .ok (.ifCond .eq 22, 3) := by decide +kernel
theorem dX8_sign_8 : decode cX8_sign 8 = .ok (.iload_n 2, 1) := by decide +kernel
theorem dX8_sign_9 : decode cX8_sign 9 = .ok (.invokestatic 154, 3) := by decide +kernel
theorem dX8_sign_12 : decode cX8_sign 12 = .ok (.ifCond .eq 15, 3) := by decide +kernel
theorem dX8_sign_15 : decode cX8_sign 15 = .ok (.iload_n 3, 1) := by decide +kernel
theorem dX8_sign_16 : decode cX8_sign 16 = .ok (.iconst 0, 1) := by decide +kernel
theorem dX8_sign_17 : decode cX8_sign 17 = .ok (.aload_n 0, 1) := by decide +kernel
theorem dX8_sign_18 : decode cX8_sign 18 = .ok (.getfield 98, 3) := by decide +kernel
theorem dX8_sign_21 : decode cX8_sign 21 = .ok (.invokestatic 88, 3) := by decide +kernel
theorem dX8_sign_24 : decode cX8_sign 24 = .ok (.ifCond .ne 6, 3) := by decide +kernel
theorem dX8_sign_27 : decode cX8_sign 27 = .ok (.bipush (-2), 2) := by decide +kernel
theorem dX8_sign_29 : decode cX8_sign 29 = .ok (.ireturn, 1) := by decide +kernel
theorem dX8_sign_30 : decode cX8_sign 30 = .ok (.aload_n 0, 1) := by decide +kernel
theorem dX8_sign_31 : decode cX8_sign 31 = .ok (.getfield 157, 3) := by decide +kernel
theorem dX8_sign_34 : decode cX8_sign 34 = .ok (.bipush 60, 2) := by decide +kernel
theorem dX8_sign_36 : decode cX8_sign 36 = .ok (.if_icmp .ne 6, 3) := by decide +kernel
theorem dX8_sign_39 : decode cX8_sign 39 = .ok (.bipush (-3), 2) := by decide +kernel
theorem dX8_sign_41 : decode cX8_sign 41 = .ok (.ireturn, 1) := by decide +kernel
theorem dX8_sign_42 : decode cX8_sign 42 = .ok (.iconst 0, 1) := by decide +kernel
theorem dX8_sign_43 : decode cX8_sign 43 = .ok (.istore 4, 2) := by decide +kernel
theorem dX8_sign_45 : decode cX8_sign 45 = .ok (.iload 4, 2) := by decide +kernel
theorem dX8_sign_47 : decode cX8_sign 47 = .ok (.iload_n 3, 1) := by decide +kernel
theorem dX8_sign_48 : decode cX8_sign 48 = .ok (.if_icmp .ge 23, 3) := by decide +kernel
theorem dX8_sign_51 : decode cX8_sign 51 = .ok (.aload_n 0, 1) := by decide +kernel
theorem dX8_sign_52 : decode cX8_sign 52 = .ok (.getfield 45, 3) := by decide +kernel
theorem dX8_sign_55 : decode cX8_sign 55 = .ok (.iload 4, 2) := by decide +kernel
theorem dX8_sign_57 : decode cX8_sign 57 = .ok (.aload_n 0, 1) := by decide +kernel
theorem dX8_sign_58 : decode cX8_sign 58 = .ok (.getfield 41, 3) := by decide +kernel
theorem dX8_sign_61 : decode cX8_sign 61 = .ok (.iload 4, 2) := by decide +kernel
theorem dX8_sign_63 : decode cX8_sign 63 = .ok (.baload, 1) := by decide +kernel
theorem dX8_sign_64 : decode cX8_sign 64 = .ok (.bastore, 1) := by decide +kernel
theorem dX8_sign_65 : decode cX8_sign 65 = .ok (.iinc 4 1, 3) := by decide +kernel
theorem dX8_sign_68 : decode cX8_sign 68 = .ok (.goto (-23), 3) := by decide +kernel
theorem dX8_sign_71 : decode cX8_sign 71 = .ok (.aload_n 0, 1) := by decide +kernel
theorem dX8_sign_72 : decode cX8_sign 72 = .ok (.iload_n 3, 1) := by decide +kernel
theorem dX8_sign_73 : decode cX8_sign 73 = .ok (.putfield 108, 3) := by decide +kernel
theorem dX8_sign_76 : decode cX8_sign 76 = .ok (.aload_n 0, 1) := by decide +kernel
theorem dX8_sign_77 : decode cX8_sign 77 = .ok (.iconst 0, 1) := by decide +kernel
theorem dX8_sign_78 : decode cX8_sign 78 = .ok (.putfield 98, 3) := by decide +kernel
theorem dX8_sign_81 : decode cX8_sign 81 = .ok (.aload_n 0, 1) := by decide +kernel
theorem dX8_sign_82 : decode cX8_sign 82 = .ok (.iconst 0, 1) := by decide +kernel
theorem dX8_sign_83 : decode cX8_sign 83 = .ok (.putfield 105, 3) := by decide +kernel
theorem dX8_sign_86 : decode cX8_sign 86 = .ok (.aload_n 0, 1) := by decide +kernel
theorem dX8_sign_87 : decode cX8_sign 87 = .ok (.getfield 157, 3) := by decide +kernel
theorem dX8_sign_90 : decode cX8_sign 90 = .ok (.istore 4, 2) := by decide +kernel
theorem dX8_sign_92 : decode cX8_sign 92 = .ok (.aload_n 0, 1) := by decide +kernel
theorem dX8_sign_93 : decode cX8_sign 93 = .ok (.getfield 52, 3) := by decide +kernel
theorem dX8_sign_96 : decode cX8_sign 96 = .ok (.iload 4, 2) := by decide +kernel
theorem dX8_sign_98 : decode cX8_sign 98 = .ok (.iconst 0, 1) := by decide +kernel
theorem dX8_sign_99 : decode cX8_sign 99 = .ok (.iastore, 1) := by decide +kernel
theorem dX8_sign_100 : decode cX8_sign 100 = .ok (.iconst 1, 1) := by decide +kernel
theorem dX8_sign_101 : decode cX8_sign 101 = .ok (.istore 5, 2) := by decide +kernel
theorem dX8_sign_103 : decode cX8_sign 103 = .ok (.aload_n 0, 1) := by decide +kernel
theorem dX8_sign_104 : decode cX8_sign 104 = .ok (.invokevirtual 111, 3) := by decide +kernel
theorem dX8_sign_107 : decode cX8_sign 107 = .ok (.iload 5, 2) := by decide +kernel
theorem dX8_sign_109 : decode cX8_sign 109 = .ok (.ifCond .eq 79, 3) := by decide +kernel
theorem dX8_sign_112 : decode cX8_sign 112 = .ok (.aload_n 0, 1) := by decide +kernel
theorem dX8_sign_113 : decode cX8_sign 113 = .ok (.getfield 105, 3) := by decide +kernel
theorem dX8_sign_116 : decode cX8_sign 116 = .ok (.aload_n 0, 1) := by decide +kernel
theorem dX8_sign_117 : decode cX8_sign 117 = .ok (.getfield 108, 3) := by decide +kernel
theorem dX8_sign_120 : decode cX8_sign 120 = .ok (.if_icmp .ge 68, 3) := by decide +kernel
theorem dX8_sign_123 : decode cX8_sign 123 = .ok (.aload_n 0, 1) := by decide +kernel
theorem dX8_sign_124 : decode cX8_sign 124 = .ok (.getfield 52, 3) := by decide +kernel
theorem dX8_sign_127 : decode cX8_sign 127 = .ok (.iload 4, 2) := by decide +kernel
theorem dX8_sign_129 : decode cX8_sign 129 = .ok (.iaload, 1) := by decide +kernel
theorem dX8_sign_130 : decode cX8_sign 130 = .ok (.bipush 12, 2) := by decide +kernel
theorem dX8_sign_132 : decode cX8_sign 132 = .ok (.if_icmp .ge 27, 3) := by decide +kernel
theorem dX8_sign_135 : decode cX8_sign 135 = .ok (.aload_n 0, 1) := by decide +kernel
theorem dX8_sign_136 : decode cX8_sign 136 = .ok (.bipush 12, 2) := by decide +kernel
theorem dX8_sign_138 : decode cX8_sign 138 = .ok (.iload 4, 2) := by decide +kernel
theorem dX8_sign_140 : decode cX8_sign 140 = .ok (.imul, 1) := by decide +kernel
theorem dX8_sign_141 : decode cX8_sign 141 = .ok (.aload_n 0, 1) := by decide +kernel
theorem dX8_sign_142 : decode cX8_sign 142 = .ok (.getfield 52, 3) := by decide +kernel
theorem dX8_sign_145 : decode cX8_sign 145 = .ok (.iload 4, 2) := by decide +kernel
theorem dX8_sign_147 : decode cX8_sign 147 = .ok (.iaload, 1) := by decide +kernel
theorem dX8_sign_148 : decode cX8_sign 148 = .ok (.iadd, 1) := by decide +kernel
theorem dX8_sign_149 : decode cX8_sign 149 = .ok (.invokevirtual 160, 3) := by decide +kernel
theorem dX8_sign_152 : decode cX8_sign 152 = .ok (.ifCond .eq 7, 3) := by decide +kernel
theorem dX8_sign_155 : decode cX8_sign 155 = .ok (.iconst 1, 1) := by decide +kernel
theorem dX8_sign_156 : decode cX8_sign 156 = .ok (.goto 4, 3) := by decide +kernel
theorem dX8_sign_159 : decode cX8_sign 159 = .ok (.iconst 0, 1) := by decide +kernel
theorem dX8_sign_160 : decode cX8_sign 160 = .ok (.istore 5, 2) := by decide +kernel
theorem dX8_sign_162 : decode cX8_sign 162 = .ok (.iload 5, 2) := by decide +kernel
theorem dX8_sign_164 : decode cX8_sign 164 = .ok (.ifCond .ne 6, 3) := by decide +kernel
theorem dX8_sign_167 : decode cX8_sign 167 = .ok (.goto (-60), 3) := by decide +kernel
theorem dX8_sign_170 : decode cX8_sign 170 = .ok (.aload_n 0, 1) := by decide +kernel
theorem dX8_sign_171 : decode cX8_sign 171 = .ok (.getfield 52, 3) := by decide +kernel
theorem dX8_sign_174 : decode cX8_sign 174 = .ok (.iload 4, 2) := by decide +kernel
theorem dX8_sign_176 : decode cX8_sign 176 = .ok (.dup2, 1) := by decide +kernel
theorem dX8_sign_177 : decode cX8_sign 177 = .ok (.iaload, 1) := by decide +kernel
theorem dX8_sign_178 : decode cX8_sign 178 = .ok (.iconst 1, 1) := by decide +kernel
theorem dX8_sign_179 : decode cX8_sign 179 = .ok (.iadd, 1) := by decide +kernel
theorem dX8_sign_180 : decode cX8_sign 180 = .ok (.iastore, 1) := by decide +kernel
theorem dX8_sign_181 : decode cX8_sign 181 = .ok (.aload_n 0, 1) := by decide +kernel
theorem dX8_sign_182 : decode cX8_sign 182 = .ok (.invokevirtual 111, 3) := by decide +kernel
theorem dX8_sign_185 : decode cX8_sign 185 = .ok (.goto (-78), 3) := by decide +kernel
theorem dX8_sign_188 : decode cX8_sign 188 = .ok (.aload_n 0, 1) := by decide +kernel
theorem dX8_sign_189 : decode cX8_sign 189 = .ok (.iload 5, 2) := by decide +kernel
theorem dX8_sign_191 : decode cX8_sign 191 = .ok (.ifCond .eq 7, 3) := by decide +kernel
theorem dX8_sign_194 : decode cX8_sign 194 = .ok (.iconst (-1), 1) := by decide +kernel
theorem dX8_sign_195 : decode cX8_sign 195 = .ok (.goto 7, 3) := by decide +kernel
theorem dX8_sign_198 : decode cX8_sign 198 = .ok (.aload_n 0, 1) := by decide +kernel
theorem dX8_sign_199 : decode cX8_sign 199 = .ok (.getfield 105, 3) := by decide +kernel
theorem dX8_sign_202 : decode cX8_sign 202 = .ok (.putfield 48, 3) := by decide +kernel
theorem dX8_sign_205 : decode cX8_sign 205 = .ok (.iload 5, 2) := by decide +kernel
theorem dX8_sign_207 : decode cX8_sign 207 = .ok (.ifCond .ne 5, 3) := by decide +kernel
theorem dX8_sign_210 : decode cX8_sign 210 = .ok (.iconst (-1), 1) := by decide +kernel
theorem dX8_sign_211 : decode cX8_sign 211 = .ok (.ireturn, 1) := by decide +kernel
theorem dX8_sign_212 : decode cX8_sign 212 = .ok (.aload_n 0, 1) := by decide +kernel
theorem dX8_sign_213 : decode cX8_sign 213 = .ok (.getfield 55, 3) := by decide +kernel
theorem dX8_sign_216 : decode cX8_sign 216 = .ok (.iload 4, 2) := by decide +kernel
theorem dX8_sign_218 : decode cX8_sign 218 = .ok (.iload_n 1, 1) := by decide +kernel
theorem dX8_sign_219 : decode cX8_sign 219 = .ok (.iastore, 1) := by decide +kernel
theorem dX8_sign_220 : decode cX8_sign 220 = .ok (.aload_n 0, 1) := by decide +kernel
theorem dX8_sign_221 : decode cX8_sign 221 = .ok (.getfield 58, 3) := by decide +kernel
theorem dX8_sign_224 : decode cX8_sign 224 = .ok (.iload 4, 2) := by decide +kernel
theorem dX8_sign_226 : decode cX8_sign 226 = .ok (.iload_n 2, 1) := by decide +kernel
theorem dX8_sign_227 : decode cX8_sign 227 = .ok (.iastore, 1) := by decide +kernel
theorem dX8_sign_228 : decode cX8_sign 228 = .ok (.aload_n 0, 1) := by decide +kernel
theorem dX8_sign_229 : decode cX8_sign 229 = .ok (.getfield 61, 3) := by decide +kernel
theorem dX8_sign_232 : decode cX8_sign 232 = .ok (.iload 4, 2) := by decide +kernel
theorem dX8_sign_234 : decode cX8_sign 234 = .ok (.aload_n 0, 1) := by decide +kernel
theorem dX8_sign_235 : decode cX8_sign 235 = .ok (.getfield 95, 3) := by decide +kernel
theorem dX8_sign_238 : decode cX8_sign 238 = .ok (.iastore, 1) := by decide +kernel
theorem dX8_sign_239 : decode cX8_sign 239 = .ok (.aload_n 0, 1) := by decide +kernel
theorem dX8_sign_240 : decode cX8_sign 240 = .ok (.dup, 1) := by decide +kernel
theorem dX8_sign_241 : decode cX8_sign 241 = .ok (.getfield 157, 3) := by decide +kernel
theorem dX8_sign_244 : decode cX8_sign 244 = .ok (.iconst 1, 1) := by decide +kernel
theorem dX8_sign_245 : decode cX8_sign 245 = .ok (.iadd, 1) := by decide +kernel
theorem dX8_sign_246 : decode cX8_sign 246 = .ok (.putfield 157, 3) := by decide +kernel
theorem dX8_sign_249 : decode cX8_sign 249 = .ok (.iload 4, 2) := by decide +kernel
theorem dX8_sign_251 : decode cX8_sign 251 = .ok (.ireturn, 1) := by decide +kernel
theorem dX8_fault_0 : decode cX8_fault 0 = .ok (.aload_n 0, 1) := by decide +kernel
theorem dX8_fault_1 : decode cX8_fault 1 = .ok (.getfield 48, 3) := by decide +kernel
theorem dX8_fault_4 : decode cX8_fault 4 = .ok (.ireturn, 1) := by decide +kernel
theorem dX8_inForce_0 : decode cX8_inForce 0 = .ok (.iconst (-1), 1) := by decide +kernel
theorem dX8_inForce_1 : decode cX8_inForce 1 = .ok (.istore 4, 2) := by decide +kernel
theorem dX8_inForce_3 : decode cX8_inForce 3 = .ok (.iconst 0, 1) := by decide +kernel
theorem dX8_inForce_4 : decode cX8_inForce 4 = .ok (.istore 5, 2) := by decide +kernel
theorem dX8_inForce_6 : decode cX8_inForce 6 = .ok (.iload 5, 2) := by decide +kernel
theorem dX8_inForce_8 : decode cX8_inForce 8 = .ok (.aload_n 0, 1) := by decide +kernel
theorem dX8_inForce_9 : decode cX8_inForce 9 = .ok (.getfield 157, 3) := by decide +kernel
theorem dX8_inForce_12 : decode cX8_inForce 12 = .ok (.if_icmp .ge 69, 3) := by decide +kernel
theorem dX8_inForce_15 : decode cX8_inForce 15 = .ok (.aload_n 0, 1) := by decide +kernel
theorem dX8_inForce_16 : decode cX8_inForce 16 = .ok (.getfield 55, 3) := by decide +kernel
theorem dX8_inForce_19 : decode cX8_inForce 19 = .ok (.iload 5, 2) := by decide +kernel
theorem dX8_inForce_21 : decode cX8_inForce 21 = .ok (.iaload, 1) := by decide +kernel
theorem dX8_inForce_22 : decode cX8_inForce 22 = .ok (.iload_n 1, 1) := by decide +kernel
theorem dX8_inForce_23 : decode cX8_inForce 23 = .ok (.if_icmp .ne 52, 3) := by decide +kernel
theorem dX8_inForce_26 : decode cX8_inForce 26 = .ok (.aload_n 0, 1) := by decide +kernel
theorem dX8_inForce_27 : decode cX8_inForce 27 = .ok (.getfield 61, 3) := by decide +kernel
theorem dX8_inForce_30 : decode cX8_inForce 30 = .ok (.iload 5, 2) := by decide +kernel
theorem dX8_inForce_32 : decode cX8_inForce 32 = .ok (.iaload, 1) := by decide +kernel
theorem dX8_inForce_33 : decode cX8_inForce 33 = .ok (.iload_n 3, 1) := by decide +kernel
theorem dX8_inForce_34 : decode cX8_inForce 34 = .ok (.if_icmp .gt 41, 3) := by decide +kernel
theorem dX8_inForce_37 : decode cX8_inForce 37 = .ok (.aload_n 0, 1) := by decide +kernel
theorem dX8_inForce_38 : decode cX8_inForce 38 = .ok (.getfield 58, 3) := by decide +kernel
theorem dX8_inForce_41 : decode cX8_inForce 41 = .ok (.iload 5, 2) := by decide +kernel
theorem dX8_inForce_43 : decode cX8_inForce 43 = .ok (.iaload, 1) := by decide +kernel
theorem dX8_inForce_44 : decode cX8_inForce 44 = .ok (.iload_n 2, 1) := by decide +kernel
theorem dX8_inForce_45 : decode cX8_inForce 45 = .ok (.if_icmp .gt 30, 3) := by decide +kernel
theorem dX8_inForce_48 : decode cX8_inForce 48 = .ok (.iload 4, 2) := by decide +kernel
theorem dX8_inForce_50 : decode cX8_inForce 50 = .ok (.iconst (-1), 1) := by decide +kernel
theorem dX8_inForce_51 : decode cX8_inForce 51 = .ok (.if_icmp .eq 20, 3) := by decide +kernel
theorem dX8_inForce_54 : decode cX8_inForce 54 = .ok (.aload_n 0, 1) := by decide +kernel
theorem dX8_inForce_55 : decode cX8_inForce 55 = .ok (.getfield 58, 3) := by decide +kernel
theorem dX8_inForce_58 : decode cX8_inForce 58 = .ok (.iload 5, 2) := by decide +kernel
theorem dX8_inForce_60 : decode cX8_inForce 60 = .ok (.iaload, 1) := by decide +kernel
theorem dX8_inForce_61 : decode cX8_inForce 61 = .ok (.aload_n 0, 1) := by decide +kernel
theorem dX8_inForce_62 : decode cX8_inForce 62 = .ok (.getfield 58, 3) := by decide +kernel
theorem dX8_inForce_65 : decode cX8_inForce 65 = .ok (.iload 4, 2) := by decide +kernel
theorem dX8_inForce_67 : decode cX8_inForce 67 = .ok (.iaload, 1) := by decide +kernel
theorem dX8_inForce_68 : decode cX8_inForce 68 = .ok (.if_icmp .lt 7, 3) := by decide +kernel
theorem dX8_inForce_71 : decode cX8_inForce 71 = .ok (.iload 5, 2) := by decide +kernel
theorem dX8_inForce_73 : decode cX8_inForce 73 = .ok (.istore 4, 2) := by decide +kernel
theorem dX8_inForce_75 : decode cX8_inForce 75 = .ok (.iinc 5 1, 3) := by decide +kernel
theorem dX8_inForce_78 : decode cX8_inForce 78 = .ok (.goto (-72), 3) := by decide +kernel
theorem dX8_inForce_81 : decode cX8_inForce 81 = .ok (.iload 4, 2) := by decide +kernel
theorem dX8_inForce_83 : decode cX8_inForce 83 = .ok (.ireturn, 1) := by decide +kernel
theorem dX8_force_0 : decode cX8_force 0 = .ok (.aload_n 0, 1) := by decide +kernel
theorem dX8_force_1 : decode cX8_force 1 = .ok (.iload_n 1, 1) := by decide +kernel
theorem dX8_force_2 : decode cX8_force 2 = .ok (.invokevirtual 150, 3) := by decide +kernel
theorem dX8_force_5 : decode cX8_force 5 = .ok (.ifCond .eq 27, 3) := by decide +kernel
theorem dX8_force_8 : decode cX8_force 8 = .ok (.iload_n 2, 1) := by decide +kernel
theorem dX8_force_9 : decode cX8_force 9 = .ok (.invokestatic 154, 3) := by decide +kernel
theorem dX8_force_12 : decode cX8_force 12 = .ok (.ifCond .eq 20, 3) := by decide +kernel
theorem dX8_force_15 : decode cX8_force 15 = .ok (.iload_n 3, 1) := by decide +kernel
theorem dX8_force_16 : decode cX8_force 16 = .ok (.invokestatic 154, 3) := by decide +kernel
theorem dX8_force_19 : decode cX8_force 19 = .ok (.ifCond .eq 13, 3) := by decide +kernel
theorem dX8_force_22 : decode cX8_force 22 = .ok (.aload_n 0, 1) := by decide +kernel
theorem dX8_force_23 : decode cX8_force 23 = .ok (.iload_n 1, 1) := by decide +kernel
theorem dX8_force_24 : decode cX8_force 24 = .ok (.iload_n 2, 1) := by decide +kernel
theorem dX8_force_25 : decode cX8_force 25 = .ok (.iload_n 3, 1) := by decide +kernel
theorem dX8_force_26 : decode cX8_force 26 = .ok (.invokevirtual 163, 3) := by decide +kernel
theorem dX8_force_29 : decode cX8_force 29 = .ok (.goto 4, 3) := by decide +kernel
theorem dX8_force_32 : decode cX8_force 32 = .ok (.iconst (-1), 1) := by decide +kernel
theorem dX8_force_33 : decode cX8_force 33 = .ok (.ireturn, 1) := by decide +kernel
theorem dX8_lastOf_0 : decode cX8_lastOf 0 = .ok (.iconst 0, 1) := by decide +kernel
theorem dX8_lastOf_1 : decode cX8_lastOf 1 = .ok (.istore_n 3, 1) := by decide +kernel
theorem dX8_lastOf_2 : decode cX8_lastOf 2 = .ok (.bipush 12, 2) := by decide +kernel
theorem dX8_lastOf_4 : decode cX8_lastOf 4 = .ok (.iload_n 1, 1) := by decide +kernel
theorem dX8_lastOf_5 : decode cX8_lastOf 5 = .ok (.imul, 1) := by decide +kernel
theorem dX8_lastOf_6 : decode cX8_lastOf 6 = .ok (.istore 4, 2) := by decide +kernel
theorem dX8_lastOf_8 : decode cX8_lastOf 8 = .ok (.iload_n 1, 1) := by decide +kernel
theorem dX8_lastOf_9 : decode cX8_lastOf 9 = .ok (.iconst (-1), 1) := by decide +kernel
theorem dX8_lastOf_10 : decode cX8_lastOf 10 = .ok (.if_icmp .eq 44, 3) := by decide +kernel
theorem dX8_lastOf_13 : decode cX8_lastOf 13 = .ok (.iload 4, 2) := by decide +kernel
theorem dX8_lastOf_15 : decode cX8_lastOf 15 = .ok (.bipush 12, 2) := by decide +kernel
theorem dX8_lastOf_17 : decode cX8_lastOf 17 = .ok (.iload_n 1, 1) := by decide +kernel
theorem dX8_lastOf_18 : decode cX8_lastOf 18 = .ok (.imul, 1) := by decide +kernel
theorem dX8_lastOf_19 : decode cX8_lastOf 19 = .ok (.aload_n 0, 1) := by decide +kernel
theorem dX8_lastOf_20 : decode cX8_lastOf 20 = .ok (.getfield 52, 3) := by decide +kernel
theorem dX8_lastOf_23 : decode cX8_lastOf 23 = .ok (.iload_n 1, 1) := by decide +kernel
theorem dX8_lastOf_24 : decode cX8_lastOf 24 = .ok (.iaload, 1) := by decide +kernel
theorem dX8_lastOf_25 : decode cX8_lastOf 25 = .ok (.iadd, 1) := by decide +kernel
theorem dX8_lastOf_26 : decode cX8_lastOf 26 = .ok (.if_icmp .ge 28, 3) := by decide +kernel
theorem dX8_lastOf_29 : decode cX8_lastOf 29 = .ok (.aload_n 0, 1) := by decide +kernel
theorem dX8_lastOf_30 : decode cX8_lastOf 30 = .ok (.getfield 64, 3) := by decide +kernel
theorem dX8_lastOf_33 : decode cX8_lastOf 33 = .ok (.iload 4, 2) := by decide +kernel
theorem dX8_lastOf_35 : decode cX8_lastOf 35 = .ok (.iaload, 1) := by decide +kernel
theorem dX8_lastOf_36 : decode cX8_lastOf 36 = .ok (.iload_n 2, 1) := by decide +kernel
theorem dX8_lastOf_37 : decode cX8_lastOf 37 = .ok (.if_icmp .ne 11, 3) := by decide +kernel
theorem dX8_lastOf_40 : decode cX8_lastOf 40 = .ok (.aload_n 0, 1) := by decide +kernel
theorem dX8_lastOf_41 : decode cX8_lastOf 41 = .ok (.getfield 67, 3) := by decide +kernel
theorem dX8_lastOf_44 : decode cX8_lastOf 44 = .ok (.iload 4, 2) := by decide +kernel
theorem dX8_lastOf_46 : decode cX8_lastOf 46 = .ok (.iaload, 1) := by decide +kernel
theorem dX8_lastOf_47 : decode cX8_lastOf 47 = .ok (.istore_n 3, 1) := by decide +kernel
theorem dX8_lastOf_48 : decode cX8_lastOf 48 = .ok (.iinc 4 1, 3) := by decide +kernel
theorem dX8_lastOf_51 : decode cX8_lastOf 51 = .ok (.goto (-43), 3) := by decide +kernel
theorem dX8_lastOf_54 : decode cX8_lastOf 54 = .ok (.iload_n 3, 1) := by decide +kernel
theorem dX8_lastOf_55 : decode cX8_lastOf 55 = .ok (.ireturn, 1) := by decide +kernel
theorem dX8_tells_0 : decode cX8_tells 0 = .ok (.iconst 0, 1) := by decide +kernel
theorem dX8_tells_1 : decode cX8_tells 1 = .ok (.istore 4, 2) := by decide +kernel
theorem dX8_tells_3 : decode cX8_tells 3 = .ok (.bipush 12, 2) := by decide +kernel
theorem dX8_tells_5 : decode cX8_tells 5 = .ok (.iload_n 1, 1) := by decide +kernel
theorem dX8_tells_6 : decode cX8_tells 6 = .ok (.imul, 1) := by decide +kernel
theorem dX8_tells_7 : decode cX8_tells 7 = .ok (.istore 5, 2) := by decide +kernel
theorem dX8_tells_9 : decode cX8_tells 9 = .ok (.iload_n 1, 1) := by decide +kernel
theorem dX8_tells_10 : decode cX8_tells 10 = .ok (.iconst (-1), 1) := by decide +kernel
theorem dX8_tells_11 : decode cX8_tells 11 = .ok (.if_icmp .eq 59, 3) := by decide +kernel
theorem dX8_tells_14 : decode cX8_tells 14 = .ok (.iload 5, 2) := by decide +kernel
theorem dX8_tells_16 : decode cX8_tells 16 = .ok (.bipush 12, 2) := by decide +kernel
theorem dX8_tells_18 : decode cX8_tells 18 = .ok (.iload_n 1, 1) := by decide +kernel
theorem dX8_tells_19 : decode cX8_tells 19 = .ok (.imul, 1) := by decide +kernel
theorem dX8_tells_20 : decode cX8_tells 20 = .ok (.aload_n 0, 1) := by decide +kernel
theorem dX8_tells_21 : decode cX8_tells 21 = .ok (.getfield 52, 3) := by decide +kernel
theorem dX8_tells_24 : decode cX8_tells 24 = .ok (.iload_n 1, 1) := by decide +kernel
theorem dX8_tells_25 : decode cX8_tells 25 = .ok (.iaload, 1) := by decide +kernel
theorem dX8_tells_26 : decode cX8_tells 26 = .ok (.iadd, 1) := by decide +kernel
theorem dX8_tells_27 : decode cX8_tells 27 = .ok (.if_icmp .ge 43, 3) := by decide +kernel
theorem dX8_tells_30 : decode cX8_tells 30 = .ok (.iload 4, 2) := by decide +kernel
theorem dX8_tells_32 : decode cX8_tells 32 = .ok (.ifCond .ne 25, 3) := by decide +kernel
theorem dX8_tells_35 : decode cX8_tells 35 = .ok (.aload_n 0, 1) := by decide +kernel
theorem dX8_tells_36 : decode cX8_tells 36 = .ok (.getfield 64, 3) := by decide +kernel
theorem dX8_tells_39 : decode cX8_tells 39 = .ok (.iload 5, 2) := by decide +kernel
theorem dX8_tells_41 : decode cX8_tells 41 = .ok (.iaload, 1) := by decide +kernel
theorem dX8_tells_42 : decode cX8_tells 42 = .ok (.iload_n 2, 1) := by decide +kernel
theorem dX8_tells_43 : decode cX8_tells 43 = .ok (.if_icmp .ne 18, 3) := by decide +kernel
theorem dX8_tells_46 : decode cX8_tells 46 = .ok (.aload_n 0, 1) := by decide +kernel
theorem dX8_tells_47 : decode cX8_tells 47 = .ok (.getfield 67, 3) := by decide +kernel
theorem dX8_tells_50 : decode cX8_tells 50 = .ok (.iload 5, 2) := by decide +kernel
theorem dX8_tells_52 : decode cX8_tells 52 = .ok (.iaload, 1) := by decide +kernel
theorem dX8_tells_53 : decode cX8_tells 53 = .ok (.iload_n 3, 1) := by decide +kernel
theorem dX8_tells_54 : decode cX8_tells 54 = .ok (.if_icmp .ne 7, 3) := by decide +kernel
theorem dX8_tells_57 : decode cX8_tells 57 = .ok (.iconst 1, 1) := by decide +kernel
theorem dX8_tells_58 : decode cX8_tells 58 = .ok (.goto 4, 3) := by decide +kernel
theorem dX8_tells_61 : decode cX8_tells 61 = .ok (.iconst 0, 1) := by decide +kernel
theorem dX8_tells_62 : decode cX8_tells 62 = .ok (.istore 4, 2) := by decide +kernel
theorem dX8_tells_64 : decode cX8_tells 64 = .ok (.iinc 5 1, 3) := by decide +kernel
theorem dX8_tells_67 : decode cX8_tells 67 = .ok (.goto (-58), 3) := by decide +kernel
theorem dX8_tells_70 : decode cX8_tells 70 = .ok (.iload 4, 2) := by decide +kernel
theorem dX8_tells_72 : decode cX8_tells 72 = .ok (.ireturn, 1) := by decide +kernel
theorem dX8_bars_0 : decode cX8_bars 0 = .ok (.iconst 0, 1) := by decide +kernel
theorem dX8_bars_1 : decode cX8_bars 1 = .ok (.istore 5, 2) := by decide +kernel
theorem dX8_bars_3 : decode cX8_bars 3 = .ok (.bipush 12, 2) := by decide +kernel
theorem dX8_bars_5 : decode cX8_bars 5 = .ok (.iload_n 1, 1) := by decide +kernel
theorem dX8_bars_6 : decode cX8_bars 6 = .ok (.imul, 1) := by decide +kernel
theorem dX8_bars_7 : decode cX8_bars 7 = .ok (.istore 6, 2) := by decide +kernel
theorem dX8_bars_9 : decode cX8_bars 9 = .ok (.iload_n 1, 1) := by decide +kernel
theorem dX8_bars_10 : decode cX8_bars 10 = .ok (.iconst (-1), 1) := by decide +kernel
theorem dX8_bars_11 : decode cX8_bars 11 = .ok (.if_icmp .eq 85, 3) := by decide +kernel
theorem dX8_bars_14 : decode cX8_bars 14 = .ok (.iload 6, 2) := by decide +kernel
theorem dX8_bars_16 : decode cX8_bars 16 = .ok (.bipush 12, 2) := by decide +kernel
theorem dX8_bars_18 : decode cX8_bars 18 = .ok (.iload_n 1, 1) := by decide +kernel
theorem dX8_bars_19 : decode cX8_bars 19 = .ok (.imul, 1) := by decide +kernel
theorem dX8_bars_20 : decode cX8_bars 20 = .ok (.aload_n 0, 1) := by decide +kernel
theorem dX8_bars_21 : decode cX8_bars 21 = .ok (.getfield 52, 3) := by decide +kernel
theorem dX8_bars_24 : decode cX8_bars 24 = .ok (.iload_n 1, 1) := by decide +kernel
theorem dX8_bars_25 : decode cX8_bars 25 = .ok (.iaload, 1) := by decide +kernel
theorem dX8_bars_26 : decode cX8_bars 26 = .ok (.iadd, 1) := by decide +kernel
theorem dX8_bars_27 : decode cX8_bars 27 = .ok (.if_icmp .ge 69, 3) := by decide +kernel
theorem dX8_bars_30 : decode cX8_bars 30 = .ok (.iload 5, 2) := by decide +kernel
theorem dX8_bars_32 : decode cX8_bars 32 = .ok (.ifCond .ne 51, 3) := by decide +kernel
theorem dX8_bars_35 : decode cX8_bars 35 = .ok (.aload_n 0, 1) := by decide +kernel
theorem dX8_bars_36 : decode cX8_bars 36 = .ok (.getfield 64, 3) := by decide +kernel
theorem dX8_bars_39 : decode cX8_bars 39 = .ok (.iload 6, 2) := by decide +kernel
theorem dX8_bars_41 : decode cX8_bars 41 = .ok (.iaload, 1) := by decide +kernel
theorem dX8_bars_42 : decode cX8_bars 42 = .ok (.ifCond .ne 45, 3) := by decide +kernel
theorem dX8_bars_45 : decode cX8_bars 45 = .ok (.aload_n 0, 1) := by decide +kernel
theorem dX8_bars_46 : decode cX8_bars 46 = .ok (.getfield 29, 3) := by decide +kernel
theorem dX8_bars_49 : decode cX8_bars 49 = .ok (.iload_n 2, 1) := by decide +kernel
theorem dX8_bars_50 : decode cX8_bars 50 = .ok (.iaload, 1) := by decide +kernel
theorem dX8_bars_51 : decode cX8_bars 51 = .ok (.aload_n 0, 1) := by decide +kernel
theorem dX8_bars_52 : decode cX8_bars 52 = .ok (.getfield 29, 3) := by decide +kernel
theorem dX8_bars_55 : decode cX8_bars 55 = .ok (.iload_n 3, 1) := by decide +kernel
theorem dX8_bars_56 : decode cX8_bars 56 = .ok (.iaload, 1) := by decide +kernel
theorem dX8_bars_57 : decode cX8_bars 57 = .ok (.isub, 1) := by decide +kernel
theorem dX8_bars_58 : decode cX8_bars 58 = .ok (.invokestatic 167, 3) := by decide +kernel
theorem dX8_bars_61 : decode cX8_bars 61 = .ok (.aload_n 0, 1) := by decide +kernel
theorem dX8_bars_62 : decode cX8_bars 62 = .ok (.getfield 67, 3) := by decide +kernel
theorem dX8_bars_65 : decode cX8_bars 65 = .ok (.iload 6, 2) := by decide +kernel
theorem dX8_bars_67 : decode cX8_bars 67 = .ok (.iaload, 1) := by decide +kernel
theorem dX8_bars_68 : decode cX8_bars 68 = .ok (.if_icmp .ge 19, 3) := by decide +kernel
theorem dX8_bars_71 : decode cX8_bars 71 = .ok (.iload 4, 2) := by decide +kernel
theorem dX8_bars_73 : decode cX8_bars 73 = .ok (.aload_n 0, 1) := by decide +kernel
theorem dX8_bars_74 : decode cX8_bars 74 = .ok (.getfield 70, 3) := by decide +kernel
theorem dX8_bars_77 : decode cX8_bars 77 = .ok (.iload 6, 2) := by decide +kernel
theorem dX8_bars_79 : decode cX8_bars 79 = .ok (.iaload, 1) := by decide +kernel
theorem dX8_bars_80 : decode cX8_bars 80 = .ok (.if_icmp .gt 7, 3) := by decide +kernel
theorem dX8_bars_83 : decode cX8_bars 83 = .ok (.iconst 1, 1) := by decide +kernel
theorem dX8_bars_84 : decode cX8_bars 84 = .ok (.goto 4, 3) := by decide +kernel
theorem dX8_bars_87 : decode cX8_bars 87 = .ok (.iconst 0, 1) := by decide +kernel
theorem dX8_bars_88 : decode cX8_bars 88 = .ok (.istore 5, 2) := by decide +kernel
theorem dX8_bars_90 : decode cX8_bars 90 = .ok (.iinc 6 1, 3) := by decide +kernel
theorem dX8_bars_93 : decode cX8_bars 93 = .ok (.goto (-84), 3) := by decide +kernel
theorem dX8_bars_96 : decode cX8_bars 96 = .ok (.iload 5, 2) := by decide +kernel
theorem dX8_bars_98 : decode cX8_bars 98 = .ok (.ireturn, 1) := by decide +kernel
theorem dX8_hallOf_0 : decode cX8_hallOf 0 = .ok (.aload_n 0, 1) := by decide +kernel
theorem dX8_hallOf_1 : decode cX8_hallOf 1 = .ok (.getfield 38, 3) := by decide +kernel
theorem dX8_hallOf_4 : decode cX8_hallOf 4 = .ok (.bipush 60, 2) := by decide +kernel
theorem dX8_hallOf_6 : decode cX8_hallOf 6 = .ok (.iload_n 1, 1) := by decide +kernel
theorem dX8_hallOf_7 : decode cX8_hallOf 7 = .ok (.imul, 1) := by decide +kernel
theorem dX8_hallOf_8 : decode cX8_hallOf 8 = .ok (.iload_n 2, 1) := by decide +kernel
theorem dX8_hallOf_9 : decode cX8_hallOf 9 = .ok (.iadd, 1) := by decide +kernel
theorem dX8_hallOf_10 : decode cX8_hallOf 10 = .ok (.iaload, 1) := by decide +kernel
theorem dX8_hallOf_11 : decode cX8_hallOf 11 = .ok (.ireturn, 1) := by decide +kernel
theorem dX8_isFarFrom_0 : decode cX8_isFarFrom 0 = .ok (.iload_n 3, 1) := by decide +kernel
theorem dX8_isFarFrom_1 : decode cX8_isFarFrom 1 = .ok (.invokestatic 154, 3) := by decide +kernel
theorem dX8_isFarFrom_4 : decode cX8_isFarFrom 4 = .ok (.ifCond .eq 44, 3) := by decide +kernel
theorem dX8_isFarFrom_7 : decode cX8_isFarFrom 7 = .ok (.aload_n 0, 1) := by decide +kernel
theorem dX8_isFarFrom_8 : decode cX8_isFarFrom 8 = .ok (.iload_n 1, 1) := by decide +kernel
theorem dX8_isFarFrom_9 : decode cX8_isFarFrom 9 = .ok (.iload_n 3, 1) := by decide +kernel
theorem dX8_isFarFrom_10 : decode cX8_isFarFrom 10 = .ok (.invokevirtual 173, 3) := by decide +kernel
theorem dX8_isFarFrom_13 : decode cX8_isFarFrom 13 = .ok (.iconst (-1), 1) := by decide +kernel
theorem dX8_isFarFrom_14 : decode cX8_isFarFrom 14 = .ok (.if_icmp .eq 34, 3) := by decide +kernel
theorem dX8_isFarFrom_17 : decode cX8_isFarFrom 17 = .ok (.aload_n 0, 1) := by decide +kernel
theorem dX8_isFarFrom_18 : decode cX8_isFarFrom 18 = .ok (.getfield 29, 3) := by decide +kernel
theorem dX8_isFarFrom_21 : decode cX8_isFarFrom 21 = .ok (.aload_n 0, 1) := by decide +kernel
theorem dX8_isFarFrom_22 : decode cX8_isFarFrom 22 = .ok (.iload_n 1, 1) := by decide +kernel
theorem dX8_isFarFrom_23 : decode cX8_isFarFrom 23 = .ok (.iload_n 3, 1) := by decide +kernel
theorem dX8_isFarFrom_24 : decode cX8_isFarFrom 24 = .ok (.invokevirtual 173, 3) := by decide +kernel
theorem dX8_isFarFrom_27 : decode cX8_isFarFrom 27 = .ok (.iaload, 1) := by decide +kernel
theorem dX8_isFarFrom_28 : decode cX8_isFarFrom 28 = .ok (.aload_n 0, 1) := by decide +kernel
theorem dX8_isFarFrom_29 : decode cX8_isFarFrom 29 = .ok (.getfield 29, 3) := by decide +kernel
theorem dX8_isFarFrom_32 : decode cX8_isFarFrom 32 = .ok (.iload_n 2, 1) := by decide +kernel
theorem dX8_isFarFrom_33 : decode cX8_isFarFrom 33 = .ok (.iaload, 1) := by decide +kernel
theorem dX8_isFarFrom_34 : decode cX8_isFarFrom 34 = .ok (.isub, 1) := by decide +kernel
theorem dX8_isFarFrom_35 : decode cX8_isFarFrom 35 = .ok (.invokestatic 167, 3) := by decide +kernel
theorem dX8_isFarFrom_38 : decode cX8_isFarFrom 38 = .ok (.sipush 150, 3) := by decide +kernel
theorem dX8_isFarFrom_41 : decode cX8_isFarFrom 41 = .ok (.if_icmp .le 7, 3) := by decide +kernel
theorem dX8_isFarFrom_44 : decode cX8_isFarFrom 44 = .ok (.iconst 1, 1) := by decide +kernel
theorem dX8_isFarFrom_45 : decode cX8_isFarFrom 45 = .ok (.goto 4, 3) := by decide +kernel
theorem dX8_isFarFrom_48 : decode cX8_isFarFrom 48 = .ok (.iconst 0, 1) := by decide +kernel
theorem dX8_isFarFrom_49 : decode cX8_isFarFrom 49 = .ok (.ireturn, 1) := by decide +kernel
theorem dX8_why_0 : decode cX8_why 0 = .ok (.aload_n 0, 1) := by decide +kernel
theorem dX8_why_1 : decode cX8_why 1 = .ok (.iload_n 1, 1) := by decide +kernel
theorem dX8_why_2 : decode cX8_why 2 = .ok (.invokevirtual 150, 3) := by decide +kernel
theorem dX8_why_5 : decode cX8_why 5 = .ok (.ifCond .eq 24, 3) := by decide +kernel
theorem dX8_why_8 : decode cX8_why 8 = .ok (.aload_n 0, 1) := by decide +kernel
theorem dX8_why_9 : decode cX8_why 9 = .ok (.iload_n 2, 1) := by decide +kernel
theorem dX8_why_10 : decode cX8_why 10 = .ok (.invokevirtual 177, 3) := by decide +kernel
theorem dX8_why_13 : decode cX8_why 13 = .ok (.ifCond .eq 16, 3) := by decide +kernel
theorem dX8_why_16 : decode cX8_why 16 = .ok (.iload_n 3, 1) := by decide +kernel
theorem dX8_why_17 : decode cX8_why 17 = .ok (.aload_n 0, 1) := by decide +kernel
theorem dX8_why_18 : decode cX8_why 18 = .ok (.getfield 95, 3) := by decide +kernel
theorem dX8_why_21 : decode cX8_why 21 = .ok (.bipush 59, 2) := by decide +kernel
theorem dX8_why_23 : decode cX8_why 23 = .ok (.invokestatic 88, 3) := by decide +kernel
theorem dX8_why_26 : decode cX8_why 26 = .ok (.ifCond .ne 5, 3) := by decide +kernel
theorem dX8_why_29 : decode cX8_why 29 = .ok (.iconst 1, 1) := by decide +kernel
theorem dX8_why_30 : decode cX8_why 30 = .ok (.ireturn, 1) := by decide +kernel
theorem dX8_why_31 : decode cX8_why 31 = .ok (.aload_n 0, 1) := by decide +kernel
theorem dX8_why_32 : decode cX8_why 32 = .ok (.iload_n 1, 1) := by decide +kernel
theorem dX8_why_33 : decode cX8_why 33 = .ok (.iload_n 3, 1) := by decide +kernel
theorem dX8_why_34 : decode cX8_why 34 = .ok (.invokevirtual 173, 3) := by decide +kernel
theorem dX8_why_37 : decode cX8_why 37 = .ok (.iconst (-1), 1) := by decide +kernel
theorem dX8_why_38 : decode cX8_why 38 = .ok (.if_icmp .eq 5, 3) := by decide +kernel
theorem dX8_why_41 : decode cX8_why 41 = .ok (.iconst 2, 1) := by decide +kernel
theorem dX8_why_42 : decode cX8_why 42 = .ok (.ireturn, 1) := by decide +kernel
theorem dX8_why_43 : decode cX8_why 43 = .ok (.aload_n 0, 1) := by decide +kernel
theorem dX8_why_44 : decode cX8_why 44 = .ok (.iload_n 1, 1) := by decide +kernel
theorem dX8_why_45 : decode cX8_why 45 = .ok (.iload_n 2, 1) := by decide +kernel
theorem dX8_why_46 : decode cX8_why 46 = .ok (.iload_n 3, 1) := by decide +kernel
theorem dX8_why_47 : decode cX8_why 47 = .ok (.iconst 1, 1) := by decide +kernel
theorem dX8_why_48 : decode cX8_why 48 = .ok (.isub, 1) := by decide +kernel
theorem dX8_why_49 : decode cX8_why 49 = .ok (.invokevirtual 180, 3) := by decide +kernel
theorem dX8_why_52 : decode cX8_why 52 = .ok (.ifCond .ne 15, 3) := by decide +kernel
theorem dX8_why_55 : decode cX8_why 55 = .ok (.aload_n 0, 1) := by decide +kernel
theorem dX8_why_56 : decode cX8_why 56 = .ok (.iload_n 1, 1) := by decide +kernel
theorem dX8_why_57 : decode cX8_why 57 = .ok (.iload_n 2, 1) := by decide +kernel
theorem dX8_why_58 : decode cX8_why 58 = .ok (.iload_n 3, 1) := by decide +kernel
theorem dX8_why_59 : decode cX8_why 59 = .ok (.iconst 1, 1) := by decide +kernel
theorem dX8_why_60 : decode cX8_why 60 = .ok (.iadd, 1) := by decide +kernel
theorem dX8_why_61 : decode cX8_why 61 = .ok (.invokevirtual 180, 3) := by decide +kernel
theorem dX8_why_64 : decode cX8_why 64 = .ok (.ifCond .eq 5, 3) := by decide +kernel
theorem dX8_why_67 : decode cX8_why 67 = .ok (.iconst 3, 1) := by decide +kernel
theorem dX8_why_68 : decode cX8_why 68 = .ok (.ireturn, 1) := by decide +kernel
theorem dX8_why_69 : decode cX8_why 69 = .ok (.aload_n 0, 1) := by decide +kernel
theorem dX8_why_70 : decode cX8_why 70 = .ok (.iload_n 1, 1) := by decide +kernel
theorem dX8_why_71 : decode cX8_why 71 = .ok (.iload_n 3, 1) := by decide +kernel
theorem dX8_why_72 : decode cX8_why 72 = .ok (.aload_n 0, 1) := by decide +kernel
theorem dX8_why_73 : decode cX8_why 73 = .ok (.getfield 95, 3) := by decide +kernel
theorem dX8_why_76 : decode cX8_why 76 = .ok (.invokevirtual 163, 3) := by decide +kernel
theorem dX8_why_79 : decode cX8_why 79 = .ok (.istore 4, 2) := by decide +kernel
theorem dX8_why_81 : decode cX8_why 81 = .ok (.aload_n 0, 1) := by decide +kernel
theorem dX8_why_82 : decode cX8_why 82 = .ok (.iload 4, 2) := by decide +kernel
theorem dX8_why_84 : decode cX8_why 84 = .ok (.iconst 3, 1) := by decide +kernel
theorem dX8_why_85 : decode cX8_why 85 = .ok (.iload_n 2, 1) := by decide +kernel
theorem dX8_why_86 : decode cX8_why 86 = .ok (.invokevirtual 183, 3) := by decide +kernel
theorem dX8_why_89 : decode cX8_why 89 = .ok (.ifCond .eq 5, 3) := by decide +kernel
theorem dX8_why_92 : decode cX8_why 92 = .ok (.iconst 4, 1) := by decide +kernel
theorem dX8_why_93 : decode cX8_why 93 = .ok (.ireturn, 1) := by decide +kernel
theorem dX8_why_94 : decode cX8_why 94 = .ok (.iconst 0, 1) := by decide +kernel
theorem dX8_why_95 : decode cX8_why 95 = .ok (.istore 5, 2) := by decide +kernel
theorem dX8_why_97 : decode cX8_why 97 = .ok (.iconst 0, 1) := by decide +kernel
theorem dX8_why_98 : decode cX8_why 98 = .ok (.istore 6, 2) := by decide +kernel
theorem dX8_why_100 : decode cX8_why 100 = .ok (.iconst 0, 1) := by decide +kernel
theorem dX8_why_101 : decode cX8_why 101 = .ok (.istore 7, 2) := by decide +kernel
theorem dX8_why_103 : decode cX8_why 103 = .ok (.iconst 0, 1) := by decide +kernel
theorem dX8_why_104 : decode cX8_why 104 = .ok (.istore 8, 2) := by decide +kernel
theorem dX8_why_106 : decode cX8_why 106 = .ok (.iload 8, 2) := by decide +kernel
theorem dX8_why_108 : decode cX8_why 108 = .ok (.bipush 60, 2) := by decide +kernel
theorem dX8_why_110 : decode cX8_why 110 = .ok (.if_icmp .ge 122, 3) := by decide +kernel
theorem dX8_why_113 : decode cX8_why 113 = .ok (.aload_n 0, 1) := by decide +kernel
theorem dX8_why_114 : decode cX8_why 114 = .ok (.iload_n 1, 1) := by decide +kernel
theorem dX8_why_115 : decode cX8_why 115 = .ok (.iload 8, 2) := by decide +kernel
theorem dX8_why_117 : decode cX8_why 117 = .ok (.invokevirtual 173, 3) := by decide +kernel
theorem dX8_why_120 : decode cX8_why 120 = .ok (.istore 9, 2) := by decide +kernel
theorem dX8_why_122 : decode cX8_why 122 = .ok (.iload 9, 2) := by decide +kernel
theorem dX8_why_124 : decode cX8_why 124 = .ok (.iconst (-1), 1) := by decide +kernel
theorem dX8_why_125 : decode cX8_why 125 = .ok (.if_icmp .ne 6, 3) := by decide +kernel
theorem dX8_why_128 : decode cX8_why 128 = .ok (.goto 98, 3) := by decide +kernel
theorem dX8_why_131 : decode cX8_why 131 = .ok (.iload 8, 2) := by decide +kernel
theorem dX8_why_133 : decode cX8_why 133 = .ok (.iload_n 3, 1) := by decide +kernel
theorem dX8_why_134 : decode cX8_why 134 = .ok (.isub, 1) := by decide +kernel
theorem dX8_why_135 : decode cX8_why 135 = .ok (.invokestatic 167, 3) := by decide +kernel
theorem dX8_why_138 : decode cX8_why 138 = .ok (.istore 10, 2) := by decide +kernel
theorem dX8_why_140 : decode cX8_why 140 = .ok (.iload 5, 2) := by decide +kernel
theorem dX8_why_142 : decode cX8_why 142 = .ok (.ifCond .ne 17, 3) := by decide +kernel
theorem dX8_why_145 : decode cX8_why 145 = .ok (.aload_n 0, 1) := by decide +kernel
theorem dX8_why_146 : decode cX8_why 146 = .ok (.iload 4, 2) := by decide +kernel
theorem dX8_why_148 : decode cX8_why 148 = .ok (.iload_n 2, 1) := by decide +kernel
theorem dX8_why_149 : decode cX8_why 149 = .ok (.iload 9, 2) := by decide +kernel
theorem dX8_why_151 : decode cX8_why 151 = .ok (.iload 10, 2) := by decide +kernel
theorem dX8_why_153 : decode cX8_why 153 = .ok (.invokevirtual 186, 3) := by decide +kernel
theorem dX8_why_156 : decode cX8_why 156 = .ok (.ifCond .eq 7, 3) := by decide +kernel
theorem dX8_why_159 : decode cX8_why 159 = .ok (.iconst 1, 1) := by decide +kernel
theorem dX8_why_160 : decode cX8_why 160 = .ok (.goto 4, 3) := by decide +kernel
theorem dX8_why_163 : decode cX8_why 163 = .ok (.iconst 0, 1) := by decide +kernel
theorem dX8_why_164 : decode cX8_why 164 = .ok (.istore 5, 2) := by decide +kernel
theorem dX8_why_166 : decode cX8_why 166 = .ok (.iload 6, 2) := by decide +kernel
theorem dX8_why_168 : decode cX8_why 168 = .ok (.ifCond .ne 26, 3) := by decide +kernel
theorem dX8_why_171 : decode cX8_why 171 = .ok (.aload_n 0, 1) := by decide +kernel
theorem dX8_why_172 : decode cX8_why 172 = .ok (.aload_n 0, 1) := by decide +kernel
theorem dX8_why_173 : decode cX8_why 173 = .ok (.iload_n 1, 1) := by decide +kernel
theorem dX8_why_174 : decode cX8_why 174 = .ok (.iload 8, 2) := by decide +kernel
theorem dX8_why_176 : decode cX8_why 176 = .ok (.aload_n 0, 1) := by decide +kernel
theorem dX8_why_177 : decode cX8_why 177 = .ok (.getfield 95, 3) := by decide +kernel
theorem dX8_why_180 : decode cX8_why 180 = .ok (.invokevirtual 163, 3) := by decide +kernel
theorem dX8_why_183 : decode cX8_why 183 = .ok (.iload_n 2, 1) := by decide +kernel
theorem dX8_why_184 : decode cX8_why 184 = .ok (.iload 9, 2) := by decide +kernel
theorem dX8_why_186 : decode cX8_why 186 = .ok (.iload 10, 2) := by decide +kernel
theorem dX8_why_188 : decode cX8_why 188 = .ok (.invokevirtual 186, 3) := by decide +kernel
theorem dX8_why_191 : decode cX8_why 191 = .ok (.ifCond .eq 7, 3) := by decide +kernel
theorem dX8_why_194 : decode cX8_why 194 = .ok (.iconst 1, 1) := by decide +kernel
theorem dX8_why_195 : decode cX8_why 195 = .ok (.goto 4, 3) := by decide +kernel
theorem dX8_why_198 : decode cX8_why 198 = .ok (.iconst 0, 1) := by decide +kernel
theorem dX8_why_199 : decode cX8_why 199 = .ok (.istore 6, 2) := by decide +kernel
theorem dX8_why_201 : decode cX8_why 201 = .ok (.iload 7, 2) := by decide +kernel
theorem dX8_why_203 : decode cX8_why 203 = .ok (.ifCond .ne 16, 3) := by decide +kernel
theorem dX8_why_206 : decode cX8_why 206 = .ok (.iload 9, 2) := by decide +kernel
theorem dX8_why_208 : decode cX8_why 208 = .ok (.iload_n 2, 1) := by decide +kernel
theorem dX8_why_209 : decode cX8_why 209 = .ok (.if_icmp .ne 14, 3) := by decide +kernel
theorem dX8_why_212 : decode cX8_why 212 = .ok (.iload 10, 2) := by decide +kernel
theorem dX8_why_214 : decode cX8_why 214 = .ok (.bipush 8, 2) := by decide +kernel
theorem dX8_why_216 : decode cX8_why 216 = .ok (.if_icmp .ge 7, 3) := by decide +kernel
theorem dX8_why_219 : decode cX8_why 219 = .ok (.iconst 1, 1) := by decide +kernel
theorem dX8_why_220 : decode cX8_why 220 = .ok (.goto 4, 3) := by decide +kernel
theorem dX8_why_223 : decode cX8_why 223 = .ok (.iconst 0, 1) := by decide +kernel
theorem dX8_why_224 : decode cX8_why 224 = .ok (.istore 7, 2) := by decide +kernel
theorem dX8_why_226 : decode cX8_why 226 = .ok (.iinc 8 1, 3) := by decide +kernel
theorem dX8_why_229 : decode cX8_why 229 = .ok (.goto (-123), 3) := by decide +kernel
theorem dX8_why_232 : decode cX8_why 232 = .ok (.iload 5, 2) := by decide +kernel
theorem dX8_why_234 : decode cX8_why 234 = .ok (.ifCond .eq 5, 3) := by decide +kernel
theorem dX8_why_237 : decode cX8_why 237 = .ok (.iconst 5, 1) := by decide +kernel
theorem dX8_why_238 : decode cX8_why 238 = .ok (.ireturn, 1) := by decide +kernel
theorem dX8_why_239 : decode cX8_why 239 = .ok (.iload 6, 2) := by decide +kernel
theorem dX8_why_241 : decode cX8_why 241 = .ok (.ifCond .eq 6, 3) := by decide +kernel
theorem dX8_why_244 : decode cX8_why 244 = .ok (.bipush 6, 2) := by decide +kernel
theorem dX8_why_246 : decode cX8_why 246 = .ok (.ireturn, 1) := by decide +kernel
theorem dX8_why_247 : decode cX8_why 247 = .ok (.iconst 0, 1) := by decide +kernel
theorem dX8_why_248 : decode cX8_why 248 = .ok (.istore 8, 2) := by decide +kernel
theorem dX8_why_250 : decode cX8_why 250 = .ok (.iconst 0, 1) := by decide +kernel
theorem dX8_why_251 : decode cX8_why 251 = .ok (.istore 9, 2) := by decide +kernel
theorem dX8_why_253 : decode cX8_why 253 = .ok (.iconst 0, 1) := by decide +kernel
theorem dX8_why_254 : decode cX8_why 254 = .ok (.istore 10, 2) := by decide +kernel
theorem dX8_why_256 : decode cX8_why 256 = .ok (.aload_n 0, 1) := by decide +kernel
theorem dX8_why_257 : decode cX8_why 257 = .ok (.getfield 7, 3) := by decide +kernel
theorem dX8_why_260 : decode cX8_why 260 = .ok (.iload_n 1, 1) := by decide +kernel
theorem dX8_why_261 : decode cX8_why 261 = .ok (.iaload, 1) := by decide +kernel
theorem dX8_why_262 : decode cX8_why 262 = .ok (.istore 11, 2) := by decide +kernel
theorem dX8_why_264 : decode cX8_why 264 = .ok (.iconst 0, 1) := by decide +kernel
theorem dX8_why_265 : decode cX8_why 265 = .ok (.istore 12, 2) := by decide +kernel
theorem dX8_why_267 : decode cX8_why 267 = .ok (.iload 12, 2) := by decide +kernel
theorem dX8_why_269 : decode cX8_why 269 = .ok (.aload_n 0, 1) := by decide +kernel
theorem dX8_why_270 : decode cX8_why 270 = .ok (.getfield 85, 3) := by decide +kernel
theorem dX8_why_273 : decode cX8_why 273 = .ok (.if_icmp .ge 147, 3) := by decide +kernel
theorem dX8_why_276 : decode cX8_why 276 = .ok (.aload_n 0, 1) := by decide +kernel
theorem dX8_why_277 : decode cX8_why 277 = .ok (.iload 12, 2) := by decide +kernel
theorem dX8_why_279 : decode cX8_why 279 = .ok (.iload_n 3, 1) := by decide +kernel
theorem dX8_why_280 : decode cX8_why 280 = .ok (.invokevirtual 173, 3) := by decide +kernel
theorem dX8_why_283 : decode cX8_why 283 = .ok (.iload_n 2, 1) := by decide +kernel
theorem dX8_why_284 : decode cX8_why 284 = .ok (.if_icmp .eq 6, 3) := by decide +kernel
theorem dX8_why_287 : decode cX8_why 287 = .ok (.goto 127, 3) := by decide +kernel
theorem dX8_why_290 : decode cX8_why 290 = .ok (.iinc 10 1, 3) := by decide +kernel
theorem dX8_why_293 : decode cX8_why 293 = .ok (.iload 11, 2) := by decide +kernel
theorem dX8_why_295 : decode cX8_why 295 = .ok (.aload_n 0, 1) := by decide +kernel
theorem dX8_why_296 : decode cX8_why 296 = .ok (.getfield 7, 3) := by decide +kernel
theorem dX8_why_299 : decode cX8_why 299 = .ok (.iload 12, 2) := by decide +kernel
theorem dX8_why_301 : decode cX8_why 301 = .ok (.iaload, 1) := by decide +kernel
theorem dX8_why_302 : decode cX8_why 302 = .ok (.iadd, 1) := by decide +kernel
theorem dX8_why_303 : decode cX8_why 303 = .ok (.istore 11, 2) := by decide +kernel
theorem dX8_why_305 : decode cX8_why 305 = .ok (.iload 8, 2) := by decide +kernel
theorem dX8_why_307 : decode cX8_why 307 = .ok (.ifCond .ne 19, 3) := by decide +kernel
theorem dX8_why_310 : decode cX8_why 310 = .ok (.aload_n 0, 1) := by decide +kernel
theorem dX8_why_311 : decode cX8_why 311 = .ok (.getfield 16, 3) := by decide +kernel
theorem dX8_why_314 : decode cX8_why 314 = .ok (.iload 12, 2) := by decide +kernel
theorem dX8_why_316 : decode cX8_why 316 = .ok (.iaload, 1) := by decide +kernel
theorem dX8_why_317 : decode cX8_why 317 = .ok (.aload_n 0, 1) := by decide +kernel
theorem dX8_why_318 : decode cX8_why 318 = .ok (.getfield 16, 3) := by decide +kernel
theorem dX8_why_321 : decode cX8_why 321 = .ok (.iload_n 1, 1) := by decide +kernel
theorem dX8_why_322 : decode cX8_why 322 = .ok (.iaload, 1) := by decide +kernel
theorem dX8_why_323 : decode cX8_why 323 = .ok (.if_icmp .ne 7, 3) := by decide +kernel
theorem dX8_why_326 : decode cX8_why 326 = .ok (.iconst 1, 1) := by decide +kernel
theorem dX8_why_327 : decode cX8_why 327 = .ok (.goto 4, 3) := by decide +kernel
theorem dX8_why_330 : decode cX8_why 330 = .ok (.iconst 0, 1) := by decide +kernel
theorem dX8_why_331 : decode cX8_why 331 = .ok (.istore 8, 2) := by decide +kernel
theorem dX8_why_333 : decode cX8_why 333 = .ok (.aload_n 0, 1) := by decide +kernel
theorem dX8_why_334 : decode cX8_why 334 = .ok (.iload 12, 2) := by decide +kernel
theorem dX8_why_336 : decode cX8_why 336 = .ok (.iload_n 3, 1) := by decide +kernel
theorem dX8_why_337 : decode cX8_why 337 = .ok (.aload_n 0, 1) := by decide +kernel
theorem dX8_why_338 : decode cX8_why 338 = .ok (.getfield 95, 3) := by decide +kernel
theorem dX8_why_341 : decode cX8_why 341 = .ok (.invokevirtual 163, 3) := by decide +kernel
theorem dX8_why_344 : decode cX8_why 344 = .ok (.istore 13, 2) := by decide +kernel
theorem dX8_why_346 : decode cX8_why 346 = .ok (.iload 9, 2) := by decide +kernel
theorem dX8_why_348 : decode cX8_why 348 = .ok (.ifCond .ne 59, 3) := by decide +kernel
theorem dX8_why_351 : decode cX8_why 351 = .ok (.aload_n 0, 1) := by decide +kernel
theorem dX8_why_352 : decode cX8_why 352 = .ok (.iload 4, 2) := by decide +kernel
theorem dX8_why_354 : decode cX8_why 354 = .ok (.iconst 1, 1) := by decide +kernel
theorem dX8_why_355 : decode cX8_why 355 = .ok (.aload_n 0, 1) := by decide +kernel
theorem dX8_why_356 : decode cX8_why 356 = .ok (.getfield 16, 3) := by decide +kernel
theorem dX8_why_359 : decode cX8_why 359 = .ok (.iload 12, 2) := by decide +kernel
theorem dX8_why_361 : decode cX8_why 361 = .ok (.iaload, 1) := by decide +kernel
theorem dX8_why_362 : decode cX8_why 362 = .ok (.invokevirtual 183, 3) := by decide +kernel
theorem dX8_why_365 : decode cX8_why 365 = .ok (.ifCond .ne 42, 3) := by decide +kernel
theorem dX8_why_368 : decode cX8_why 368 = .ok (.aload_n 0, 1) := by decide +kernel
theorem dX8_why_369 : decode cX8_why 369 = .ok (.iload 4, 2) := by decide +kernel
theorem dX8_why_371 : decode cX8_why 371 = .ok (.iconst 2, 1) := by decide +kernel
theorem dX8_why_372 : decode cX8_why 372 = .ok (.iload 12, 2) := by decide +kernel
theorem dX8_why_374 : decode cX8_why 374 = .ok (.invokevirtual 183, 3) := by decide +kernel
theorem dX8_why_377 : decode cX8_why 377 = .ok (.ifCond .ne 30, 3) := by decide +kernel
theorem dX8_why_380 : decode cX8_why 380 = .ok (.aload_n 0, 1) := by decide +kernel
theorem dX8_why_381 : decode cX8_why 381 = .ok (.iload 13, 2) := by decide +kernel
theorem dX8_why_383 : decode cX8_why 383 = .ok (.iconst 1, 1) := by decide +kernel
theorem dX8_why_384 : decode cX8_why 384 = .ok (.aload_n 0, 1) := by decide +kernel
theorem dX8_why_385 : decode cX8_why 385 = .ok (.getfield 16, 3) := by decide +kernel
theorem dX8_why_388 : decode cX8_why 388 = .ok (.iload_n 1, 1) := by decide +kernel
theorem dX8_why_389 : decode cX8_why 389 = .ok (.iaload, 1) := by decide +kernel
theorem dX8_why_390 : decode cX8_why 390 = .ok (.invokevirtual 183, 3) := by decide +kernel
theorem dX8_why_393 : decode cX8_why 393 = .ok (.ifCond .ne 14, 3) := by decide +kernel
theorem dX8_why_396 : decode cX8_why 396 = .ok (.aload_n 0, 1) := by decide +kernel
theorem dX8_why_397 : decode cX8_why 397 = .ok (.iload 13, 2) := by decide +kernel
theorem dX8_why_399 : decode cX8_why 399 = .ok (.iconst 2, 1) := by decide +kernel
theorem dX8_why_400 : decode cX8_why 400 = .ok (.iload_n 1, 1) := by decide +kernel
theorem dX8_why_401 : decode cX8_why 401 = .ok (.invokevirtual 183, 3) := by decide +kernel
theorem dX8_why_404 : decode cX8_why 404 = .ok (.ifCond .eq 7, 3) := by decide +kernel
theorem dX8_why_407 : decode cX8_why 407 = .ok (.iconst 1, 1) := by decide +kernel
theorem dX8_why_408 : decode cX8_why 408 = .ok (.goto 4, 3) := by decide +kernel
theorem dX8_why_411 : decode cX8_why 411 = .ok (.iconst 0, 1) := by decide +kernel
theorem dX8_why_412 : decode cX8_why 412 = .ok (.istore 9, 2) := by decide +kernel
theorem dX8_why_414 : decode cX8_why 414 = .ok (.iinc 12 1, 3) := by decide +kernel
theorem dX8_why_417 : decode cX8_why 417 = .ok (.goto (-150), 3) := by decide +kernel
theorem dX8_why_420 : decode cX8_why 420 = .ok (.iload 8, 2) := by decide +kernel
theorem dX8_why_422 : decode cX8_why 422 = .ok (.ifCond .eq 8, 3) := by decide +kernel
theorem dX8_why_425 : decode cX8_why 425 = .ok (.bipush 7, 2) := by decide +kernel
theorem dX8_why_427 : decode cX8_why 427 = .ok (.goto 52, 3) := by decide +kernel
theorem dX8_why_430 : decode cX8_why 430 = .ok (.iload 9, 2) := by decide +kernel
theorem dX8_why_432 : decode cX8_why 432 = .ok (.ifCond .eq 8, 3) := by decide +kernel
theorem dX8_why_435 : decode cX8_why 435 = .ok (.bipush 8, 2) := by decide +kernel
theorem dX8_why_437 : decode cX8_why 437 = .ok (.goto 42, 3) := by decide +kernel
theorem dX8_why_440 : decode cX8_why 440 = .ok (.iload 7, 2) := by decide +kernel
theorem dX8_why_442 : decode cX8_why 442 = .ok (.ifCond .eq 8, 3) := by decide +kernel
theorem dX8_why_445 : decode cX8_why 445 = .ok (.bipush 9, 2) := by decide +kernel
theorem dX8_why_447 : decode cX8_why 447 = .ok (.goto 32, 3) := by decide +kernel
theorem dX8_why_450 : decode cX8_why 450 = .ok (.iload 10, 2) := by decide +kernel
theorem dX8_why_452 : decode cX8_why 452 = .ok (.bipush 9, 2) := by decide +kernel
theorem dX8_why_454 : decode cX8_why 454 = .ok (.if_icmp .ne 8, 3) := by decide +kernel
theorem dX8_why_457 : decode cX8_why 457 = .ok (.bipush 10, 2) := by decide +kernel
theorem dX8_why_459 : decode cX8_why 459 = .ok (.goto 20, 3) := by decide +kernel
theorem dX8_why_462 : decode cX8_why 462 = .ok (.iload 11, 2) := by decide +kernel
theorem dX8_why_464 : decode cX8_why 464 = .ok (.aload_n 0, 1) := by decide +kernel
theorem dX8_why_465 : decode cX8_why 465 = .ok (.getfield 35, 3) := by decide +kernel
theorem dX8_why_468 : decode cX8_why 468 = .ok (.iload_n 2, 1) := by decide +kernel
theorem dX8_why_469 : decode cX8_why 469 = .ok (.iaload, 1) := by decide +kernel
theorem dX8_why_470 : decode cX8_why 470 = .ok (.if_icmp .le 8, 3) := by decide +kernel
theorem dX8_why_473 : decode cX8_why 473 = .ok (.bipush 11, 2) := by decide +kernel
theorem dX8_why_475 : decode cX8_why 475 = .ok (.goto 4, 3) := by decide +kernel
theorem dX8_why_478 : decode cX8_why 478 = .ok (.iconst 0, 1) := by decide +kernel
theorem dX8_why_479 : decode cX8_why 479 = .ok (.ireturn, 1) := by decide +kernel
theorem dX8_many_0 : decode cX8_many 0 = .ok (.iconst 0, 1) := by decide +kernel
theorem dX8_many_1 : decode cX8_many 1 = .ok (.istore_n 3, 1) := by decide +kernel
theorem dX8_many_2 : decode cX8_many 2 = .ok (.iconst 0, 1) := by decide +kernel
theorem dX8_many_3 : decode cX8_many 3 = .ok (.istore 4, 2) := by decide +kernel
theorem dX8_many_5 : decode cX8_many 5 = .ok (.iload 4, 2) := by decide +kernel
theorem dX8_many_7 : decode cX8_many 7 = .ok (.aload_n 0, 1) := by decide +kernel
theorem dX8_many_8 : decode cX8_many 8 = .ok (.getfield 85, 3) := by decide +kernel
theorem dX8_many_11 : decode cX8_many 11 = .ok (.if_icmp .ge 31, 3) := by decide +kernel
theorem dX8_many_14 : decode cX8_many 14 = .ok (.iload_n 3, 1) := by decide +kernel
theorem dX8_many_15 : decode cX8_many 15 = .ok (.aload_n 0, 1) := by decide +kernel
theorem dX8_many_16 : decode cX8_many 16 = .ok (.iload 4, 2) := by decide +kernel
theorem dX8_many_18 : decode cX8_many 18 = .ok (.iload_n 2, 1) := by decide +kernel
theorem dX8_many_19 : decode cX8_many 19 = .ok (.invokevirtual 173, 3) := by decide +kernel
theorem dX8_many_22 : decode cX8_many 22 = .ok (.iload_n 1, 1) := by decide +kernel
theorem dX8_many_23 : decode cX8_many 23 = .ok (.if_icmp .ne 7, 3) := by decide +kernel
theorem dX8_many_26 : decode cX8_many 26 = .ok (.iconst 1, 1) := by decide +kernel
theorem dX8_many_27 : decode cX8_many 27 = .ok (.goto 4, 3) := by decide +kernel
theorem dX8_many_30 : decode cX8_many 30 = .ok (.iconst 0, 1) := by decide +kernel
theorem dX8_many_31 : decode cX8_many 31 = .ok (.invokestatic 190, 3) := by decide +kernel
theorem dX8_many_34 : decode cX8_many 34 = .ok (.iadd, 1) := by decide +kernel
theorem dX8_many_35 : decode cX8_many 35 = .ok (.istore_n 3, 1) := by decide +kernel
theorem dX8_many_36 : decode cX8_many 36 = .ok (.iinc 4 1, 3) := by decide +kernel
theorem dX8_many_39 : decode cX8_many 39 = .ok (.goto (-34), 3) := by decide +kernel
theorem dX8_many_42 : decode cX8_many 42 = .ok (.iload_n 3, 1) := by decide +kernel
theorem dX8_many_43 : decode cX8_many 43 = .ok (.ireturn, 1) := by decide +kernel
theorem dX8_book_0 : decode cX8_book 0 = .ok (.aload_n 0, 1) := by decide +kernel
theorem dX8_book_1 : decode cX8_book 1 = .ok (.iload_n 1, 1) := by decide +kernel
theorem dX8_book_2 : decode cX8_book 2 = .ok (.iload_n 2, 1) := by decide +kernel
theorem dX8_book_3 : decode cX8_book 3 = .ok (.iload_n 3, 1) := by decide +kernel
theorem dX8_book_4 : decode cX8_book 4 = .ok (.invokevirtual 194, 3) := by decide +kernel
theorem dX8_book_7 : decode cX8_book 7 = .ok (.ifCond .ne 13, 3) := by decide +kernel
theorem dX8_book_10 : decode cX8_book 10 = .ok (.aload_n 0, 1) := by decide +kernel
theorem dX8_book_11 : decode cX8_book 11 = .ok (.getfield 197, 3) := by decide +kernel
theorem dX8_book_14 : decode cX8_book 14 = .ok (.sipush 400, 3) := by decide +kernel
theorem dX8_book_17 : decode cX8_book 17 = .ok (.if_icmp .ne 5, 3) := by decide +kernel
theorem dX8_book_20 : decode cX8_book 20 = .ok (.iconst (-1), 1) := by decide +kernel
theorem dX8_book_21 : decode cX8_book 21 = .ok (.ireturn, 1) := by decide +kernel
theorem dX8_book_22 : decode cX8_book 22 = .ok (.aload_n 0, 1) := by decide +kernel
theorem dX8_book_23 : decode cX8_book 23 = .ok (.getfield 38, 3) := by decide +kernel
theorem dX8_book_26 : decode cX8_book 26 = .ok (.bipush 60, 2) := by decide +kernel
theorem dX8_book_28 : decode cX8_book 28 = .ok (.iload_n 1, 1) := by decide +kernel
theorem dX8_book_29 : decode cX8_book 29 = .ok (.imul, 1) := by decide +kernel
theorem dX8_book_30 : decode cX8_book 30 = .ok (.iload_n 3, 1) := by decide +kernel
theorem dX8_book_31 : decode cX8_book 31 = .ok (.iadd, 1) := by decide +kernel
theorem dX8_book_32 : decode cX8_book 32 = .ok (.iload_n 2, 1) := by decide +kernel
theorem dX8_book_33 : decode cX8_book 33 = .ok (.iastore, 1) := by decide +kernel
theorem dX8_book_34 : decode cX8_book 34 = .ok (.aload_n 0, 1) := by decide +kernel
theorem dX8_book_35 : decode cX8_book 35 = .ok (.dup, 1) := by decide +kernel
theorem dX8_book_36 : decode cX8_book 36 = .ok (.getfield 197, 3) := by decide +kernel
theorem dX8_book_39 : decode cX8_book 39 = .ok (.iconst 1, 1) := by decide +kernel
theorem dX8_book_40 : decode cX8_book 40 = .ok (.iadd, 1) := by decide +kernel
theorem dX8_book_41 : decode cX8_book 41 = .ok (.putfield 197, 3) := by decide +kernel
theorem dX8_book_44 : decode cX8_book 44 = .ok (.aload_n 0, 1) := by decide +kernel
theorem dX8_book_45 : decode cX8_book 45 = .ok (.iload_n 2, 1) := by decide +kernel
theorem dX8_book_46 : decode cX8_book 46 = .ok (.iload_n 3, 1) := by decide +kernel
theorem dX8_book_47 : decode cX8_book 47 = .ok (.invokevirtual 200, 3) := by decide +kernel
theorem dX8_book_50 : decode cX8_book 50 = .ok (.ireturn, 1) := by decide +kernel
theorem dX8_isBooked_0 : decode cX8_isBooked 0 = .ok (.aload_n 0, 1) := by decide +kernel
theorem dX8_isBooked_1 : decode cX8_isBooked 1 = .ok (.iload_n 1, 1) := by decide +kernel
theorem dX8_isBooked_2 : decode cX8_isBooked 2 = .ok (.invokevirtual 150, 3) := by decide +kernel
theorem dX8_isBooked_5 : decode cX8_isBooked 5 = .ok (.ifCond .eq 30, 3) := by decide +kernel
theorem dX8_isBooked_8 : decode cX8_isBooked 8 = .ok (.iload_n 2, 1) := by decide +kernel
theorem dX8_isBooked_9 : decode cX8_isBooked 9 = .ok (.aload_n 0, 1) := by decide +kernel
theorem dX8_isBooked_10 : decode cX8_isBooked 10 = .ok (.getfield 95, 3) := by decide +kernel
theorem dX8_isBooked_13 : decode cX8_isBooked 13 = .ok (.bipush 59, 2) := by decide +kernel
theorem dX8_isBooked_15 : decode cX8_isBooked 15 = .ok (.invokestatic 88, 3) := by decide +kernel
theorem dX8_isBooked_18 : decode cX8_isBooked 18 = .ok (.ifCond .eq 17, 3) := by decide +kernel
theorem dX8_isBooked_21 : decode cX8_isBooked 21 = .ok (.aload_n 0, 1) := by decide +kernel
theorem dX8_isBooked_22 : decode cX8_isBooked 22 = .ok (.iload_n 1, 1) := by decide +kernel
theorem dX8_isBooked_23 : decode cX8_isBooked 23 = .ok (.iload_n 2, 1) := by decide +kernel
theorem dX8_isBooked_24 : decode cX8_isBooked 24 = .ok (.invokevirtual 173, 3) := by decide +kernel
theorem dX8_isBooked_27 : decode cX8_isBooked 27 = .ok (.iconst (-1), 1) := by decide +kernel
theorem dX8_isBooked_28 : decode cX8_isBooked 28 = .ok (.if_icmp .eq 7, 3) := by decide +kernel
theorem dX8_isBooked_31 : decode cX8_isBooked 31 = .ok (.iconst 1, 1) := by decide +kernel
theorem dX8_isBooked_32 : decode cX8_isBooked 32 = .ok (.goto 4, 3) := by decide +kernel
theorem dX8_isBooked_35 : decode cX8_isBooked 35 = .ok (.iconst 0, 1) := by decide +kernel
theorem dX8_isBooked_36 : decode cX8_isBooked 36 = .ok (.ireturn, 1) := by decide +kernel
theorem dX8_cancel_0 : decode cX8_cancel 0 = .ok (.aload_n 0, 1) := by decide +kernel
theorem dX8_cancel_1 : decode cX8_cancel 1 = .ok (.iload_n 1, 1) := by decide +kernel
theorem dX8_cancel_2 : decode cX8_cancel 2 = .ok (.iload_n 2, 1) := by decide +kernel
theorem dX8_cancel_3 : decode cX8_cancel 3 = .ok (.invokevirtual 203, 3) := by decide +kernel
theorem dX8_cancel_6 : decode cX8_cancel 6 = .ok (.ifCond .ne 5, 3) := by decide +kernel
theorem dX8_cancel_9 : decode cX8_cancel 9 = .ok (.iconst 0, 1) := by decide +kernel
theorem dX8_cancel_10 : decode cX8_cancel 10 = .ok (.ireturn, 1) := by decide +kernel
theorem dX8_cancel_11 : decode cX8_cancel 11 = .ok (.aload_n 0, 1) := by decide +kernel
theorem dX8_cancel_12 : decode cX8_cancel 12 = .ok (.getfield 38, 3) := by decide +kernel
theorem dX8_cancel_15 : decode cX8_cancel 15 = .ok (.bipush 60, 2) := by decide +kernel
theorem dX8_cancel_17 : decode cX8_cancel 17 = .ok (.iload_n 1, 1) := by decide +kernel
theorem dX8_cancel_18 : decode cX8_cancel 18 = .ok (.imul, 1) := by decide +kernel
theorem dX8_cancel_19 : decode cX8_cancel 19 = .ok (.iload_n 2, 1) := by decide +kernel
theorem dX8_cancel_20 : decode cX8_cancel 20 = .ok (.iadd, 1) := by decide +kernel
theorem dX8_cancel_21 : decode cX8_cancel 21 = .ok (.iconst (-1), 1) := by decide +kernel
theorem dX8_cancel_22 : decode cX8_cancel 22 = .ok (.iastore, 1) := by decide +kernel
theorem dX8_cancel_23 : decode cX8_cancel 23 = .ok (.aload_n 0, 1) := by decide +kernel
theorem dX8_cancel_24 : decode cX8_cancel 24 = .ok (.dup, 1) := by decide +kernel
theorem dX8_cancel_25 : decode cX8_cancel 25 = .ok (.getfield 197, 3) := by decide +kernel
theorem dX8_cancel_28 : decode cX8_cancel 28 = .ok (.iconst 1, 1) := by decide +kernel
theorem dX8_cancel_29 : decode cX8_cancel 29 = .ok (.isub, 1) := by decide +kernel
theorem dX8_cancel_30 : decode cX8_cancel 30 = .ok (.putfield 197, 3) := by decide +kernel
theorem dX8_cancel_33 : decode cX8_cancel 33 = .ok (.iconst 1, 1) := by decide +kernel
theorem dX8_cancel_34 : decode cX8_cancel 34 = .ok (.ireturn, 1) := by decide +kernel
theorem dX8_where_0 : decode cX8_where 0 = .ok (.aload_n 0, 1) := by decide +kernel
theorem dX8_where_1 : decode cX8_where 1 = .ok (.iload_n 1, 1) := by decide +kernel
theorem dX8_where_2 : decode cX8_where 2 = .ok (.invokevirtual 150, 3) := by decide +kernel
theorem dX8_where_5 : decode cX8_where 5 = .ok (.ifCond .eq 19, 3) := by decide +kernel
theorem dX8_where_8 : decode cX8_where 8 = .ok (.iload_n 2, 1) := by decide +kernel
theorem dX8_where_9 : decode cX8_where 9 = .ok (.invokestatic 154, 3) := by decide +kernel
theorem dX8_where_12 : decode cX8_where 12 = .ok (.ifCond .eq 12, 3) := by decide +kernel
theorem dX8_where_15 : decode cX8_where 15 = .ok (.aload_n 0, 1) := by decide +kernel
theorem dX8_where_16 : decode cX8_where 16 = .ok (.iload_n 1, 1) := by decide +kernel
theorem dX8_where_17 : decode cX8_where 17 = .ok (.iload_n 2, 1) := by decide +kernel
theorem dX8_where_18 : decode cX8_where 18 = .ok (.invokevirtual 173, 3) := by decide +kernel
theorem dX8_where_21 : decode cX8_where 21 = .ok (.goto 4, 3) := by decide +kernel
theorem dX8_where_24 : decode cX8_where 24 = .ok (.iconst (-1), 1) := by decide +kernel
theorem dX8_where_25 : decode cX8_where 25 = .ok (.ireturn, 1) := by decide +kernel
theorem dX8_bill_0 : decode cX8_bill 0 = .ok (.aload_n 0, 1) := by decide +kernel
theorem dX8_bill_1 : decode cX8_bill 1 = .ok (.iload_n 1, 1) := by decide +kernel
theorem dX8_bill_2 : decode cX8_bill 2 = .ok (.invokevirtual 177, 3) := by decide +kernel
theorem dX8_bill_5 : decode cX8_bill 5 = .ok (.ifCond .eq 14, 3) := by decide +kernel
theorem dX8_bill_8 : decode cX8_bill 8 = .ok (.iload_n 2, 1) := by decide +kernel
theorem dX8_bill_9 : decode cX8_bill 9 = .ok (.invokestatic 154, 3) := by decide +kernel
theorem dX8_bill_12 : decode cX8_bill 12 = .ok (.ifCond .eq 7, 3) := by decide +kernel
theorem dX8_bill_15 : decode cX8_bill 15 = .ok (.iload_n 3, 1) := by decide +kernel
theorem dX8_bill_16 : decode cX8_bill 16 = .ok (.ifCond .ge 5, 3) := by decide +kernel
theorem dX8_bill_19 : decode cX8_bill 19 = .ok (.iconst (-1), 1) := by decide +kernel
theorem dX8_bill_20 : decode cX8_bill 20 = .ok (.ireturn, 1) := by decide +kernel
theorem dX8_bill_21 : decode cX8_bill 21 = .ok (.iconst 0, 1) := by decide +kernel
theorem dX8_bill_22 : decode cX8_bill 22 = .ok (.istore 4, 2) := by decide +kernel
theorem dX8_bill_24 : decode cX8_bill 24 = .ok (.iconst 0, 1) := by decide +kernel
theorem dX8_bill_25 : decode cX8_bill 25 = .ok (.istore 5, 2) := by decide +kernel
theorem dX8_bill_27 : decode cX8_bill 27 = .ok (.bipush 40, 2) := by decide +kernel
theorem dX8_bill_29 : decode cX8_bill 29 = .ok (.istore 6, 2) := by decide +kernel
theorem dX8_bill_31 : decode cX8_bill 31 = .ok (.iconst 0, 1) := by decide +kernel
theorem dX8_bill_32 : decode cX8_bill 32 = .ok (.istore 7, 2) := by decide +kernel
theorem dX8_bill_34 : decode cX8_bill 34 = .ok (.iconst 0, 1) := by decide +kernel
theorem dX8_bill_35 : decode cX8_bill 35 = .ok (.istore 8, 2) := by decide +kernel
theorem dX8_bill_37 : decode cX8_bill 37 = .ok (.iconst 0, 1) := by decide +kernel
theorem dX8_bill_38 : decode cX8_bill 38 = .ok (.istore 9, 2) := by decide +kernel
theorem dX8_bill_40 : decode cX8_bill 40 = .ok (.iload 9, 2) := by decide +kernel
theorem dX8_bill_42 : decode cX8_bill 42 = .ok (.aload_n 0, 1) := by decide +kernel
theorem dX8_bill_43 : decode cX8_bill 43 = .ok (.getfield 85, 3) := by decide +kernel
theorem dX8_bill_46 : decode cX8_bill 46 = .ok (.if_icmp .ge 100, 3) := by decide +kernel
theorem dX8_bill_49 : decode cX8_bill 49 = .ok (.aload_n 0, 1) := by decide +kernel
theorem dX8_bill_50 : decode cX8_bill 50 = .ok (.iload 9, 2) := by decide +kernel
theorem dX8_bill_52 : decode cX8_bill 52 = .ok (.iload_n 2, 1) := by decide +kernel
theorem dX8_bill_53 : decode cX8_bill 53 = .ok (.invokevirtual 173, 3) := by decide +kernel
theorem dX8_bill_56 : decode cX8_bill 56 = .ok (.iload_n 1, 1) := by decide +kernel
theorem dX8_bill_57 : decode cX8_bill 57 = .ok (.if_icmp .eq 6, 3) := by decide +kernel
theorem dX8_bill_60 : decode cX8_bill 60 = .ok (.goto 80, 3) := by decide +kernel
theorem dX8_bill_63 : decode cX8_bill 63 = .ok (.iload_n 3, 1) := by decide +kernel
theorem dX8_bill_64 : decode cX8_bill 64 = .ok (.bipush 10, 2) := by decide +kernel
theorem dX8_bill_66 : decode cX8_bill 66 = .ok (.iload 4, 2) := by decide +kernel
theorem dX8_bill_68 : decode cX8_bill 68 = .ok (.iadd, 1) := by decide +kernel
theorem dX8_bill_69 : decode cX8_bill 69 = .ok (.if_icmp .ne 6, 3) := by decide +kernel
theorem dX8_bill_72 : decode cX8_bill 72 = .ok (.iload 9, 2) := by decide +kernel
theorem dX8_bill_74 : decode cX8_bill 74 = .ok (.ireturn, 1) := by decide +kernel
theorem dX8_bill_75 : decode cX8_bill 75 = .ok (.iinc 4 1, 3) := by decide +kernel
theorem dX8_bill_78 : decode cX8_bill 78 = .ok (.iload 5, 2) := by decide +kernel
theorem dX8_bill_80 : decode cX8_bill 80 = .ok (.aload_n 0, 1) := by decide +kernel
theorem dX8_bill_81 : decode cX8_bill 81 = .ok (.getfield 7, 3) := by decide +kernel
theorem dX8_bill_84 : decode cX8_bill 84 = .ok (.iload 9, 2) := by decide +kernel
theorem dX8_bill_86 : decode cX8_bill 86 = .ok (.iaload, 1) := by decide +kernel
theorem dX8_bill_87 : decode cX8_bill 87 = .ok (.iadd, 1) := by decide +kernel
theorem dX8_bill_88 : decode cX8_bill 88 = .ok (.istore 5, 2) := by decide +kernel
theorem dX8_bill_90 : decode cX8_bill 90 = .ok (.iload 7, 2) := by decide +kernel
theorem dX8_bill_92 : decode cX8_bill 92 = .ok (.aload_n 0, 1) := by decide +kernel
theorem dX8_bill_93 : decode cX8_bill 93 = .ok (.aload_n 0, 1) := by decide +kernel
theorem dX8_bill_94 : decode cX8_bill 94 = .ok (.iload 9, 2) := by decide +kernel
theorem dX8_bill_96 : decode cX8_bill 96 = .ok (.iload_n 2, 1) := by decide +kernel
theorem dX8_bill_97 : decode cX8_bill 97 = .ok (.aload_n 0, 1) := by decide +kernel
theorem dX8_bill_98 : decode cX8_bill 98 = .ok (.getfield 95, 3) := by decide +kernel
theorem dX8_bill_101 : decode cX8_bill 101 = .ok (.invokevirtual 163, 3) := by decide +kernel
theorem dX8_bill_104 : decode cX8_bill 104 = .ok (.iconst 4, 1) := by decide +kernel
theorem dX8_bill_105 : decode cX8_bill 105 = .ok (.invokevirtual 207, 3) := by decide +kernel
theorem dX8_bill_108 : decode cX8_bill 108 = .ok (.iadd, 1) := by decide +kernel
theorem dX8_bill_109 : decode cX8_bill 109 = .ok (.istore 7, 2) := by decide +kernel
theorem dX8_bill_111 : decode cX8_bill 111 = .ok (.aload_n 0, 1) := by decide +kernel
theorem dX8_bill_112 : decode cX8_bill 112 = .ok (.getfield 13, 3) := by decide +kernel
theorem dX8_bill_115 : decode cX8_bill 115 = .ok (.iload 9, 2) := by decide +kernel
theorem dX8_bill_117 : decode cX8_bill 117 = .ok (.iaload, 1) := by decide +kernel
theorem dX8_bill_118 : decode cX8_bill 118 = .ok (.iconst 1, 1) := by decide +kernel
theorem dX8_bill_119 : decode cX8_bill 119 = .ok (.if_icmp .eq 6, 3) := by decide +kernel
theorem dX8_bill_122 : decode cX8_bill 122 = .ok (.goto 18, 3) := by decide +kernel
theorem dX8_bill_125 : decode cX8_bill 125 = .ok (.iinc 8 1, 3) := by decide +kernel
theorem dX8_bill_128 : decode cX8_bill 128 = .ok (.iload 6, 2) := by decide +kernel
theorem dX8_bill_130 : decode cX8_bill 130 = .ok (.aload_n 0, 1) := by decide +kernel
theorem dX8_bill_131 : decode cX8_bill 131 = .ok (.getfield 19, 3) := by decide +kernel
theorem dX8_bill_134 : decode cX8_bill 134 = .ok (.iload 9, 2) := by decide +kernel
theorem dX8_bill_136 : decode cX8_bill 136 = .ok (.iaload, 1) := by decide +kernel
theorem dX8_bill_137 : decode cX8_bill 137 = .ok (.iadd, 1) := by decide +kernel
theorem dX8_bill_138 : decode cX8_bill 138 = .ok (.istore 6, 2) := by decide +kernel
theorem dX8_bill_140 : decode cX8_bill 140 = .ok (.iinc 9 1, 3) := by decide +kernel
theorem dX8_bill_143 : decode cX8_bill 143 = .ok (.goto (-103), 3) := by decide +kernel
theorem dX8_bill_146 : decode cX8_bill 146 = .ok (.iload_n 3, 1) := by decide +kernel
theorem dX8_bill_147 : decode cX8_bill 147 = .ok (.ifCond .ne 8, 3) := by decide +kernel
theorem dX8_bill_150 : decode cX8_bill 150 = .ok (.iload 4, 2) := by decide +kernel
theorem dX8_bill_152 : decode cX8_bill 152 = .ok (.goto 59, 3) := by decide +kernel
theorem dX8_bill_155 : decode cX8_bill 155 = .ok (.iload_n 3, 1) := by decide +kernel
theorem dX8_bill_156 : decode cX8_bill 156 = .ok (.iconst 1, 1) := by decide +kernel
theorem dX8_bill_157 : decode cX8_bill 157 = .ok (.if_icmp .ne 8, 3) := by decide +kernel
theorem dX8_bill_160 : decode cX8_bill 160 = .ok (.iload 5, 2) := by decide +kernel
theorem dX8_bill_162 : decode cX8_bill 162 = .ok (.goto 49, 3) := by decide +kernel
theorem dX8_bill_165 : decode cX8_bill 165 = .ok (.iload_n 3, 1) := by decide +kernel
theorem dX8_bill_166 : decode cX8_bill 166 = .ok (.iconst 2, 1) := by decide +kernel
theorem dX8_bill_167 : decode cX8_bill 167 = .ok (.if_icmp .ne 23, 3) := by decide +kernel
theorem dX8_bill_170 : decode cX8_bill 170 = .ok (.aload_n 0, 1) := by decide +kernel
theorem dX8_bill_171 : decode cX8_bill 171 = .ok (.getfield 32, 3) := by decide +kernel
theorem dX8_bill_174 : decode cX8_bill 174 = .ok (.iload_n 1, 1) := by decide +kernel
theorem dX8_bill_175 : decode cX8_bill 175 = .ok (.iaload, 1) := by decide +kernel
theorem dX8_bill_176 : decode cX8_bill 176 = .ok (.bipush 100, 2) := by decide +kernel
theorem dX8_bill_178 : decode cX8_bill 178 = .ok (.iload 6, 2) := by decide +kernel
theorem dX8_bill_180 : decode cX8_bill 180 = .ok (.invokestatic 210, 3) := by decide +kernel
theorem dX8_bill_183 : decode cX8_bill 183 = .ok (.imul, 1) := by decide +kernel
theorem dX8_bill_184 : decode cX8_bill 184 = .ok (.bipush 100, 2) := by decide +kernel
theorem dX8_bill_186 : decode cX8_bill 186 = .ok (.idiv, 1) := by decide +kernel
theorem dX8_bill_187 : decode cX8_bill 187 = .ok (.goto 24, 3) := by decide +kernel
theorem dX8_bill_190 : decode cX8_bill 190 = .ok (.iload_n 3, 1) := by decide +kernel
theorem dX8_bill_191 : decode cX8_bill 191 = .ok (.iconst 3, 1) := by decide +kernel
theorem dX8_bill_192 : decode cX8_bill 192 = .ok (.if_icmp .ne 8, 3) := by decide +kernel
theorem dX8_bill_195 : decode cX8_bill 195 = .ok (.iload 7, 2) := by decide +kernel
theorem dX8_bill_197 : decode cX8_bill 197 = .ok (.goto 14, 3) := by decide +kernel
theorem dX8_bill_200 : decode cX8_bill 200 = .ok (.iload_n 3, 1) := by decide +kernel
theorem dX8_bill_201 : decode cX8_bill 201 = .ok (.iconst 4, 1) := by decide +kernel
theorem dX8_bill_202 : decode cX8_bill 202 = .ok (.if_icmp .ne 8, 3) := by decide +kernel
theorem dX8_bill_205 : decode cX8_bill 205 = .ok (.iload 8, 2) := by decide +kernel
theorem dX8_bill_207 : decode cX8_bill 207 = .ok (.goto 4, 3) := by decide +kernel
theorem dX8_bill_210 : decode cX8_bill 210 = .ok (.iconst (-1), 1) := by decide +kernel
theorem dX8_bill_211 : decode cX8_bill 211 = .ok (.ireturn, 1) := by decide +kernel
theorem dX8_mayLie_0 : decode cX8_mayLie 0 = .ok (.aload_n 0, 1) := by decide +kernel
theorem dX8_mayLie_1 : decode cX8_mayLie 1 = .ok (.getfield 73, 3) := by decide +kernel
theorem dX8_mayLie_4 : decode cX8_mayLie 4 = .ok (.iload_n 1, 1) := by decide +kernel
theorem dX8_mayLie_5 : decode cX8_mayLie 5 = .ok (.iaload, 1) := by decide +kernel
theorem dX8_mayLie_6 : decode cX8_mayLie 6 = .ok (.istore 4, 2) := by decide +kernel
theorem dX8_mayLie_8 : decode cX8_mayLie 8 = .ok (.aload_n 0, 1) := by decide +kernel
theorem dX8_mayLie_9 : decode cX8_mayLie 9 = .ok (.getfield 13, 3) := by decide +kernel
theorem dX8_mayLie_12 : decode cX8_mayLie 12 = .ok (.iload 4, 2) := by decide +kernel
theorem dX8_mayLie_14 : decode cX8_mayLie 14 = .ok (.iaload, 1) := by decide +kernel
theorem dX8_mayLie_15 : decode cX8_mayLie 15 = .ok (.iconst 2, 1) := by decide +kernel
theorem dX8_mayLie_16 : decode cX8_mayLie 16 = .ok (.if_icmp .ne 19, 3) := by decide +kernel
theorem dX8_mayLie_19 : decode cX8_mayLie 19 = .ok (.iload_n 2, 1) := by decide +kernel
theorem dX8_mayLie_20 : decode cX8_mayLie 20 = .ok (.ifCond .le 15, 3) := by decide +kernel
theorem dX8_mayLie_23 : decode cX8_mayLie 23 = .ok (.iload_n 2, 1) := by decide +kernel
theorem dX8_mayLie_24 : decode cX8_mayLie 24 = .ok (.aload_n 0, 1) := by decide +kernel
theorem dX8_mayLie_25 : decode cX8_mayLie 25 = .ok (.getfield 213, 3) := by decide +kernel
theorem dX8_mayLie_28 : decode cX8_mayLie 28 = .ok (.iconst 1, 1) := by decide +kernel
theorem dX8_mayLie_29 : decode cX8_mayLie 29 = .ok (.isub, 1) := by decide +kernel
theorem dX8_mayLie_30 : decode cX8_mayLie 30 = .ok (.if_icmp .ge 5, 3) := by decide +kernel
theorem dX8_mayLie_33 : decode cX8_mayLie 33 = .ok (.iconst 0, 1) := by decide +kernel
theorem dX8_mayLie_34 : decode cX8_mayLie 34 = .ok (.ireturn, 1) := by decide +kernel
theorem dX8_mayLie_35 : decode cX8_mayLie 35 = .ok (.aload_n 0, 1) := by decide +kernel
theorem dX8_mayLie_36 : decode cX8_mayLie 36 = .ok (.getfield 76, 3) := by decide +kernel
theorem dX8_mayLie_39 : decode cX8_mayLie 39 = .ok (.iload_n 1, 1) := by decide +kernel
theorem dX8_mayLie_40 : decode cX8_mayLie 40 = .ok (.iaload, 1) := by decide +kernel
theorem dX8_mayLie_41 : decode cX8_mayLie 41 = .ok (.ifCond .le 30, 3) := by decide +kernel
theorem dX8_mayLie_44 : decode cX8_mayLie 44 = .ok (.aload_n 0, 1) := by decide +kernel
theorem dX8_mayLie_45 : decode cX8_mayLie 45 = .ok (.getfield 76, 3) := by decide +kernel
theorem dX8_mayLie_48 : decode cX8_mayLie 48 = .ok (.iload_n 1, 1) := by decide +kernel
theorem dX8_mayLie_49 : decode cX8_mayLie 49 = .ok (.iaload, 1) := by decide +kernel
theorem dX8_mayLie_50 : decode cX8_mayLie 50 = .ok (.aload_n 0, 1) := by decide +kernel
theorem dX8_mayLie_51 : decode cX8_mayLie 51 = .ok (.getfield 213, 3) := by decide +kernel
theorem dX8_mayLie_54 : decode cX8_mayLie 54 = .ok (.if_icmp .gt 17, 3) := by decide +kernel
theorem dX8_mayLie_57 : decode cX8_mayLie 57 = .ok (.aload_n 0, 1) := by decide +kernel
theorem dX8_mayLie_58 : decode cX8_mayLie 58 = .ok (.getfield 76, 3) := by decide +kernel
theorem dX8_mayLie_61 : decode cX8_mayLie 61 = .ok (.iload_n 1, 1) := by decide +kernel
theorem dX8_mayLie_62 : decode cX8_mayLie 62 = .ok (.iaload, 1) := by decide +kernel
theorem dX8_mayLie_63 : decode cX8_mayLie 63 = .ok (.iload_n 2, 1) := by decide +kernel
theorem dX8_mayLie_64 : decode cX8_mayLie 64 = .ok (.iconst 1, 1) := by decide +kernel
theorem dX8_mayLie_65 : decode cX8_mayLie 65 = .ok (.iadd, 1) := by decide +kernel
theorem dX8_mayLie_66 : decode cX8_mayLie 66 = .ok (.if_icmp .eq 5, 3) := by decide +kernel
theorem dX8_mayLie_69 : decode cX8_mayLie 69 = .ok (.iconst 0, 1) := by decide +kernel
theorem dX8_mayLie_70 : decode cX8_mayLie 70 = .ok (.ireturn, 1) := by decide +kernel
theorem dX8_mayLie_71 : decode cX8_mayLie 71 = .ok (.iload_n 3, 1) := by decide +kernel
theorem dX8_mayLie_72 : decode cX8_mayLie 72 = .ok (.iconst (-1), 1) := by decide +kernel
theorem dX8_mayLie_73 : decode cX8_mayLie 73 = .ok (.if_icmp .eq 27, 3) := by decide +kernel
theorem dX8_mayLie_76 : decode cX8_mayLie 76 = .ok (.aload_n 0, 1) := by decide +kernel
theorem dX8_mayLie_77 : decode cX8_mayLie 77 = .ok (.getfield 25, 3) := by decide +kernel
theorem dX8_mayLie_80 : decode cX8_mayLie 80 = .ok (.iload 4, 2) := by decide +kernel
theorem dX8_mayLie_82 : decode cX8_mayLie 82 = .ok (.baload, 1) := by decide +kernel
theorem dX8_mayLie_83 : decode cX8_mayLie 83 = .ok (.ifCond .eq 17, 3) := by decide +kernel
theorem dX8_mayLie_86 : decode cX8_mayLie 86 = .ok (.aload_n 0, 1) := by decide +kernel
theorem dX8_mayLie_87 : decode cX8_mayLie 87 = .ok (.getfield 25, 3) := by decide +kernel
theorem dX8_mayLie_90 : decode cX8_mayLie 90 = .ok (.aload_n 0, 1) := by decide +kernel
theorem dX8_mayLie_91 : decode cX8_mayLie 91 = .ok (.getfield 73, 3) := by decide +kernel
theorem dX8_mayLie_94 : decode cX8_mayLie 94 = .ok (.iload_n 3, 1) := by decide +kernel
theorem dX8_mayLie_95 : decode cX8_mayLie 95 = .ok (.iaload, 1) := by decide +kernel
theorem dX8_mayLie_96 : decode cX8_mayLie 96 = .ok (.baload, 1) := by decide +kernel
theorem dX8_mayLie_97 : decode cX8_mayLie 97 = .ok (.ifCond .ne 7, 3) := by decide +kernel
theorem dX8_mayLie_100 : decode cX8_mayLie 100 = .ok (.iconst 1, 1) := by decide +kernel
theorem dX8_mayLie_101 : decode cX8_mayLie 101 = .ok (.goto 4, 3) := by decide +kernel
theorem dX8_mayLie_104 : decode cX8_mayLie 104 = .ok (.iconst 0, 1) := by decide +kernel
theorem dX8_mayLie_105 : decode cX8_mayLie 105 = .ok (.ireturn, 1) := by decide +kernel
theorem dX8_wait_0 : decode cX8_wait 0 = .ok (.aload_n 0, 1) := by decide +kernel
theorem dX8_wait_1 : decode cX8_wait 1 = .ok (.getfield 13, 3) := by decide +kernel
theorem dX8_wait_4 : decode cX8_wait 4 = .ok (.aload_n 0, 1) := by decide +kernel
theorem dX8_wait_5 : decode cX8_wait 5 = .ok (.getfield 73, 3) := by decide +kernel
theorem dX8_wait_8 : decode cX8_wait 8 = .ok (.iload_n 1, 1) := by decide +kernel
theorem dX8_wait_9 : decode cX8_wait 9 = .ok (.iaload, 1) := by decide +kernel
theorem dX8_wait_10 : decode cX8_wait 10 = .ok (.iaload, 1) := by decide +kernel
theorem dX8_wait_11 : decode cX8_wait 11 = .ok (.iconst 3, 1) := by decide +kernel
theorem dX8_wait_12 : decode cX8_wait 12 = .ok (.if_icmp .eq 18, 3) := by decide +kernel
theorem dX8_wait_15 : decode cX8_wait 15 = .ok (.aload_n 0, 1) := by decide +kernel
theorem dX8_wait_16 : decode cX8_wait 16 = .ok (.getfield 13, 3) := by decide +kernel
theorem dX8_wait_19 : decode cX8_wait 19 = .ok (.aload_n 0, 1) := by decide +kernel
theorem dX8_wait_20 : decode cX8_wait 20 = .ok (.getfield 73, 3) := by decide +kernel
theorem dX8_wait_23 : decode cX8_wait 23 = .ok (.iload_n 2, 1) := by decide +kernel
theorem dX8_wait_24 : decode cX8_wait 24 = .ok (.iaload, 1) := by decide +kernel
theorem dX8_wait_25 : decode cX8_wait 25 = .ok (.iaload, 1) := by decide +kernel
theorem dX8_wait_26 : decode cX8_wait 26 = .ok (.iconst 3, 1) := by decide +kernel
theorem dX8_wait_27 : decode cX8_wait 27 = .ok (.if_icmp .ne 5, 3) := by decide +kernel
theorem dX8_wait_30 : decode cX8_wait 30 = .ok (.iconst 0, 1) := by decide +kernel
theorem dX8_wait_31 : decode cX8_wait 31 = .ok (.ireturn, 1) := by decide +kernel
theorem dX8_wait_32 : decode cX8_wait 32 = .ok (.aload_n 0, 1) := by decide +kernel
theorem dX8_wait_33 : decode cX8_wait 33 = .ok (.getfield 25, 3) := by decide +kernel
theorem dX8_wait_36 : decode cX8_wait 36 = .ok (.aload_n 0, 1) := by decide +kernel
theorem dX8_wait_37 : decode cX8_wait 37 = .ok (.getfield 73, 3) := by decide +kernel
theorem dX8_wait_40 : decode cX8_wait 40 = .ok (.iload_n 1, 1) := by decide +kernel
theorem dX8_wait_41 : decode cX8_wait 41 = .ok (.iaload, 1) := by decide +kernel
theorem dX8_wait_42 : decode cX8_wait 42 = .ok (.baload, 1) := by decide +kernel
theorem dX8_wait_43 : decode cX8_wait 43 = .ok (.ifCond .ne 17, 3) := by decide +kernel
theorem dX8_wait_46 : decode cX8_wait 46 = .ok (.aload_n 0, 1) := by decide +kernel
theorem dX8_wait_47 : decode cX8_wait 47 = .ok (.getfield 25, 3) := by decide +kernel
theorem dX8_wait_50 : decode cX8_wait 50 = .ok (.aload_n 0, 1) := by decide +kernel
theorem dX8_wait_51 : decode cX8_wait 51 = .ok (.getfield 73, 3) := by decide +kernel
theorem dX8_wait_54 : decode cX8_wait 54 = .ok (.iload_n 2, 1) := by decide +kernel
theorem dX8_wait_55 : decode cX8_wait 55 = .ok (.iaload, 1) := by decide +kernel
theorem dX8_wait_56 : decode cX8_wait 56 = .ok (.baload, 1) := by decide +kernel
theorem dX8_wait_57 : decode cX8_wait 57 = .ok (.ifCond .eq 7, 3) := by decide +kernel
theorem dX8_wait_60 : decode cX8_wait 60 = .ok (.iconst 2, 1) := by decide +kernel
theorem dX8_wait_61 : decode cX8_wait 61 = .ok (.goto 4, 3) := by decide +kernel
theorem dX8_wait_64 : decode cX8_wait 64 = .ok (.iconst 1, 1) := by decide +kernel
theorem dX8_wait_65 : decode cX8_wait 65 = .ok (.ireturn, 1) := by decide +kernel
theorem dX8_lays_0 : decode cX8_lays 0 = .ok (.aload_n 0, 1) := by decide +kernel
theorem dX8_lays_1 : decode cX8_lays 1 = .ok (.iconst 0, 1) := by decide +kernel
theorem dX8_lays_2 : decode cX8_lays 2 = .ok (.putfield 213, 3) := by decide +kernel
theorem dX8_lays_5 : decode cX8_lays 5 = .ok (.iconst 0, 1) := by decide +kernel
theorem dX8_lays_6 : decode cX8_lays 6 = .ok (.istore_n 3, 1) := by decide +kernel
theorem dX8_lays_7 : decode cX8_lays 7 = .ok (.iload_n 3, 1) := by decide +kernel
theorem dX8_lays_8 : decode cX8_lays 8 = .ok (.aload_n 0, 1) := by decide +kernel
theorem dX8_lays_9 : decode cX8_lays 9 = .ok (.getfield 85, 3) := by decide +kernel
theorem dX8_lays_12 : decode cX8_lays 12 = .ok (.if_icmp .ge 66, 3) := by decide +kernel
theorem dX8_lays_15 : decode cX8_lays 15 = .ok (.aload_n 0, 1) := by decide +kernel
theorem dX8_lays_16 : decode cX8_lays 16 = .ok (.iload_n 3, 1) := by decide +kernel
theorem dX8_lays_17 : decode cX8_lays 17 = .ok (.iload_n 2, 1) := by decide +kernel
theorem dX8_lays_18 : decode cX8_lays 18 = .ok (.invokevirtual 173, 3) := by decide +kernel
theorem dX8_lays_21 : decode cX8_lays 21 = .ok (.iload_n 1, 1) := by decide +kernel
theorem dX8_lays_22 : decode cX8_lays 22 = .ok (.if_icmp .eq 6, 3) := by decide +kernel
theorem dX8_lays_25 : decode cX8_lays 25 = .ok (.goto 47, 3) := by decide +kernel
theorem dX8_lays_28 : decode cX8_lays 28 = .ok (.aload_n 0, 1) := by decide +kernel
theorem dX8_lays_29 : decode cX8_lays 29 = .ok (.getfield 73, 3) := by decide +kernel
theorem dX8_lays_32 : decode cX8_lays 32 = .ok (.aload_n 0, 1) := by decide +kernel
theorem dX8_lays_33 : decode cX8_lays 33 = .ok (.getfield 213, 3) := by decide +kernel
theorem dX8_lays_36 : decode cX8_lays 36 = .ok (.iload_n 3, 1) := by decide +kernel
theorem dX8_lays_37 : decode cX8_lays 37 = .ok (.iastore, 1) := by decide +kernel
theorem dX8_lays_38 : decode cX8_lays 38 = .ok (.aload_n 0, 1) := by decide +kernel
theorem dX8_lays_39 : decode cX8_lays 39 = .ok (.getfield 76, 3) := by decide +kernel
theorem dX8_lays_42 : decode cX8_lays 42 = .ok (.aload_n 0, 1) := by decide +kernel
theorem dX8_lays_43 : decode cX8_lays 43 = .ok (.getfield 213, 3) := by decide +kernel
theorem dX8_lays_46 : decode cX8_lays 46 = .ok (.aload_n 0, 1) := by decide +kernel
theorem dX8_lays_47 : decode cX8_lays 47 = .ok (.aload_n 0, 1) := by decide +kernel
theorem dX8_lays_48 : decode cX8_lays 48 = .ok (.iload_n 3, 1) := by decide +kernel
theorem dX8_lays_49 : decode cX8_lays 49 = .ok (.iload_n 2, 1) := by decide +kernel
theorem dX8_lays_50 : decode cX8_lays 50 = .ok (.aload_n 0, 1) := by decide +kernel
theorem dX8_lays_51 : decode cX8_lays 51 = .ok (.getfield 95, 3) := by decide +kernel
theorem dX8_lays_54 : decode cX8_lays 54 = .ok (.invokevirtual 163, 3) := by decide +kernel
theorem dX8_lays_57 : decode cX8_lays 57 = .ok (.iconst 5, 1) := by decide +kernel
theorem dX8_lays_58 : decode cX8_lays 58 = .ok (.invokevirtual 207, 3) := by decide +kernel
theorem dX8_lays_61 : decode cX8_lays 61 = .ok (.iastore, 1) := by decide +kernel
theorem dX8_lays_62 : decode cX8_lays 62 = .ok (.aload_n 0, 1) := by decide +kernel
theorem dX8_lays_63 : decode cX8_lays 63 = .ok (.dup, 1) := by decide +kernel
theorem dX8_lays_64 : decode cX8_lays 64 = .ok (.getfield 213, 3) := by decide +kernel
theorem dX8_lays_67 : decode cX8_lays 67 = .ok (.iconst 1, 1) := by decide +kernel
theorem dX8_lays_68 : decode cX8_lays 68 = .ok (.iadd, 1) := by decide +kernel
theorem dX8_lays_69 : decode cX8_lays 69 = .ok (.putfield 213, 3) := by decide +kernel
theorem dX8_lays_72 : decode cX8_lays 72 = .ok (.iinc 3 1, 3) := by decide +kernel
theorem dX8_lays_75 : decode cX8_lays 75 = .ok (.goto (-68), 3) := by decide +kernel
theorem dX8_lays_78 : decode cX8_lays 78 = .ok (.aload_n 0, 1) := by decide +kernel
theorem dX8_lays_79 : decode cX8_lays 79 = .ok (.getfield 213, 3) := by decide +kernel
theorem dX8_lays_82 : decode cX8_lays 82 = .ok (.ifCond .ne 5, 3) := by decide +kernel
theorem dX8_lays_85 : decode cX8_lays 85 = .ok (.iconst 0, 1) := by decide +kernel
theorem dX8_lays_86 : decode cX8_lays 86 = .ok (.ireturn, 1) := by decide +kernel
theorem dX8_lays_87 : decode cX8_lays 87 = .ok (.iconst 1, 1) := by decide +kernel
theorem dX8_lays_88 : decode cX8_lays 88 = .ok (.aload_n 0, 1) := by decide +kernel
theorem dX8_lays_89 : decode cX8_lays 89 = .ok (.getfield 213, 3) := by decide +kernel
theorem dX8_lays_92 : decode cX8_lays 92 = .ok (.ishl, 1) := by decide +kernel
theorem dX8_lays_93 : decode cX8_lays 93 = .ok (.iconst 1, 1) := by decide +kernel
theorem dX8_lays_94 : decode cX8_lays 94 = .ok (.isub, 1) := by decide +kernel
theorem dX8_lays_95 : decode cX8_lays 95 = .ok (.istore_n 3, 1) := by decide +kernel
theorem dX8_lays_96 : decode cX8_lays 96 = .ok (.iload_n 3, 1) := by decide +kernel
theorem dX8_lays_97 : decode cX8_lays 97 = .ok (.istore 4, 2) := by decide +kernel
theorem dX8_lays_99 : decode cX8_lays 99 = .ok (.iload 4, 2) := by decide +kernel
theorem dX8_lays_101 : decode cX8_lays 101 = .ok (.ifCond .le 175, 3) := by decide +kernel
theorem dX8_lays_104 : decode cX8_lays 104 = .ok (.iconst 0, 1) := by decide +kernel
theorem dX8_lays_105 : decode cX8_lays 105 = .ok (.istore 5, 2) := by decide +kernel
theorem dX8_lays_107 : decode cX8_lays 107 = .ok (.iload 5, 2) := by decide +kernel
theorem dX8_lays_109 : decode cX8_lays 109 = .ok (.aload_n 0, 1) := by decide +kernel
theorem dX8_lays_110 : decode cX8_lays 110 = .ok (.getfield 213, 3) := by decide +kernel
theorem dX8_lays_113 : decode cX8_lays 113 = .ok (.if_icmp .ge 157, 3) := by decide +kernel
theorem dX8_lays_116 : decode cX8_lays 116 = .ok (.iload 4, 2) := by decide +kernel
theorem dX8_lays_118 : decode cX8_lays 118 = .ok (.iload 5, 2) := by decide +kernel
theorem dX8_lays_120 : decode cX8_lays 120 = .ok (.ishr, 1) := by decide +kernel
theorem dX8_lays_121 : decode cX8_lays 121 = .ok (.iconst 1, 1) := by decide +kernel
theorem dX8_lays_122 : decode cX8_lays 122 = .ok (.iand, 1) := by decide +kernel
theorem dX8_lays_123 : decode cX8_lays 123 = .ok (.ifCond .ne 6, 3) := by decide +kernel
theorem dX8_lays_126 : decode cX8_lays 126 = .ok (.goto 138, 3) := by decide +kernel
theorem dX8_lays_129 : decode cX8_lays 129 = .ok (.aload_n 0, 1) := by decide +kernel
theorem dX8_lays_130 : decode cX8_lays 130 = .ok (.getfield 82, 3) := by decide +kernel
theorem dX8_lays_133 : decode cX8_lays 133 = .ok (.bipush 9, 2) := by decide +kernel
theorem dX8_lays_135 : decode cX8_lays 135 = .ok (.iload 4, 2) := by decide +kernel
theorem dX8_lays_137 : decode cX8_lays 137 = .ok (.imul, 1) := by decide +kernel
theorem dX8_lays_138 : decode cX8_lays 138 = .ok (.iload 5, 2) := by decide +kernel
theorem dX8_lays_140 : decode cX8_lays 140 = .ok (.iadd, 1) := by decide +kernel
theorem dX8_lays_141 : decode cX8_lays 141 = .ok (.iload 4, 2) := by decide +kernel
theorem dX8_lays_143 : decode cX8_lays 143 = .ok (.iload_n 3, 1) := by decide +kernel
theorem dX8_lays_144 : decode cX8_lays 144 = .ok (.if_icmp .ne 7, 3) := by decide +kernel
theorem dX8_lays_147 : decode cX8_lays 147 = .ok (.iconst 0, 1) := by decide +kernel
theorem dX8_lays_148 : decode cX8_lays 148 = .ok (.goto 5, 3) := by decide +kernel
theorem dX8_lays_151 : decode cX8_lays 151 = .ok (.ldc 216, 2) := by decide +kernel
theorem dX8_lays_153 : decode cX8_lays 153 = .ok (.iastore, 1) := by decide +kernel
theorem dX8_lays_154 : decode cX8_lays 154 = .ok (.iconst 0, 1) := by decide +kernel
theorem dX8_lays_155 : decode cX8_lays 155 = .ok (.istore 6, 2) := by decide +kernel
theorem dX8_lays_157 : decode cX8_lays 157 = .ok (.iload 6, 2) := by decide +kernel
theorem dX8_lays_159 : decode cX8_lays 159 = .ok (.aload_n 0, 1) := by decide +kernel
theorem dX8_lays_160 : decode cX8_lays 160 = .ok (.getfield 213, 3) := by decide +kernel
theorem dX8_lays_163 : decode cX8_lays 163 = .ok (.if_icmp .ge 101, 3) := by decide +kernel
theorem dX8_lays_166 : decode cX8_lays 166 = .ok (.iload 4, 2) := by decide +kernel
theorem dX8_lays_168 : decode cX8_lays 168 = .ok (.iload_n 3, 1) := by decide +kernel
theorem dX8_lays_169 : decode cX8_lays 169 = .ok (.if_icmp .eq 95, 3) := by decide +kernel
theorem dX8_lays_172 : decode cX8_lays 172 = .ok (.iload 4, 2) := by decide +kernel
theorem dX8_lays_174 : decode cX8_lays 174 = .ok (.iload 6, 2) := by decide +kernel
theorem dX8_lays_176 : decode cX8_lays 176 = .ok (.ishr, 1) := by decide +kernel
theorem dX8_lays_177 : decode cX8_lays 177 = .ok (.iconst 1, 1) := by decide +kernel
theorem dX8_lays_178 : decode cX8_lays 178 = .ok (.iand, 1) := by decide +kernel
theorem dX8_lays_179 : decode cX8_lays 179 = .ok (.iconst 1, 1) := by decide +kernel
theorem dX8_lays_180 : decode cX8_lays 180 = .ok (.if_icmp .eq 78, 3) := by decide +kernel
theorem dX8_lays_183 : decode cX8_lays 183 = .ok (.aload_n 0, 1) := by decide +kernel
theorem dX8_lays_184 : decode cX8_lays 184 = .ok (.iload 6, 2) := by decide +kernel
theorem dX8_lays_186 : decode cX8_lays 186 = .ok (.iload 4, 2) := by decide +kernel
theorem dX8_lays_188 : decode cX8_lays 188 = .ok (.invokestatic 217, 3) := by decide +kernel
theorem dX8_lays_191 : decode cX8_lays 191 = .ok (.iload 5, 2) := by decide +kernel
theorem dX8_lays_193 : decode cX8_lays 193 = .ok (.invokevirtual 219, 3) := by decide +kernel
theorem dX8_lays_196 : decode cX8_lays 196 = .ok (.ifCond .ne 6, 3) := by decide +kernel
theorem dX8_lays_199 : decode cX8_lays 199 = .ok (.goto 59, 3) := by decide +kernel
theorem dX8_lays_202 : decode cX8_lays 202 = .ok (.aload_n 0, 1) := by decide +kernel
theorem dX8_lays_203 : decode cX8_lays 203 = .ok (.getfield 82, 3) := by decide +kernel
theorem dX8_lays_206 : decode cX8_lays 206 = .ok (.bipush 9, 2) := by decide +kernel
theorem dX8_lays_208 : decode cX8_lays 208 = .ok (.iload 4, 2) := by decide +kernel
theorem dX8_lays_210 : decode cX8_lays 210 = .ok (.imul, 1) := by decide +kernel
theorem dX8_lays_211 : decode cX8_lays 211 = .ok (.iload 5, 2) := by decide +kernel
theorem dX8_lays_213 : decode cX8_lays 213 = .ok (.iadd, 1) := by decide +kernel
theorem dX8_lays_214 : decode cX8_lays 214 = .ok (.aload_n 0, 1) := by decide +kernel
theorem dX8_lays_215 : decode cX8_lays 215 = .ok (.getfield 82, 3) := by decide +kernel
theorem dX8_lays_218 : decode cX8_lays 218 = .ok (.bipush 9, 2) := by decide +kernel
theorem dX8_lays_220 : decode cX8_lays 220 = .ok (.iload 4, 2) := by decide +kernel
theorem dX8_lays_222 : decode cX8_lays 222 = .ok (.imul, 1) := by decide +kernel
theorem dX8_lays_223 : decode cX8_lays 223 = .ok (.iload 5, 2) := by decide +kernel
theorem dX8_lays_225 : decode cX8_lays 225 = .ok (.iadd, 1) := by decide +kernel
theorem dX8_lays_226 : decode cX8_lays 226 = .ok (.iaload, 1) := by decide +kernel
theorem dX8_lays_227 : decode cX8_lays 227 = .ok (.aload_n 0, 1) := by decide +kernel
theorem dX8_lays_228 : decode cX8_lays 228 = .ok (.iload 5, 2) := by decide +kernel
theorem dX8_lays_230 : decode cX8_lays 230 = .ok (.iload 6, 2) := by decide +kernel
theorem dX8_lays_232 : decode cX8_lays 232 = .ok (.invokevirtual 222, 3) := by decide +kernel
theorem dX8_lays_235 : decode cX8_lays 235 = .ok (.aload_n 0, 1) := by decide +kernel
theorem dX8_lays_236 : decode cX8_lays 236 = .ok (.getfield 82, 3) := by decide +kernel
theorem dX8_lays_239 : decode cX8_lays 239 = .ok (.bipush 9, 2) := by decide +kernel
theorem dX8_lays_241 : decode cX8_lays 241 = .ok (.iload 4, 2) := by decide +kernel
theorem dX8_lays_243 : decode cX8_lays 243 = .ok (.iconst 1, 1) := by decide +kernel
theorem dX8_lays_244 : decode cX8_lays 244 = .ok (.iload 6, 2) := by decide +kernel
theorem dX8_lays_246 : decode cX8_lays 246 = .ok (.ishl, 1) := by decide +kernel
theorem dX8_lays_247 : decode cX8_lays 247 = .ok (.ior, 1) := by decide +kernel
theorem dX8_lays_248 : decode cX8_lays 248 = .ok (.imul, 1) := by decide +kernel
theorem dX8_lays_249 : decode cX8_lays 249 = .ok (.iload 6, 2) := by decide +kernel
theorem dX8_lays_251 : decode cX8_lays 251 = .ok (.iadd, 1) := by decide +kernel
theorem dX8_lays_252 : decode cX8_lays 252 = .ok (.iaload, 1) := by decide +kernel
theorem dX8_lays_253 : decode cX8_lays 253 = .ok (.iadd, 1) := by decide +kernel
theorem dX8_lays_254 : decode cX8_lays 254 = .ok (.invokestatic 210, 3) := by decide +kernel
theorem dX8_lays_257 : decode cX8_lays 257 = .ok (.iastore, 1) := by decide +kernel
theorem dX8_lays_258 : decode cX8_lays 258 = .ok (.iinc 6 1, 3) := by decide +kernel
theorem dX8_lays_261 : decode cX8_lays 261 = .ok (.goto (-104), 3) := by decide +kernel
theorem dX8_lays_264 : decode cX8_lays 264 = .ok (.iinc 5 1, 3) := by decide +kernel
theorem dX8_lays_267 : decode cX8_lays 267 = .ok (.goto (-160), 3) := by decide +kernel
theorem dX8_lays_270 : decode cX8_lays 270 = .ok (.iinc 4 (-1), 3) := by decide +kernel
theorem dX8_lays_273 : decode cX8_lays 273 = .ok (.goto (-174), 3) := by decide +kernel
theorem dX8_lays_276 : decode cX8_lays 276 = .ok (.iconst 0, 1) := by decide +kernel
theorem dX8_lays_277 : decode cX8_lays 277 = .ok (.istore 4, 2) := by decide +kernel
theorem dX8_lays_279 : decode cX8_lays 279 = .ok (.iconst (-1), 1) := by decide +kernel
theorem dX8_lays_280 : decode cX8_lays 280 = .ok (.istore 5, 2) := by decide +kernel
theorem dX8_lays_282 : decode cX8_lays 282 = .ok (.iconst 0, 1) := by decide +kernel
theorem dX8_lays_283 : decode cX8_lays 283 = .ok (.istore 6, 2) := by decide +kernel
theorem dX8_lays_285 : decode cX8_lays 285 = .ok (.iload 6, 2) := by decide +kernel
theorem dX8_lays_287 : decode cX8_lays 287 = .ok (.aload_n 0, 1) := by decide +kernel
theorem dX8_lays_288 : decode cX8_lays 288 = .ok (.getfield 213, 3) := by decide +kernel
theorem dX8_lays_291 : decode cX8_lays 291 = .ok (.if_icmp .ge 164, 3) := by decide +kernel
theorem dX8_lays_294 : decode cX8_lays 294 = .ok (.iconst (-1), 1) := by decide +kernel
theorem dX8_lays_295 : decode cX8_lays 295 = .ok (.istore 7, 2) := by decide +kernel
theorem dX8_lays_297 : decode cX8_lays 297 = .ok (.ldc 216, 2) := by decide +kernel
theorem dX8_lays_299 : decode cX8_lays 299 = .ok (.istore 8, 2) := by decide +kernel
theorem dX8_lays_301 : decode cX8_lays 301 = .ok (.iconst 0, 1) := by decide +kernel
theorem dX8_lays_302 : decode cX8_lays 302 = .ok (.istore 9, 2) := by decide +kernel
theorem dX8_lays_304 : decode cX8_lays 304 = .ok (.iload 9, 2) := by decide +kernel
theorem dX8_lays_306 : decode cX8_lays 306 = .ok (.aload_n 0, 1) := by decide +kernel
theorem dX8_lays_307 : decode cX8_lays 307 = .ok (.getfield 213, 3) := by decide +kernel
theorem dX8_lays_310 : decode cX8_lays 310 = .ok (.if_icmp .ge 93, 3) := by decide +kernel
theorem dX8_lays_313 : decode cX8_lays 313 = .ok (.iload 4, 2) := by decide +kernel
theorem dX8_lays_315 : decode cX8_lays 315 = .ok (.iload 9, 2) := by decide +kernel
theorem dX8_lays_317 : decode cX8_lays 317 = .ok (.ishr, 1) := by decide +kernel
theorem dX8_lays_318 : decode cX8_lays 318 = .ok (.iconst 1, 1) := by decide +kernel
theorem dX8_lays_319 : decode cX8_lays 319 = .ok (.iand, 1) := by decide +kernel
theorem dX8_lays_320 : decode cX8_lays 320 = .ok (.iconst 1, 1) := by decide +kernel
theorem dX8_lays_321 : decode cX8_lays 321 = .ok (.if_icmp .eq 76, 3) := by decide +kernel
theorem dX8_lays_324 : decode cX8_lays 324 = .ok (.aload_n 0, 1) := by decide +kernel
theorem dX8_lays_325 : decode cX8_lays 325 = .ok (.iload 9, 2) := by decide +kernel
theorem dX8_lays_327 : decode cX8_lays 327 = .ok (.iload 6, 2) := by decide +kernel
theorem dX8_lays_329 : decode cX8_lays 329 = .ok (.iload 5, 2) := by decide +kernel
theorem dX8_lays_331 : decode cX8_lays 331 = .ok (.invokevirtual 219, 3) := by decide +kernel
theorem dX8_lays_334 : decode cX8_lays 334 = .ok (.ifCond .ne 6, 3) := by decide +kernel
theorem dX8_lays_337 : decode cX8_lays 337 = .ok (.goto 60, 3) := by decide +kernel
theorem dX8_lays_340 : decode cX8_lays 340 = .ok (.iload 5, 2) := by decide +kernel
theorem dX8_lays_342 : decode cX8_lays 342 = .ok (.iconst (-1), 1) := by decide +kernel
theorem dX8_lays_343 : decode cX8_lays 343 = .ok (.if_icmp .ne 7, 3) := by decide +kernel
theorem dX8_lays_346 : decode cX8_lays 346 = .ok (.iconst 0, 1) := by decide +kernel
theorem dX8_lays_347 : decode cX8_lays 347 = .ok (.goto 11, 3) := by decide +kernel
theorem dX8_lays_350 : decode cX8_lays 350 = .ok (.aload_n 0, 1) := by decide +kernel
theorem dX8_lays_351 : decode cX8_lays 351 = .ok (.iload 5, 2) := by decide +kernel
theorem dX8_lays_353 : decode cX8_lays 353 = .ok (.iload 9, 2) := by decide +kernel
theorem dX8_lays_355 : decode cX8_lays 355 = .ok (.invokevirtual 222, 3) := by decide +kernel
theorem dX8_lays_358 : decode cX8_lays 358 = .ok (.aload_n 0, 1) := by decide +kernel
theorem dX8_lays_359 : decode cX8_lays 359 = .ok (.getfield 82, 3) := by decide +kernel
theorem dX8_lays_362 : decode cX8_lays 362 = .ok (.bipush 9, 2) := by decide +kernel
theorem dX8_lays_364 : decode cX8_lays 364 = .ok (.iload 4, 2) := by decide +kernel
theorem dX8_lays_366 : decode cX8_lays 366 = .ok (.iconst 1, 1) := by decide +kernel
theorem dX8_lays_367 : decode cX8_lays 367 = .ok (.iload 9, 2) := by decide +kernel
theorem dX8_lays_369 : decode cX8_lays 369 = .ok (.ishl, 1) := by decide +kernel
theorem dX8_lays_370 : decode cX8_lays 370 = .ok (.ior, 1) := by decide +kernel
theorem dX8_lays_371 : decode cX8_lays 371 = .ok (.imul, 1) := by decide +kernel
theorem dX8_lays_372 : decode cX8_lays 372 = .ok (.iload 9, 2) := by decide +kernel
theorem dX8_lays_374 : decode cX8_lays 374 = .ok (.iadd, 1) := by decide +kernel
theorem dX8_lays_375 : decode cX8_lays 375 = .ok (.iaload, 1) := by decide +kernel
theorem dX8_lays_376 : decode cX8_lays 376 = .ok (.iadd, 1) := by decide +kernel
theorem dX8_lays_377 : decode cX8_lays 377 = .ok (.istore 10, 2) := by decide +kernel
theorem dX8_lays_379 : decode cX8_lays 379 = .ok (.iload 10, 2) := by decide +kernel
theorem dX8_lays_381 : decode cX8_lays 381 = .ok (.iload 8, 2) := by decide +kernel
theorem dX8_lays_383 : decode cX8_lays 383 = .ok (.if_icmp .lt 6, 3) := by decide +kernel
theorem dX8_lays_386 : decode cX8_lays 386 = .ok (.goto 11, 3) := by decide +kernel
theorem dX8_lays_389 : decode cX8_lays 389 = .ok (.iload 9, 2) := by decide +kernel
theorem dX8_lays_391 : decode cX8_lays 391 = .ok (.istore 7, 2) := by decide +kernel
theorem dX8_lays_393 : decode cX8_lays 393 = .ok (.iload 10, 2) := by decide +kernel
theorem dX8_lays_395 : decode cX8_lays 395 = .ok (.istore 8, 2) := by decide +kernel
theorem dX8_lays_397 : decode cX8_lays 397 = .ok (.iinc 9 1, 3) := by decide +kernel
theorem dX8_lays_400 : decode cX8_lays 400 = .ok (.goto (-96), 3) := by decide +kernel
theorem dX8_lays_403 : decode cX8_lays 403 = .ok (.iload 7, 2) := by decide +kernel
theorem dX8_lays_405 : decode cX8_lays 405 = .ok (.iconst (-1), 1) := by decide +kernel
theorem dX8_lays_406 : decode cX8_lays 406 = .ok (.if_icmp .ne 5, 3) := by decide +kernel
theorem dX8_lays_409 : decode cX8_lays 409 = .ok (.iconst 0, 1) := by decide +kernel
theorem dX8_lays_410 : decode cX8_lays 410 = .ok (.ireturn, 1) := by decide +kernel
theorem dX8_lays_411 : decode cX8_lays 411 = .ok (.iload 6, 2) := by decide +kernel
theorem dX8_lays_413 : decode cX8_lays 413 = .ok (.ifCond .ne 9, 3) := by decide +kernel
theorem dX8_lays_416 : decode cX8_lays 416 = .ok (.aload_n 0, 1) := by decide +kernel
theorem dX8_lays_417 : decode cX8_lays 417 = .ok (.iload 8, 2) := by decide +kernel
theorem dX8_lays_419 : decode cX8_lays 419 = .ok (.putfield 225, 3) := by decide +kernel
theorem dX8_lays_422 : decode cX8_lays 422 = .ok (.aload_n 0, 1) := by decide +kernel
theorem dX8_lays_423 : decode cX8_lays 423 = .ok (.getfield 79, 3) := by decide +kernel
theorem dX8_lays_426 : decode cX8_lays 426 = .ok (.iload 6, 2) := by decide +kernel
theorem dX8_lays_428 : decode cX8_lays 428 = .ok (.aload_n 0, 1) := by decide +kernel
theorem dX8_lays_429 : decode cX8_lays 429 = .ok (.getfield 73, 3) := by decide +kernel
theorem dX8_lays_432 : decode cX8_lays 432 = .ok (.iload 7, 2) := by decide +kernel
theorem dX8_lays_434 : decode cX8_lays 434 = .ok (.iaload, 1) := by decide +kernel
theorem dX8_lays_435 : decode cX8_lays 435 = .ok (.iastore, 1) := by decide +kernel
theorem dX8_lays_436 : decode cX8_lays 436 = .ok (.iload 4, 2) := by decide +kernel
theorem dX8_lays_438 : decode cX8_lays 438 = .ok (.iconst 1, 1) := by decide +kernel
theorem dX8_lays_439 : decode cX8_lays 439 = .ok (.iload 7, 2) := by decide +kernel
theorem dX8_lays_441 : decode cX8_lays 441 = .ok (.ishl, 1) := by decide +kernel
theorem dX8_lays_442 : decode cX8_lays 442 = .ok (.ior, 1) := by decide +kernel
theorem dX8_lays_443 : decode cX8_lays 443 = .ok (.istore 4, 2) := by decide +kernel
theorem dX8_lays_445 : decode cX8_lays 445 = .ok (.iload 7, 2) := by decide +kernel
theorem dX8_lays_447 : decode cX8_lays 447 = .ok (.istore 5, 2) := by decide +kernel
theorem dX8_lays_449 : decode cX8_lays 449 = .ok (.iinc 6 1, 3) := by decide +kernel
theorem dX8_lays_452 : decode cX8_lays 452 = .ok (.goto (-167), 3) := by decide +kernel
theorem dX8_lays_455 : decode cX8_lays 455 = .ok (.iconst 1, 1) := by decide +kernel
theorem dX8_lays_456 : decode cX8_lays 456 = .ok (.ireturn, 1) := by decide +kernel
theorem dX8_many__0 : decode cX8_many_ 0 = .ok (.iconst 0, 1) := by decide +kernel
theorem dX8_many__1 : decode cX8_many_ 1 = .ok (.istore_n 1, 1) := by decide +kernel
theorem dX8_many__2 : decode cX8_many_ 2 = .ok (.iload_n 0, 1) := by decide +kernel
theorem dX8_many__3 : decode cX8_many_ 3 = .ok (.istore_n 2, 1) := by decide +kernel
theorem dX8_many__4 : decode cX8_many_ 4 = .ok (.iload_n 2, 1) := by decide +kernel
theorem dX8_many__5 : decode cX8_many_ 5 = .ok (.ifCond .le 16, 3) := by decide +kernel
theorem dX8_many__8 : decode cX8_many_ 8 = .ok (.iload_n 1, 1) := by decide +kernel
theorem dX8_many__9 : decode cX8_many_ 9 = .ok (.iload_n 2, 1) := by decide +kernel
theorem dX8_many__10 : decode cX8_many_ 10 = .ok (.iconst 1, 1) := by decide +kernel
theorem dX8_many__11 : decode cX8_many_ 11 = .ok (.iand, 1) := by decide +kernel
theorem dX8_many__12 : decode cX8_many_ 12 = .ok (.iadd, 1) := by decide +kernel
theorem dX8_many__13 : decode cX8_many_ 13 = .ok (.istore_n 1, 1) := by decide +kernel
theorem dX8_many__14 : decode cX8_many_ 14 = .ok (.iload_n 2, 1) := by decide +kernel
theorem dX8_many__15 : decode cX8_many_ 15 = .ok (.iconst 1, 1) := by decide +kernel
theorem dX8_many__16 : decode cX8_many_ 16 = .ok (.ishr, 1) := by decide +kernel
theorem dX8_many__17 : decode cX8_many_ 17 = .ok (.istore_n 2, 1) := by decide +kernel
theorem dX8_many__18 : decode cX8_many_ 18 = .ok (.goto (-14), 3) := by decide +kernel
theorem dX8_many__21 : decode cX8_many_ 21 = .ok (.iload_n 1, 1) := by decide +kernel
theorem dX8_many__22 : decode cX8_many_ 22 = .ok (.ireturn, 1) := by decide +kernel
theorem dX8_order_0 : decode cX8_order 0 = .ok (.aload_n 0, 1) := by decide +kernel
theorem dX8_order_1 : decode cX8_order 1 = .ok (.iload_n 1, 1) := by decide +kernel
theorem dX8_order_2 : decode cX8_order 2 = .ok (.invokevirtual 177, 3) := by decide +kernel
theorem dX8_order_5 : decode cX8_order 5 = .ok (.ifCond .eq 19, 3) := by decide +kernel
theorem dX8_order_8 : decode cX8_order 8 = .ok (.iload_n 2, 1) := by decide +kernel
theorem dX8_order_9 : decode cX8_order 9 = .ok (.invokestatic 154, 3) := by decide +kernel
theorem dX8_order_12 : decode cX8_order 12 = .ok (.ifCond .eq 12, 3) := by decide +kernel
theorem dX8_order_15 : decode cX8_order 15 = .ok (.aload_n 0, 1) := by decide +kernel
theorem dX8_order_16 : decode cX8_order 16 = .ok (.iload_n 1, 1) := by decide +kernel
theorem dX8_order_17 : decode cX8_order 17 = .ok (.iload_n 2, 1) := by decide +kernel
theorem dX8_order_18 : decode cX8_order 18 = .ok (.invokevirtual 228, 3) := by decide +kernel
theorem dX8_order_21 : decode cX8_order 21 = .ok (.ifCond .ne 5, 3) := by decide +kernel
theorem dX8_order_24 : decode cX8_order 24 = .ok (.iconst (-1), 1) := by decide +kernel
theorem dX8_order_25 : decode cX8_order 25 = .ok (.ireturn, 1) := by decide +kernel
theorem dX8_order_26 : decode cX8_order 26 = .ok (.iload_n 3, 1) := by decide +kernel
theorem dX8_order_27 : decode cX8_order 27 = .ok (.iconst 0, 1) := by decide +kernel
theorem dX8_order_28 : decode cX8_order 28 = .ok (.aload_n 0, 1) := by decide +kernel
theorem dX8_order_29 : decode cX8_order 29 = .ok (.getfield 213, 3) := by decide +kernel
theorem dX8_order_32 : decode cX8_order 32 = .ok (.iconst 1, 1) := by decide +kernel
theorem dX8_order_33 : decode cX8_order 33 = .ok (.isub, 1) := by decide +kernel
theorem dX8_order_34 : decode cX8_order 34 = .ok (.invokestatic 88, 3) := by decide +kernel
theorem dX8_order_37 : decode cX8_order 37 = .ok (.ifCond .eq 12, 3) := by decide +kernel
theorem dX8_order_40 : decode cX8_order 40 = .ok (.aload_n 0, 1) := by decide +kernel
theorem dX8_order_41 : decode cX8_order 41 = .ok (.getfield 79, 3) := by decide +kernel
theorem dX8_order_44 : decode cX8_order 44 = .ok (.iload_n 3, 1) := by decide +kernel
theorem dX8_order_45 : decode cX8_order 45 = .ok (.iaload, 1) := by decide +kernel
theorem dX8_order_46 : decode cX8_order 46 = .ok (.goto 4, 3) := by decide +kernel
theorem dX8_order_49 : decode cX8_order 49 = .ok (.iconst (-1), 1) := by decide +kernel
theorem dX8_order_50 : decode cX8_order 50 = .ok (.ireturn, 1) := by decide +kernel
theorem dX8_waits_0 : decode cX8_waits 0 = .ok (.aload_n 0, 1) := by decide +kernel
theorem dX8_waits_1 : decode cX8_waits 1 = .ok (.iload_n 1, 1) := by decide +kernel
theorem dX8_waits_2 : decode cX8_waits 2 = .ok (.invokevirtual 177, 3) := by decide +kernel
theorem dX8_waits_5 : decode cX8_waits 5 = .ok (.ifCond .eq 26, 3) := by decide +kernel
theorem dX8_waits_8 : decode cX8_waits 8 = .ok (.iload_n 2, 1) := by decide +kernel
theorem dX8_waits_9 : decode cX8_waits 9 = .ok (.invokestatic 154, 3) := by decide +kernel
theorem dX8_waits_12 : decode cX8_waits 12 = .ok (.ifCond .eq 19, 3) := by decide +kernel
theorem dX8_waits_15 : decode cX8_waits 15 = .ok (.aload_n 0, 1) := by decide +kernel
theorem dX8_waits_16 : decode cX8_waits 16 = .ok (.iload_n 1, 1) := by decide +kernel
theorem dX8_waits_17 : decode cX8_waits 17 = .ok (.iload_n 2, 1) := by decide +kernel
theorem dX8_waits_18 : decode cX8_waits 18 = .ok (.invokevirtual 228, 3) := by decide +kernel
theorem dX8_waits_21 : decode cX8_waits 21 = .ok (.ifCond .eq 10, 3) := by decide +kernel
theorem dX8_waits_24 : decode cX8_waits 24 = .ok (.aload_n 0, 1) := by decide +kernel
theorem dX8_waits_25 : decode cX8_waits 25 = .ok (.getfield 225, 3) := by decide +kernel
theorem dX8_waits_28 : decode cX8_waits 28 = .ok (.goto 4, 3) := by decide +kernel
theorem dX8_waits_31 : decode cX8_waits 31 = .ok (.iconst (-1), 1) := by decide +kernel
theorem dX8_waits_32 : decode cX8_waits 32 = .ok (.ireturn, 1) := by decide +kernel
theorem dX8_bestFor_0 : decode cX8_bestFor 0 = .ok (.iconst (-1), 1) := by decide +kernel
theorem dX8_bestFor_1 : decode cX8_bestFor 1 = .ok (.istore 4, 2) := by decide +kernel
theorem dX8_bestFor_3 : decode cX8_bestFor 3 = .ok (.iconst 0, 1) := by decide +kernel
theorem dX8_bestFor_4 : decode cX8_bestFor 4 = .ok (.istore 5, 2) := by decide +kernel
theorem dX8_bestFor_6 : decode cX8_bestFor 6 = .ok (.iload 5, 2) := by decide +kernel
theorem dX8_bestFor_8 : decode cX8_bestFor 8 = .ok (.aload_n 0, 1) := by decide +kernel
theorem dX8_bestFor_9 : decode cX8_bestFor 9 = .ok (.getfield 85, 3) := by decide +kernel
theorem dX8_bestFor_12 : decode cX8_bestFor 12 = .ok (.if_icmp .ge 53, 3) := by decide +kernel
theorem dX8_bestFor_15 : decode cX8_bestFor 15 = .ok (.iload 5, 2) := by decide +kernel
theorem dX8_bestFor_17 : decode cX8_bestFor 17 = .ok (.iload_n 3, 1) := by decide +kernel
theorem dX8_bestFor_18 : decode cX8_bestFor 18 = .ok (.if_icmp .eq 41, 3) := by decide +kernel
theorem dX8_bestFor_21 : decode cX8_bestFor 21 = .ok (.iload 4, 2) := by decide +kernel
theorem dX8_bestFor_23 : decode cX8_bestFor 23 = .ok (.iconst (-1), 1) := by decide +kernel
theorem dX8_bestFor_24 : decode cX8_bestFor 24 = .ok (.if_icmp .eq 20, 3) := by decide +kernel
theorem dX8_bestFor_27 : decode cX8_bestFor 27 = .ok (.aload_n 0, 1) := by decide +kernel
theorem dX8_bestFor_28 : decode cX8_bestFor 28 = .ok (.getfield 19, 3) := by decide +kernel
theorem dX8_bestFor_31 : decode cX8_bestFor 31 = .ok (.iload 5, 2) := by decide +kernel
theorem dX8_bestFor_33 : decode cX8_bestFor 33 = .ok (.iaload, 1) := by decide +kernel
theorem dX8_bestFor_34 : decode cX8_bestFor 34 = .ok (.aload_n 0, 1) := by decide +kernel
theorem dX8_bestFor_35 : decode cX8_bestFor 35 = .ok (.getfield 19, 3) := by decide +kernel
theorem dX8_bestFor_38 : decode cX8_bestFor 38 = .ok (.iload 4, 2) := by decide +kernel
theorem dX8_bestFor_40 : decode cX8_bestFor 40 = .ok (.iaload, 1) := by decide +kernel
theorem dX8_bestFor_41 : decode cX8_bestFor 41 = .ok (.if_icmp .le 18, 3) := by decide +kernel
theorem dX8_bestFor_44 : decode cX8_bestFor 44 = .ok (.aload_n 0, 1) := by decide +kernel
theorem dX8_bestFor_45 : decode cX8_bestFor 45 = .ok (.iload 5, 2) := by decide +kernel
theorem dX8_bestFor_47 : decode cX8_bestFor 47 = .ok (.iload_n 1, 1) := by decide +kernel
theorem dX8_bestFor_48 : decode cX8_bestFor 48 = .ok (.iload_n 2, 1) := by decide +kernel
theorem dX8_bestFor_49 : decode cX8_bestFor 49 = .ok (.invokevirtual 194, 3) := by decide +kernel
theorem dX8_bestFor_52 : decode cX8_bestFor 52 = .ok (.ifCond .ne 7, 3) := by decide +kernel
theorem dX8_bestFor_55 : decode cX8_bestFor 55 = .ok (.iload 5, 2) := by decide +kernel
theorem dX8_bestFor_57 : decode cX8_bestFor 57 = .ok (.istore 4, 2) := by decide +kernel
theorem dX8_bestFor_59 : decode cX8_bestFor 59 = .ok (.iinc 5 1, 3) := by decide +kernel
theorem dX8_bestFor_62 : decode cX8_bestFor 62 = .ok (.goto (-56), 3) := by decide +kernel
theorem dX8_bestFor_65 : decode cX8_bestFor 65 = .ok (.iload 4, 2) := by decide +kernel
theorem dX8_bestFor_67 : decode cX8_bestFor 67 = .ok (.ireturn, 1) := by decide +kernel
theorem dX8_fail_0 : decode cX8_fail 0 = .ok (.aload_n 0, 1) := by decide +kernel
theorem dX8_fail_1 : decode cX8_fail 1 = .ok (.iload_n 1, 1) := by decide +kernel
theorem dX8_fail_2 : decode cX8_fail 2 = .ok (.iload_n 2, 1) := by decide +kernel
theorem dX8_fail_3 : decode cX8_fail 3 = .ok (.invokevirtual 203, 3) := by decide +kernel
theorem dX8_fail_6 : decode cX8_fail 6 = .ok (.ifCond .ne 6, 3) := by decide +kernel
theorem dX8_fail_9 : decode cX8_fail 9 = .ok (.bipush (-2), 2) := by decide +kernel
theorem dX8_fail_11 : decode cX8_fail 11 = .ok (.ireturn, 1) := by decide +kernel
theorem dX8_fail_12 : decode cX8_fail 12 = .ok (.aload_n 0, 1) := by decide +kernel
theorem dX8_fail_13 : decode cX8_fail 13 = .ok (.iload_n 1, 1) := by decide +kernel
theorem dX8_fail_14 : decode cX8_fail 14 = .ok (.iload_n 2, 1) := by decide +kernel
theorem dX8_fail_15 : decode cX8_fail 15 = .ok (.invokevirtual 173, 3) := by decide +kernel
theorem dX8_fail_18 : decode cX8_fail 18 = .ok (.istore_n 3, 1) := by decide +kernel
theorem dX8_fail_19 : decode cX8_fail 19 = .ok (.aload_n 0, 1) := by decide +kernel
theorem dX8_fail_20 : decode cX8_fail 20 = .ok (.getfield 38, 3) := by decide +kernel
theorem dX8_fail_23 : decode cX8_fail 23 = .ok (.bipush 60, 2) := by decide +kernel
theorem dX8_fail_25 : decode cX8_fail 25 = .ok (.iload_n 1, 1) := by decide +kernel
theorem dX8_fail_26 : decode cX8_fail 26 = .ok (.imul, 1) := by decide +kernel
theorem dX8_fail_27 : decode cX8_fail 27 = .ok (.iload_n 2, 1) := by decide +kernel
theorem dX8_fail_28 : decode cX8_fail 28 = .ok (.iadd, 1) := by decide +kernel
theorem dX8_fail_29 : decode cX8_fail 29 = .ok (.iconst (-1), 1) := by decide +kernel
theorem dX8_fail_30 : decode cX8_fail 30 = .ok (.iastore, 1) := by decide +kernel
theorem dX8_fail_31 : decode cX8_fail 31 = .ok (.aload_n 0, 1) := by decide +kernel
theorem dX8_fail_32 : decode cX8_fail 32 = .ok (.dup, 1) := by decide +kernel
theorem dX8_fail_33 : decode cX8_fail 33 = .ok (.getfield 197, 3) := by decide +kernel
theorem dX8_fail_36 : decode cX8_fail 36 = .ok (.iconst 1, 1) := by decide +kernel
theorem dX8_fail_37 : decode cX8_fail 37 = .ok (.isub, 1) := by decide +kernel
theorem dX8_fail_38 : decode cX8_fail 38 = .ok (.putfield 197, 3) := by decide +kernel
theorem dX8_fail_41 : decode cX8_fail 41 = .ok (.aload_n 0, 1) := by decide +kernel
theorem dX8_fail_42 : decode cX8_fail 42 = .ok (.getfield 22, 3) := by decide +kernel
theorem dX8_fail_45 : decode cX8_fail 45 = .ok (.iload_n 1, 1) := by decide +kernel
theorem dX8_fail_46 : decode cX8_fail 46 = .ok (.dup2, 1) := by decide +kernel
theorem dX8_fail_47 : decode cX8_fail 47 = .ok (.iaload, 1) := by decide +kernel
theorem dX8_fail_48 : decode cX8_fail 48 = .ok (.iconst 1, 1) := by decide +kernel
theorem dX8_fail_49 : decode cX8_fail 49 = .ok (.iadd, 1) := by decide +kernel
theorem dX8_fail_50 : decode cX8_fail 50 = .ok (.iastore, 1) := by decide +kernel
theorem dX8_fail_51 : decode cX8_fail 51 = .ok (.aload_n 0, 1) := by decide +kernel
theorem dX8_fail_52 : decode cX8_fail 52 = .ok (.iload_n 3, 1) := by decide +kernel
theorem dX8_fail_53 : decode cX8_fail 53 = .ok (.iload_n 2, 1) := by decide +kernel
theorem dX8_fail_54 : decode cX8_fail 54 = .ok (.iload_n 1, 1) := by decide +kernel
theorem dX8_fail_55 : decode cX8_fail 55 = .ok (.invokevirtual 231, 3) := by decide +kernel
theorem dX8_fail_58 : decode cX8_fail 58 = .ok (.istore 4, 2) := by decide +kernel
theorem dX8_fail_60 : decode cX8_fail 60 = .ok (.iload 4, 2) := by decide +kernel
theorem dX8_fail_62 : decode cX8_fail 62 = .ok (.iconst (-1), 1) := by decide +kernel
theorem dX8_fail_63 : decode cX8_fail 63 = .ok (.if_icmp .ne 5, 3) := by decide +kernel
theorem dX8_fail_66 : decode cX8_fail 66 = .ok (.iconst (-1), 1) := by decide +kernel
theorem dX8_fail_67 : decode cX8_fail 67 = .ok (.ireturn, 1) := by decide +kernel
theorem dX8_fail_68 : decode cX8_fail 68 = .ok (.aload_n 0, 1) := by decide +kernel
theorem dX8_fail_69 : decode cX8_fail 69 = .ok (.getfield 38, 3) := by decide +kernel
theorem dX8_fail_72 : decode cX8_fail 72 = .ok (.bipush 60, 2) := by decide +kernel
theorem dX8_fail_74 : decode cX8_fail 74 = .ok (.iload 4, 2) := by decide +kernel
theorem dX8_fail_76 : decode cX8_fail 76 = .ok (.imul, 1) := by decide +kernel
theorem dX8_fail_77 : decode cX8_fail 77 = .ok (.iload_n 2, 1) := by decide +kernel
theorem dX8_fail_78 : decode cX8_fail 78 = .ok (.iadd, 1) := by decide +kernel
theorem dX8_fail_79 : decode cX8_fail 79 = .ok (.iload_n 3, 1) := by decide +kernel
theorem dX8_fail_80 : decode cX8_fail 80 = .ok (.iastore, 1) := by decide +kernel
theorem dX8_fail_81 : decode cX8_fail 81 = .ok (.aload_n 0, 1) := by decide +kernel
theorem dX8_fail_82 : decode cX8_fail 82 = .ok (.dup, 1) := by decide +kernel
theorem dX8_fail_83 : decode cX8_fail 83 = .ok (.getfield 197, 3) := by decide +kernel
theorem dX8_fail_86 : decode cX8_fail 86 = .ok (.iconst 1, 1) := by decide +kernel
theorem dX8_fail_87 : decode cX8_fail 87 = .ok (.iadd, 1) := by decide +kernel
theorem dX8_fail_88 : decode cX8_fail 88 = .ok (.putfield 197, 3) := by decide +kernel
theorem dX8_fail_91 : decode cX8_fail 91 = .ok (.iload 4, 2) := by decide +kernel
theorem dX8_fail_93 : decode cX8_fail 93 = .ok (.ireturn, 1) := by decide +kernel
theorem dX8_fill_0 : decode cX8_fill 0 = .ok (.aload_n 0, 1) := by decide +kernel
theorem dX8_fill_1 : decode cX8_fill 1 = .ok (.iload_n 1, 1) := by decide +kernel
theorem dX8_fill_2 : decode cX8_fill 2 = .ok (.invokevirtual 177, 3) := by decide +kernel
theorem dX8_fill_5 : decode cX8_fill 5 = .ok (.ifCond .eq 26, 3) := by decide +kernel
theorem dX8_fill_8 : decode cX8_fill 8 = .ok (.iload_n 2, 1) := by decide +kernel
theorem dX8_fill_9 : decode cX8_fill 9 = .ok (.aload_n 0, 1) := by decide +kernel
theorem dX8_fill_10 : decode cX8_fill 10 = .ok (.getfield 95, 3) := by decide +kernel
theorem dX8_fill_13 : decode cX8_fill 13 = .ok (.bipush 59, 2) := by decide +kernel
theorem dX8_fill_15 : decode cX8_fill 15 = .ok (.invokestatic 88, 3) := by decide +kernel
theorem dX8_fill_18 : decode cX8_fill 18 = .ok (.ifCond .eq 13, 3) := by decide +kernel
theorem dX8_fill_21 : decode cX8_fill 21 = .ok (.iload_n 3, 1) := by decide +kernel
theorem dX8_fill_22 : decode cX8_fill 22 = .ok (.iconst 0, 1) := by decide +kernel
theorem dX8_fill_23 : decode cX8_fill 23 = .ok (.bipush 9, 2) := by decide +kernel
theorem dX8_fill_25 : decode cX8_fill 25 = .ok (.invokestatic 88, 3) := by decide +kernel
theorem dX8_fill_28 : decode cX8_fill 28 = .ok (.ifCond .ne 5, 3) := by decide +kernel
theorem dX8_fill_31 : decode cX8_fill 31 = .ok (.iconst (-1), 1) := by decide +kernel
theorem dX8_fill_32 : decode cX8_fill 32 = .ok (.ireturn, 1) := by decide +kernel
theorem dX8_fill_33 : decode cX8_fill 33 = .ok (.aload_n 0, 1) := by decide +kernel
theorem dX8_fill_34 : decode cX8_fill 34 = .ok (.iload_n 1, 1) := by decide +kernel
theorem dX8_fill_35 : decode cX8_fill 35 = .ok (.iload_n 2, 1) := by decide +kernel
theorem dX8_fill_36 : decode cX8_fill 36 = .ok (.invokevirtual 200, 3) := by decide +kernel
theorem dX8_fill_39 : decode cX8_fill 39 = .ok (.iload_n 3, 1) := by decide +kernel
theorem dX8_fill_40 : decode cX8_fill 40 = .ok (.if_icmp .ge 57, 3) := by decide +kernel
theorem dX8_fill_43 : decode cX8_fill 43 = .ok (.aload_n 0, 1) := by decide +kernel
theorem dX8_fill_44 : decode cX8_fill 44 = .ok (.getfield 197, 3) := by decide +kernel
theorem dX8_fill_47 : decode cX8_fill 47 = .ok (.sipush 400, 3) := by decide +kernel
theorem dX8_fill_50 : decode cX8_fill 50 = .ok (.if_icmp .ge 47, 3) := by decide +kernel
theorem dX8_fill_53 : decode cX8_fill 53 = .ok (.aload_n 0, 1) := by decide +kernel
theorem dX8_fill_54 : decode cX8_fill 54 = .ok (.iload_n 1, 1) := by decide +kernel
theorem dX8_fill_55 : decode cX8_fill 55 = .ok (.iload_n 2, 1) := by decide +kernel
theorem dX8_fill_56 : decode cX8_fill 56 = .ok (.iconst (-1), 1) := by decide +kernel
theorem dX8_fill_57 : decode cX8_fill 57 = .ok (.invokevirtual 231, 3) := by decide +kernel
theorem dX8_fill_60 : decode cX8_fill 60 = .ok (.istore 4, 2) := by decide +kernel
theorem dX8_fill_62 : decode cX8_fill 62 = .ok (.iload 4, 2) := by decide +kernel
theorem dX8_fill_64 : decode cX8_fill 64 = .ok (.iconst (-1), 1) := by decide +kernel
theorem dX8_fill_65 : decode cX8_fill 65 = .ok (.if_icmp .ne 6, 3) := by decide +kernel
theorem dX8_fill_68 : decode cX8_fill 68 = .ok (.goto 29, 3) := by decide +kernel
theorem dX8_fill_71 : decode cX8_fill 71 = .ok (.aload_n 0, 1) := by decide +kernel
theorem dX8_fill_72 : decode cX8_fill 72 = .ok (.getfield 38, 3) := by decide +kernel
theorem dX8_fill_75 : decode cX8_fill 75 = .ok (.bipush 60, 2) := by decide +kernel
theorem dX8_fill_77 : decode cX8_fill 77 = .ok (.iload 4, 2) := by decide +kernel
theorem dX8_fill_79 : decode cX8_fill 79 = .ok (.imul, 1) := by decide +kernel
theorem dX8_fill_80 : decode cX8_fill 80 = .ok (.iload_n 2, 1) := by decide +kernel
theorem dX8_fill_81 : decode cX8_fill 81 = .ok (.iadd, 1) := by decide +kernel
theorem dX8_fill_82 : decode cX8_fill 82 = .ok (.iload_n 1, 1) := by decide +kernel
theorem dX8_fill_83 : decode cX8_fill 83 = .ok (.iastore, 1) := by decide +kernel
theorem dX8_fill_84 : decode cX8_fill 84 = .ok (.aload_n 0, 1) := by decide +kernel
theorem dX8_fill_85 : decode cX8_fill 85 = .ok (.dup, 1) := by decide +kernel
theorem dX8_fill_86 : decode cX8_fill 86 = .ok (.getfield 197, 3) := by decide +kernel
theorem dX8_fill_89 : decode cX8_fill 89 = .ok (.iconst 1, 1) := by decide +kernel
theorem dX8_fill_90 : decode cX8_fill 90 = .ok (.iadd, 1) := by decide +kernel
theorem dX8_fill_91 : decode cX8_fill 91 = .ok (.putfield 197, 3) := by decide +kernel
theorem dX8_fill_94 : decode cX8_fill 94 = .ok (.goto (-61), 3) := by decide +kernel
theorem dX8_fill_97 : decode cX8_fill 97 = .ok (.aload_n 0, 1) := by decide +kernel
theorem dX8_fill_98 : decode cX8_fill 98 = .ok (.iload_n 1, 1) := by decide +kernel
theorem dX8_fill_99 : decode cX8_fill 99 = .ok (.iload_n 2, 1) := by decide +kernel
theorem dX8_fill_100 : decode cX8_fill 100 = .ok (.invokevirtual 200, 3) := by decide +kernel
theorem dX8_fill_103 : decode cX8_fill 103 = .ok (.ireturn, 1) := by decide +kernel
theorem dX8_pay_0 : decode cX8_pay 0 = .ok (.aload_n 0, 1) := by decide +kernel
theorem dX8_pay_1 : decode cX8_pay 1 = .ok (.iload_n 1, 1) := by decide +kernel
theorem dX8_pay_2 : decode cX8_pay 2 = .ok (.invokevirtual 150, 3) := by decide +kernel
theorem dX8_pay_5 : decode cX8_pay 5 = .ok (.ifCond .eq 42, 3) := by decide +kernel
theorem dX8_pay_8 : decode cX8_pay 8 = .ok (.iload_n 2, 1) := by decide +kernel
theorem dX8_pay_9 : decode cX8_pay 9 = .ok (.invokestatic 154, 3) := by decide +kernel
theorem dX8_pay_12 : decode cX8_pay 12 = .ok (.ifCond .eq 35, 3) := by decide +kernel
theorem dX8_pay_15 : decode cX8_pay 15 = .ok (.iload_n 3, 1) := by decide +kernel
theorem dX8_pay_16 : decode cX8_pay 16 = .ok (.invokestatic 154, 3) := by decide +kernel
theorem dX8_pay_19 : decode cX8_pay 19 = .ok (.ifCond .eq 28, 3) := by decide +kernel
theorem dX8_pay_22 : decode cX8_pay 22 = .ok (.aload_n 0, 1) := by decide +kernel
theorem dX8_pay_23 : decode cX8_pay 23 = .ok (.iload_n 1, 1) := by decide +kernel
theorem dX8_pay_24 : decode cX8_pay 24 = .ok (.iload_n 2, 1) := by decide +kernel
theorem dX8_pay_25 : decode cX8_pay 25 = .ok (.invokevirtual 173, 3) := by decide +kernel
theorem dX8_pay_28 : decode cX8_pay 28 = .ok (.iconst (-1), 1) := by decide +kernel
theorem dX8_pay_29 : decode cX8_pay 29 = .ok (.if_icmp .eq 18, 3) := by decide +kernel
theorem dX8_pay_32 : decode cX8_pay 32 = .ok (.aload_n 0, 1) := by decide +kernel
theorem dX8_pay_33 : decode cX8_pay 33 = .ok (.aload_n 0, 1) := by decide +kernel
theorem dX8_pay_34 : decode cX8_pay 34 = .ok (.iload_n 1, 1) := by decide +kernel
theorem dX8_pay_35 : decode cX8_pay 35 = .ok (.iload_n 2, 1) := by decide +kernel
theorem dX8_pay_36 : decode cX8_pay 36 = .ok (.iload_n 3, 1) := by decide +kernel
theorem dX8_pay_37 : decode cX8_pay 37 = .ok (.invokevirtual 163, 3) := by decide +kernel
theorem dX8_pay_40 : decode cX8_pay 40 = .ok (.iconst 4, 1) := by decide +kernel
theorem dX8_pay_41 : decode cX8_pay 41 = .ok (.invokevirtual 207, 3) := by decide +kernel
theorem dX8_pay_44 : decode cX8_pay 44 = .ok (.goto 4, 3) := by decide +kernel
theorem dX8_pay_47 : decode cX8_pay 47 = .ok (.iconst 0, 1) := by decide +kernel
theorem dX8_pay_48 : decode cX8_pay 48 = .ok (.ireturn, 1) := by decide +kernel
theorem dX8_turnOf_0 : decode cX8_turnOf 0 = .ok (.aload_n 0, 1) := by decide +kernel
theorem dX8_turnOf_1 : decode cX8_turnOf 1 = .ok (.iload_n 1, 1) := by decide +kernel
theorem dX8_turnOf_2 : decode cX8_turnOf 2 = .ok (.invokevirtual 150, 3) := by decide +kernel
theorem dX8_turnOf_5 : decode cX8_turnOf 5 = .ok (.ifCond .ne 5, 3) := by decide +kernel
theorem dX8_turnOf_8 : decode cX8_turnOf 8 = .ok (.iconst (-1), 1) := by decide +kernel
theorem dX8_turnOf_9 : decode cX8_turnOf 9 = .ok (.ireturn, 1) := by decide +kernel
theorem dX8_turnOf_10 : decode cX8_turnOf 10 = .ok (.iload_n 2, 1) := by decide +kernel
theorem dX8_turnOf_11 : decode cX8_turnOf 11 = .ok (.tableswitch 128 0 6 #[41, 48, 55, 65, 72, 79, 121], 41) := by decide +kernel
theorem dX8_turnOf_52 : decode cX8_turnOf 52 = .ok (.aload_n 0, 1) := by decide +kernel
theorem dX8_turnOf_53 : decode cX8_turnOf 53 = .ok (.getfield 7, 3) := by decide +kernel
theorem dX8_turnOf_56 : decode cX8_turnOf 56 = .ok (.iload_n 1, 1) := by decide +kernel
theorem dX8_turnOf_57 : decode cX8_turnOf 57 = .ok (.iaload, 1) := by decide +kernel
theorem dX8_turnOf_58 : decode cX8_turnOf 58 = .ok (.ireturn, 1) := by decide +kernel
theorem dX8_turnOf_59 : decode cX8_turnOf 59 = .ok (.aload_n 0, 1) := by decide +kernel
theorem dX8_turnOf_60 : decode cX8_turnOf 60 = .ok (.getfield 13, 3) := by decide +kernel
theorem dX8_turnOf_63 : decode cX8_turnOf 63 = .ok (.iload_n 1, 1) := by decide +kernel
theorem dX8_turnOf_64 : decode cX8_turnOf 64 = .ok (.iaload, 1) := by decide +kernel
theorem dX8_turnOf_65 : decode cX8_turnOf 65 = .ok (.ireturn, 1) := by decide +kernel
theorem dX8_turnOf_66 : decode cX8_turnOf 66 = .ok (.aload_n 0, 1) := by decide +kernel
theorem dX8_turnOf_67 : decode cX8_turnOf 67 = .ok (.getfield 25, 3) := by decide +kernel
theorem dX8_turnOf_70 : decode cX8_turnOf 70 = .ok (.iload_n 1, 1) := by decide +kernel
theorem dX8_turnOf_71 : decode cX8_turnOf 71 = .ok (.baload, 1) := by decide +kernel
theorem dX8_turnOf_72 : decode cX8_turnOf 72 = .ok (.invokestatic 190, 3) := by decide +kernel
theorem dX8_turnOf_75 : decode cX8_turnOf 75 = .ok (.ireturn, 1) := by decide +kernel
theorem dX8_turnOf_76 : decode cX8_turnOf 76 = .ok (.aload_n 0, 1) := by decide +kernel
theorem dX8_turnOf_77 : decode cX8_turnOf 77 = .ok (.getfield 16, 3) := by decide +kernel
theorem dX8_turnOf_80 : decode cX8_turnOf 80 = .ok (.iload_n 1, 1) := by decide +kernel
theorem dX8_turnOf_81 : decode cX8_turnOf 81 = .ok (.iaload, 1) := by decide +kernel
theorem dX8_turnOf_82 : decode cX8_turnOf 82 = .ok (.ireturn, 1) := by decide +kernel
theorem dX8_turnOf_83 : decode cX8_turnOf 83 = .ok (.aload_n 0, 1) := by decide +kernel
theorem dX8_turnOf_84 : decode cX8_turnOf 84 = .ok (.getfield 19, 3) := by decide +kernel
theorem dX8_turnOf_87 : decode cX8_turnOf 87 = .ok (.iload_n 1, 1) := by decide +kernel
theorem dX8_turnOf_88 : decode cX8_turnOf 88 = .ok (.iaload, 1) := by decide +kernel
theorem dX8_turnOf_89 : decode cX8_turnOf 89 = .ok (.ireturn, 1) := by decide +kernel
theorem dX8_turnOf_90 : decode cX8_turnOf 90 = .ok (.iconst 0, 1) := by decide +kernel
theorem dX8_turnOf_91 : decode cX8_turnOf 91 = .ok (.istore_n 3, 1) := by decide +kernel
theorem dX8_turnOf_92 : decode cX8_turnOf 92 = .ok (.iconst 0, 1) := by decide +kernel
theorem dX8_turnOf_93 : decode cX8_turnOf 93 = .ok (.istore 4, 2) := by decide +kernel
theorem dX8_turnOf_95 : decode cX8_turnOf 95 = .ok (.iload 4, 2) := by decide +kernel
theorem dX8_turnOf_97 : decode cX8_turnOf 97 = .ok (.bipush 60, 2) := by decide +kernel
theorem dX8_turnOf_99 : decode cX8_turnOf 99 = .ok (.if_icmp .ge 31, 3) := by decide +kernel
theorem dX8_turnOf_102 : decode cX8_turnOf 102 = .ok (.iload_n 3, 1) := by decide +kernel
theorem dX8_turnOf_103 : decode cX8_turnOf 103 = .ok (.aload_n 0, 1) := by decide +kernel
theorem dX8_turnOf_104 : decode cX8_turnOf 104 = .ok (.iload_n 1, 1) := by decide +kernel
theorem dX8_turnOf_105 : decode cX8_turnOf 105 = .ok (.iload 4, 2) := by decide +kernel
theorem dX8_turnOf_107 : decode cX8_turnOf 107 = .ok (.invokevirtual 173, 3) := by decide +kernel
theorem dX8_turnOf_110 : decode cX8_turnOf 110 = .ok (.iconst (-1), 1) := by decide +kernel
theorem dX8_turnOf_111 : decode cX8_turnOf 111 = .ok (.if_icmp .eq 7, 3) := by decide +kernel
theorem dX8_turnOf_114 : decode cX8_turnOf 114 = .ok (.iconst 1, 1) := by decide +kernel
theorem dX8_turnOf_115 : decode cX8_turnOf 115 = .ok (.goto 4, 3) := by decide +kernel
theorem dX8_turnOf_118 : decode cX8_turnOf 118 = .ok (.iconst 0, 1) := by decide +kernel
theorem dX8_turnOf_119 : decode cX8_turnOf 119 = .ok (.invokestatic 190, 3) := by decide +kernel
theorem dX8_turnOf_122 : decode cX8_turnOf 122 = .ok (.iadd, 1) := by decide +kernel
theorem dX8_turnOf_123 : decode cX8_turnOf 123 = .ok (.istore_n 3, 1) := by decide +kernel
theorem dX8_turnOf_124 : decode cX8_turnOf 124 = .ok (.iinc 4 1, 3) := by decide +kernel
theorem dX8_turnOf_127 : decode cX8_turnOf 127 = .ok (.goto (-32), 3) := by decide +kernel
theorem dX8_turnOf_130 : decode cX8_turnOf 130 = .ok (.iload_n 3, 1) := by decide +kernel
theorem dX8_turnOf_131 : decode cX8_turnOf 131 = .ok (.ireturn, 1) := by decide +kernel
theorem dX8_turnOf_132 : decode cX8_turnOf 132 = .ok (.aload_n 0, 1) := by decide +kernel
theorem dX8_turnOf_133 : decode cX8_turnOf 133 = .ok (.getfield 22, 3) := by decide +kernel
theorem dX8_turnOf_136 : decode cX8_turnOf 136 = .ok (.iload_n 1, 1) := by decide +kernel
theorem dX8_turnOf_137 : decode cX8_turnOf 137 = .ok (.iaload, 1) := by decide +kernel
theorem dX8_turnOf_138 : decode cX8_turnOf 138 = .ok (.ireturn, 1) := by decide +kernel
theorem dX8_turnOf_139 : decode cX8_turnOf 139 = .ok (.iconst (-1), 1) := by decide +kernel
theorem dX8_turnOf_140 : decode cX8_turnOf 140 = .ok (.ireturn, 1) := by decide +kernel
theorem dX8_count_0 : decode cX8_count 0 = .ok (.iload_n 1, 1) := by decide +kernel
theorem dX8_count_1 : decode cX8_count 1 = .ok (.tableswitch 69 0 5 #[39, 44, 49, 54, 59, 64], 39) := by decide +kernel
theorem dX8_count_40 : decode cX8_count 40 = .ok (.aload_n 0, 1) := by decide +kernel
theorem dX8_count_41 : decode cX8_count 41 = .ok (.getfield 95, 3) := by decide +kernel
theorem dX8_count_44 : decode cX8_count 44 = .ok (.ireturn, 1) := by decide +kernel
theorem dX8_count_45 : decode cX8_count 45 = .ok (.aload_n 0, 1) := by decide +kernel
theorem dX8_count_46 : decode cX8_count 46 = .ok (.getfield 85, 3) := by decide +kernel
theorem dX8_count_49 : decode cX8_count 49 = .ok (.ireturn, 1) := by decide +kernel
theorem dX8_count_50 : decode cX8_count 50 = .ok (.aload_n 0, 1) := by decide +kernel
theorem dX8_count_51 : decode cX8_count 51 = .ok (.getfield 92, 3) := by decide +kernel
theorem dX8_count_54 : decode cX8_count 54 = .ok (.ireturn, 1) := by decide +kernel
theorem dX8_count_55 : decode cX8_count 55 = .ok (.aload_n 0, 1) := by decide +kernel
theorem dX8_count_56 : decode cX8_count 56 = .ok (.getfield 157, 3) := by decide +kernel
theorem dX8_count_59 : decode cX8_count 59 = .ok (.ireturn, 1) := by decide +kernel
theorem dX8_count_60 : decode cX8_count 60 = .ok (.aload_n 0, 1) := by decide +kernel
theorem dX8_count_61 : decode cX8_count 61 = .ok (.getfield 197, 3) := by decide +kernel
theorem dX8_count_64 : decode cX8_count 64 = .ok (.ireturn, 1) := by decide +kernel
theorem dX8_count_65 : decode cX8_count 65 = .ok (.aload_n 0, 1) := by decide +kernel
theorem dX8_count_66 : decode cX8_count 66 = .ok (.getfield 98, 3) := by decide +kernel
theorem dX8_count_69 : decode cX8_count 69 = .ok (.ireturn, 1) := by decide +kernel
theorem dX8_count_70 : decode cX8_count 70 = .ok (.iconst (-1), 1) := by decide +kernel
theorem dX8_count_71 : decode cX8_count 71 = .ok (.ireturn, 1) := by decide +kernel
theorem dJ6_bitCount_0f7a4_0 : decode cJ6_bitCount_0f7a4 0 = .ok (.iload_n 0, 1) := by decide +kernel
theorem dJ6_bitCount_0f7a4_1 : decode cJ6_bitCount_0f7a4 1 = .ok (.iload_n 0, 1) := by decide +kernel
theorem dJ6_bitCount_0f7a4_2 : decode cJ6_bitCount_0f7a4 2 = .ok (.iconst 1, 1) := by decide +kernel
theorem dJ6_bitCount_0f7a4_3 : decode cJ6_bitCount_0f7a4 3 = .ok (.iushr, 1) := by decide +kernel
theorem dJ6_bitCount_0f7a4_4 : decode cJ6_bitCount_0f7a4 4 = .ok (.ldc_w 265, 3) := by decide +kernel
theorem dJ6_bitCount_0f7a4_7 : decode cJ6_bitCount_0f7a4 7 = .ok (.iand, 1) := by decide +kernel
theorem dJ6_bitCount_0f7a4_8 : decode cJ6_bitCount_0f7a4 8 = .ok (.isub, 1) := by decide +kernel
theorem dJ6_bitCount_0f7a4_9 : decode cJ6_bitCount_0f7a4 9 = .ok (.istore_n 0, 1) := by decide +kernel
theorem dJ6_bitCount_0f7a4_10 : decode cJ6_bitCount_0f7a4 10 = .ok (.iload_n 0, 1) := by decide +kernel
theorem dJ6_bitCount_0f7a4_11 : decode cJ6_bitCount_0f7a4 11 = .ok (.ldc_w 266, 3) := by decide +kernel
theorem dJ6_bitCount_0f7a4_14 : decode cJ6_bitCount_0f7a4 14 = .ok (.iand, 1) := by decide +kernel
theorem dJ6_bitCount_0f7a4_15 : decode cJ6_bitCount_0f7a4 15 = .ok (.iload_n 0, 1) := by decide +kernel
theorem dJ6_bitCount_0f7a4_16 : decode cJ6_bitCount_0f7a4 16 = .ok (.iconst 2, 1) := by decide +kernel
theorem dJ6_bitCount_0f7a4_17 : decode cJ6_bitCount_0f7a4 17 = .ok (.iushr, 1) := by decide +kernel
theorem dJ6_bitCount_0f7a4_18 : decode cJ6_bitCount_0f7a4 18 = .ok (.ldc_w 266, 3) := by decide +kernel
theorem dJ6_bitCount_0f7a4_21 : decode cJ6_bitCount_0f7a4 21 = .ok (.iand, 1) := by decide +kernel
theorem dJ6_bitCount_0f7a4_22 : decode cJ6_bitCount_0f7a4 22 = .ok (.iadd, 1) := by decide +kernel
theorem dJ6_bitCount_0f7a4_23 : decode cJ6_bitCount_0f7a4 23 = .ok (.istore_n 0, 1) := by decide +kernel
theorem dJ6_bitCount_0f7a4_24 : decode cJ6_bitCount_0f7a4 24 = .ok (.iload_n 0, 1) := by decide +kernel
theorem dJ6_bitCount_0f7a4_25 : decode cJ6_bitCount_0f7a4 25 = .ok (.iload_n 0, 1) := by decide +kernel
theorem dJ6_bitCount_0f7a4_26 : decode cJ6_bitCount_0f7a4 26 = .ok (.iconst 4, 1) := by decide +kernel
theorem dJ6_bitCount_0f7a4_27 : decode cJ6_bitCount_0f7a4 27 = .ok (.iushr, 1) := by decide +kernel
theorem dJ6_bitCount_0f7a4_28 : decode cJ6_bitCount_0f7a4 28 = .ok (.iadd, 1) := by decide +kernel
theorem dJ6_bitCount_0f7a4_29 : decode cJ6_bitCount_0f7a4 29 = .ok (.ldc_w 267, 3) := by decide +kernel
theorem dJ6_bitCount_0f7a4_32 : decode cJ6_bitCount_0f7a4 32 = .ok (.iand, 1) := by decide +kernel
theorem dJ6_bitCount_0f7a4_33 : decode cJ6_bitCount_0f7a4 33 = .ok (.istore_n 0, 1) := by decide +kernel
theorem dJ6_bitCount_0f7a4_34 : decode cJ6_bitCount_0f7a4 34 = .ok (.iload_n 0, 1) := by decide +kernel
theorem dJ6_bitCount_0f7a4_35 : decode cJ6_bitCount_0f7a4 35 = .ok (.iload_n 0, 1) := by decide +kernel
theorem dJ6_bitCount_0f7a4_36 : decode cJ6_bitCount_0f7a4 36 = .ok (.bipush 8, 2) := by decide +kernel
theorem dJ6_bitCount_0f7a4_38 : decode cJ6_bitCount_0f7a4 38 = .ok (.iushr, 1) := by decide +kernel
theorem dJ6_bitCount_0f7a4_39 : decode cJ6_bitCount_0f7a4 39 = .ok (.iadd, 1) := by decide +kernel
theorem dJ6_bitCount_0f7a4_40 : decode cJ6_bitCount_0f7a4 40 = .ok (.istore_n 0, 1) := by decide +kernel
theorem dJ6_bitCount_0f7a4_41 : decode cJ6_bitCount_0f7a4 41 = .ok (.iload_n 0, 1) := by decide +kernel
theorem dJ6_bitCount_0f7a4_42 : decode cJ6_bitCount_0f7a4 42 = .ok (.iload_n 0, 1) := by decide +kernel
theorem dJ6_bitCount_0f7a4_43 : decode cJ6_bitCount_0f7a4 43 = .ok (.bipush 16, 2) := by decide +kernel
theorem dJ6_bitCount_0f7a4_45 : decode cJ6_bitCount_0f7a4 45 = .ok (.iushr, 1) := by decide +kernel
theorem dJ6_bitCount_0f7a4_46 : decode cJ6_bitCount_0f7a4 46 = .ok (.iadd, 1) := by decide +kernel
theorem dJ6_bitCount_0f7a4_47 : decode cJ6_bitCount_0f7a4 47 = .ok (.istore_n 0, 1) := by decide +kernel
theorem dJ6_bitCount_0f7a4_48 : decode cJ6_bitCount_0f7a4 48 = .ok (.iload_n 0, 1) := by decide +kernel
theorem dJ6_bitCount_0f7a4_49 : decode cJ6_bitCount_0f7a4 49 = .ok (.bipush 63, 2) := by decide +kernel
theorem dJ6_bitCount_0f7a4_51 : decode cJ6_bitCount_0f7a4 51 = .ok (.iand, 1) := by decide +kernel
theorem dJ6_bitCount_0f7a4_52 : decode cJ6_bitCount_0f7a4 52 = .ok (.ireturn, 1) := by decide +kernel
theorem dJ9_abs_0f7a4_0 : decode cJ9_abs_0f7a4 0 = .ok (.iload_n 0, 1) := by decide +kernel
theorem dJ9_abs_0f7a4_1 : decode cJ9_abs_0f7a4 1 = .ok (.ifCond .ge 8, 3) := by decide +kernel
theorem dJ9_abs_0f7a4_4 : decode cJ9_abs_0f7a4 4 = .ok (.iload_n 0, 1) := by decide +kernel
theorem dJ9_abs_0f7a4_5 : decode cJ9_abs_0f7a4 5 = .ok (.ineg, 1) := by decide +kernel
theorem dJ9_abs_0f7a4_6 : decode cJ9_abs_0f7a4 6 = .ok (.goto 4, 3) := by decide +kernel
theorem dJ9_abs_0f7a4_9 : decode cJ9_abs_0f7a4 9 = .ok (.iload_n 0, 1) := by decide +kernel
theorem dJ9_abs_0f7a4_10 : decode cJ9_abs_0f7a4 10 = .ok (.ireturn, 1) := by decide +kernel
theorem dJ9_min_7cf53_0 : decode cJ9_min_7cf53 0 = .ok (.iload_n 0, 1) := by decide +kernel
theorem dJ9_min_7cf53_1 : decode cJ9_min_7cf53 1 = .ok (.iload_n 1, 1) := by decide +kernel
theorem dJ9_min_7cf53_2 : decode cJ9_min_7cf53 2 = .ok (.if_icmp .gt 7, 3) := by decide +kernel
theorem dJ9_min_7cf53_5 : decode cJ9_min_7cf53 5 = .ok (.iload_n 0, 1) := by decide +kernel
theorem dJ9_min_7cf53_6 : decode cJ9_min_7cf53 6 = .ok (.goto 4, 3) := by decide +kernel
theorem dJ9_min_7cf53_9 : decode cJ9_min_7cf53 9 = .ok (.iload_n 1, 1) := by decide +kernel
theorem dJ9_min_7cf53_10 : decode cJ9_min_7cf53 10 = .ok (.ireturn, 1) := by decide +kernel
theorem dJ0_length_8abf5_0 : decode cJ0_length_8abf5 0 = .ok (.aload_n 0, 1) := by decide +kernel
theorem dJ0_length_8abf5_1 : decode cJ0_length_8abf5 1 = .ok (.getfield 9, 3) := by decide +kernel
theorem dJ0_length_8abf5_4 : decode cJ0_length_8abf5 4 = .ok (.arraylength, 1) := by decide +kernel
theorem dJ0_length_8abf5_5 : decode cJ0_length_8abf5 5 = .ok (.aload_n 0, 1) := by decide +kernel
theorem dJ0_length_8abf5_6 : decode cJ0_length_8abf5 6 = .ok (.invokevirtual 335, 3) := by decide +kernel
theorem dJ0_length_8abf5_9 : decode cJ0_length_8abf5 9 = .ok (.ishr, 1) := by decide +kernel
theorem dJ0_length_8abf5_10 : decode cJ0_length_8abf5 10 = .ok (.ireturn, 1) := by decide +kernel
theorem dJ0_charAt_5068e_0 : decode cJ0_charAt_5068e 0 = .ok (.aload_n 0, 1) := by decide +kernel
theorem dJ0_charAt_5068e_1 : decode cJ0_charAt_5068e 1 = .ok (.invokevirtual 492, 3) := by decide +kernel
theorem dJ0_charAt_5068e_4 : decode cJ0_charAt_5068e 4 = .ok (.ifCond .eq 12, 3) := by decide +kernel
theorem dJ0_charAt_5068e_7 : decode cJ0_charAt_5068e 7 = .ok (.aload_n 0, 1) := by decide +kernel
theorem dJ0_charAt_5068e_8 : decode cJ0_charAt_5068e 8 = .ok (.getfield 9, 3) := by decide +kernel
theorem dJ0_charAt_5068e_11 : decode cJ0_charAt_5068e 11 = .ok (.iload_n 1, 1) := by decide +kernel
theorem dJ0_charAt_5068e_12 : decode cJ0_charAt_5068e 12 = .ok (.invokestatic 495, 3) := by decide +kernel
theorem dJ0_charAt_5068e_15 : decode cJ0_charAt_5068e 15 = .ok (.ireturn, 1) := by decide +kernel
theorem dJ0_charAt_5068e_16 : decode cJ0_charAt_5068e 16 = .ok (.aload_n 0, 1) := by decide +kernel
theorem dJ0_charAt_5068e_17 : decode cJ0_charAt_5068e 17 = .ok (.getfield 9, 3) := by decide +kernel
theorem dJ0_charAt_5068e_20 : decode cJ0_charAt_5068e 20 = .ok (.iload_n 1, 1) := by decide +kernel
theorem dJ0_charAt_5068e_21 : decode cJ0_charAt_5068e 21 = .ok (.invokestatic 498, 3) := by decide +kernel
theorem dJ0_charAt_5068e_24 : decode cJ0_charAt_5068e 24 = .ok (.ireturn, 1) := by decide +kernel
theorem dJ0_coder_7d493_0 : decode cJ0_coder_7d493 0 = .ok (.getstatic 38, 3) := by decide +kernel
theorem dJ0_coder_7d493_3 : decode cJ0_coder_7d493 3 = .ok (.ifCond .eq 10, 3) := by decide +kernel
theorem dJ0_coder_7d493_6 : decode cJ0_coder_7d493 6 = .ok (.aload_n 0, 1) := by decide +kernel
theorem dJ0_coder_7d493_7 : decode cJ0_coder_7d493 7 = .ok (.getfield 15, 3) := by decide +kernel
theorem dJ0_coder_7d493_10 : decode cJ0_coder_7d493 10 = .ok (.goto 4, 3) := by decide +kernel
theorem dJ0_coder_7d493_13 : decode cJ0_coder_7d493 13 = .ok (.iconst 1, 1) := by decide +kernel
theorem dJ0_coder_7d493_14 : decode cJ0_coder_7d493 14 = .ok (.ireturn, 1) := by decide +kernel
theorem dJ0_isLatin1_aae02_0 : decode cJ0_isLatin1_aae02 0 = .ok (.getstatic 38, 3) := by decide +kernel
theorem dJ0_isLatin1_aae02_3 : decode cJ0_isLatin1_aae02 3 = .ok (.ifCond .eq 14, 3) := by decide +kernel
theorem dJ0_isLatin1_aae02_6 : decode cJ0_isLatin1_aae02 6 = .ok (.aload_n 0, 1) := by decide +kernel
theorem dJ0_isLatin1_aae02_7 : decode cJ0_isLatin1_aae02 7 = .ok (.getfield 15, 3) := by decide +kernel
theorem dJ0_isLatin1_aae02_10 : decode cJ0_isLatin1_aae02 10 = .ok (.ifCond .ne 7, 3) := by decide +kernel
theorem dJ0_isLatin1_aae02_13 : decode cJ0_isLatin1_aae02 13 = .ok (.iconst 1, 1) := by decide +kernel
theorem dJ0_isLatin1_aae02_14 : decode cJ0_isLatin1_aae02 14 = .ok (.goto 4, 3) := by decide +kernel
theorem dJ0_isLatin1_aae02_17 : decode cJ0_isLatin1_aae02 17 = .ok (.iconst 0, 1) := by decide +kernel
theorem dJ0_isLatin1_aae02_18 : decode cJ0_isLatin1_aae02 18 = .ok (.ireturn, 1) := by decide +kernel
theorem dJ0_checkIndex_df160_0 : decode cJ0_checkIndex_df160 0 = .ok (.iload_n 0, 1) := by decide +kernel
theorem dJ0_checkIndex_df160_1 : decode cJ0_checkIndex_df160 1 = .ok (.iload_n 1, 1) := by decide +kernel
theorem dJ0_checkIndex_df160_2 : decode cJ0_checkIndex_df160 2 = .ok (.getstatic 1053, 3) := by decide +kernel
theorem dJ0_checkIndex_df160_5 : decode cJ0_checkIndex_df160 5 = .ok (.invokestatic 1059, 3) := by decide +kernel
theorem dJ0_checkIndex_df160_8 : decode cJ0_checkIndex_df160 8 = .ok (.pop, 1) := by decide +kernel
theorem dJ0_checkIndex_df160_9 : decode cJ0_checkIndex_df160 9 = .ok (.return_, 1) := by decide +kernel
theorem dJ1_charAt_3b067_0 : decode cJ1_charAt_3b067 0 = .ok (.iload_n 1, 1) := by decide +kernel
theorem dJ1_charAt_3b067_1 : decode cJ1_charAt_3b067 1 = .ok (.aload_n 0, 1) := by decide +kernel
theorem dJ1_charAt_3b067_2 : decode cJ1_charAt_3b067 2 = .ok (.arraylength, 1) := by decide +kernel
theorem dJ1_charAt_3b067_3 : decode cJ1_charAt_3b067 3 = .ok (.invokestatic 9, 3) := by decide +kernel
theorem dJ1_charAt_3b067_6 : decode cJ1_charAt_3b067 6 = .ok (.aload_n 0, 1) := by decide +kernel
theorem dJ1_charAt_3b067_7 : decode cJ1_charAt_3b067 7 = .ok (.iload_n 1, 1) := by decide +kernel
theorem dJ1_charAt_3b067_8 : decode cJ1_charAt_3b067 8 = .ok (.baload, 1) := by decide +kernel
theorem dJ1_charAt_3b067_9 : decode cJ1_charAt_3b067 9 = .ok (.sipush 255, 3) := by decide +kernel
theorem dJ1_charAt_3b067_12 : decode cJ1_charAt_3b067 12 = .ok (.iand, 1) := by decide +kernel
theorem dJ1_charAt_3b067_13 : decode cJ1_charAt_3b067 13 = .ok (.i2c, 1) := by decide +kernel
theorem dJ1_charAt_3b067_14 : decode cJ1_charAt_3b067 14 = .ok (.ireturn, 1) := by decide +kernel
theorem dJ2_getChar_3b067_0 : decode cJ2_getChar_3b067 0 = .ok (.getstatic 44, 3) := by decide +kernel
theorem dJ2_getChar_3b067_3 : decode cJ2_getChar_3b067 3 = .ok (.ifCond .ne 25, 3) := by decide +kernel
theorem dJ2_getChar_3b067_6 : decode cJ2_getChar_3b067 6 = .ok (.iload_n 1, 1) := by decide +kernel
theorem dJ2_getChar_3b067_7 : decode cJ2_getChar_3b067 7 = .ok (.ifCond .lt 11, 3) := by decide +kernel
theorem dJ2_getChar_3b067_10 : decode cJ2_getChar_3b067 10 = .ok (.iload_n 1, 1) := by decide +kernel
theorem dJ2_getChar_3b067_11 : decode cJ2_getChar_3b067 11 = .ok (.aload_n 0, 1) := by decide +kernel
theorem dJ2_getChar_3b067_12 : decode cJ2_getChar_3b067 12 = .ok (.invokestatic 48, 3) := by decide +kernel
theorem dJ2_getChar_3b067_15 : decode cJ2_getChar_3b067 15 = .ok (.if_icmp .lt 13, 3) := by decide +kernel
theorem dJ2_getChar_3b067_18 : decode cJ2_getChar_3b067 18 = .ok (.new 52, 3) := by decide +kernel
theorem dJ2_getChar_3b067_21 : decode cJ2_getChar_3b067 21 = .ok (.dup, 1) := by decide +kernel
theorem dJ2_getChar_3b067_22 : decode cJ2_getChar_3b067 22 = .ok (.ldc 54, 2) := by decide +kernel
theorem dJ2_getChar_3b067_24 : decode cJ2_getChar_3b067 24 = .ok (.invokespecial 56, 3) := by decide +kernel
theorem dJ2_getChar_3b067_27 : decode cJ2_getChar_3b067 27 = .ok (.athrow, 1) := by decide +kernel
theorem dJ2_getChar_3b067_28 : decode cJ2_getChar_3b067 28 = .ok (.iload_n 1, 1) := by decide +kernel
theorem dJ2_getChar_3b067_29 : decode cJ2_getChar_3b067 29 = .ok (.iconst 1, 1) := by decide +kernel
theorem dJ2_getChar_3b067_30 : decode cJ2_getChar_3b067 30 = .ok (.ishl, 1) := by decide +kernel
theorem dJ2_getChar_3b067_31 : decode cJ2_getChar_3b067 31 = .ok (.istore_n 1, 1) := by decide +kernel
theorem dJ2_getChar_3b067_32 : decode cJ2_getChar_3b067 32 = .ok (.aload_n 0, 1) := by decide +kernel
theorem dJ2_getChar_3b067_33 : decode cJ2_getChar_3b067 33 = .ok (.iload_n 1, 1) := by decide +kernel
theorem dJ2_getChar_3b067_34 : decode cJ2_getChar_3b067 34 = .ok (.iinc 1 1, 3) := by decide +kernel
theorem dJ2_getChar_3b067_37 : decode cJ2_getChar_3b067 37 = .ok (.baload, 1) := by decide +kernel
theorem dJ2_getChar_3b067_38 : decode cJ2_getChar_3b067 38 = .ok (.sipush 255, 3) := by decide +kernel
theorem dJ2_getChar_3b067_41 : decode cJ2_getChar_3b067 41 = .ok (.iand, 1) := by decide +kernel
theorem dJ2_getChar_3b067_42 : decode cJ2_getChar_3b067 42 = .ok (.getstatic 59, 3) := by decide +kernel
theorem dJ2_getChar_3b067_45 : decode cJ2_getChar_3b067 45 = .ok (.ishl, 1) := by decide +kernel
theorem dJ2_getChar_3b067_46 : decode cJ2_getChar_3b067 46 = .ok (.aload_n 0, 1) := by decide +kernel
theorem dJ2_getChar_3b067_47 : decode cJ2_getChar_3b067 47 = .ok (.iload_n 1, 1) := by decide +kernel
theorem dJ2_getChar_3b067_48 : decode cJ2_getChar_3b067 48 = .ok (.baload, 1) := by decide +kernel
theorem dJ2_getChar_3b067_49 : decode cJ2_getChar_3b067 49 = .ok (.sipush 255, 3) := by decide +kernel
theorem dJ2_getChar_3b067_52 : decode cJ2_getChar_3b067 52 = .ok (.iand, 1) := by decide +kernel
theorem dJ2_getChar_3b067_53 : decode cJ2_getChar_3b067 53 = .ok (.getstatic 63, 3) := by decide +kernel
theorem dJ2_getChar_3b067_56 : decode cJ2_getChar_3b067 56 = .ok (.ishl, 1) := by decide +kernel
theorem dJ2_getChar_3b067_57 : decode cJ2_getChar_3b067 57 = .ok (.ior, 1) := by decide +kernel
theorem dJ2_getChar_3b067_58 : decode cJ2_getChar_3b067 58 = .ok (.i2c, 1) := by decide +kernel
theorem dJ2_getChar_3b067_59 : decode cJ2_getChar_3b067 59 = .ok (.ireturn, 1) := by decide +kernel
theorem dJ2_length_9d52b_0 : decode cJ2_length_9d52b 0 = .ok (.aload_n 0, 1) := by decide +kernel
theorem dJ2_length_9d52b_1 : decode cJ2_length_9d52b 1 = .ok (.arraylength, 1) := by decide +kernel
theorem dJ2_length_9d52b_2 : decode cJ2_length_9d52b 2 = .ok (.iconst 1, 1) := by decide +kernel
theorem dJ2_length_9d52b_3 : decode cJ2_length_9d52b 3 = .ok (.ishr, 1) := by decide +kernel
theorem dJ2_length_9d52b_4 : decode cJ2_length_9d52b 4 = .ok (.ireturn, 1) := by decide +kernel
theorem dJ2_charAt_3b067_0 : decode cJ2_charAt_3b067 0 = .ok (.iload_n 1, 1) := by decide +kernel
theorem dJ2_charAt_3b067_1 : decode cJ2_charAt_3b067 1 = .ok (.aload_n 0, 1) := by decide +kernel
theorem dJ2_charAt_3b067_2 : decode cJ2_charAt_3b067 2 = .ok (.invokestatic 67, 3) := by decide +kernel
theorem dJ2_charAt_3b067_5 : decode cJ2_charAt_3b067 5 = .ok (.aload_n 0, 1) := by decide +kernel
theorem dJ2_charAt_3b067_6 : decode cJ2_charAt_3b067 6 = .ok (.iload_n 1, 1) := by decide +kernel
theorem dJ2_charAt_3b067_7 : decode cJ2_charAt_3b067 7 = .ok (.invokestatic 71, 3) := by decide +kernel
theorem dJ2_charAt_3b067_10 : decode cJ2_charAt_3b067 10 = .ok (.ireturn, 1) := by decide +kernel
theorem dJ2_checkIndex_2214a_0 : decode cJ2_checkIndex_2214a 0 = .ok (.iload_n 0, 1) := by decide +kernel
theorem dJ2_checkIndex_2214a_1 : decode cJ2_checkIndex_2214a 1 = .ok (.aload_n 1, 1) := by decide +kernel
theorem dJ2_checkIndex_2214a_2 : decode cJ2_checkIndex_2214a 2 = .ok (.invokestatic 48, 3) := by decide +kernel
theorem dJ2_checkIndex_2214a_5 : decode cJ2_checkIndex_2214a 5 = .ok (.invokestatic 414, 3) := by decide +kernel
theorem dJ2_checkIndex_2214a_8 : decode cJ2_checkIndex_2214a 8 = .ok (.return_, 1) := by decide +kernel
theorem dJ3_checkIndex_8e157_0 : decode cJ3_checkIndex_8e157 0 = .ok (.iload_n 0, 1) := by decide +kernel
theorem dJ3_checkIndex_8e157_1 : decode cJ3_checkIndex_8e157 1 = .ok (.ifCond .lt 8, 3) := by decide +kernel
theorem dJ3_checkIndex_8e157_4 : decode cJ3_checkIndex_8e157 4 = .ok (.iload_n 0, 1) := by decide +kernel
theorem dJ3_checkIndex_8e157_5 : decode cJ3_checkIndex_8e157 5 = .ok (.iload_n 1, 1) := by decide +kernel
theorem dJ3_checkIndex_8e157_6 : decode cJ3_checkIndex_8e157 6 = .ok (.if_icmp .lt 10, 3) := by decide +kernel
theorem dJ3_checkIndex_8e157_9 : decode cJ3_checkIndex_8e157 9 = .ok (.aload_n 2, 1) := by decide +kernel
theorem dJ3_checkIndex_8e157_10 : decode cJ3_checkIndex_8e157 10 = .ok (.iload_n 0, 1) := by decide +kernel
theorem dJ3_checkIndex_8e157_11 : decode cJ3_checkIndex_8e157 11 = .ok (.iload_n 1, 1) := by decide +kernel
theorem dJ3_checkIndex_8e157_12 : decode cJ3_checkIndex_8e157 12 = .ok (.invokestatic 95, 3) := by decide +kernel
theorem dJ3_checkIndex_8e157_15 : decode cJ3_checkIndex_8e157 15 = .ok (.athrow, 1) := by decide +kernel
theorem dJ3_checkIndex_8e157_16 : decode cJ3_checkIndex_8e157 16 = .ok (.iload_n 0, 1) := by decide +kernel
theorem dJ3_checkIndex_8e157_17 : decode cJ3_checkIndex_8e157 17 = .ok (.ireturn, 1) := by decide +kernel
theorem dL_law_0 : decode cL_law 0 = .ok (.new 7, 3) := by decide +kernel
theorem dL_law_3 : decode cL_law 3 = .ok (.dup, 1) := by decide +kernel
theorem dL_law_4 : decode cL_law 4 = .ok (.invokespecial 9, 3) := by decide +kernel
theorem dL_law_7 : decode cL_law 7 = .ok (.astore_n 1, 1) := by decide +kernel
theorem dL_law_8 : decode cL_law 8 = .ok (.new 10, 3) := by decide +kernel
theorem dL_law_11 : decode cL_law 11 = .ok (.dup, 1) := by decide +kernel
theorem dL_law_12 : decode cL_law 12 = .ok (.invokespecial 12, 3) := by decide +kernel
theorem dL_law_15 : decode cL_law 15 = .ok (.astore_n 2, 1) := by decide +kernel
theorem dL_law_16 : decode cL_law 16 = .ok (.iconst 0, 1) := by decide +kernel
theorem dL_law_17 : decode cL_law 17 = .ok (.istore_n 3, 1) := by decide +kernel
theorem dL_law_18 : decode cL_law 18 = .ok (.iload_n 3, 1) := by decide +kernel
theorem dL_law_19 : decode cL_law 19 = .ok (.aload_n 0, 1) := by decide +kernel
theorem dL_law_20 : decode cL_law 20 = .ok (.arraylength, 1) := by decide +kernel
theorem dL_law_21 : decode cL_law 21 = .ok (.bipush 6, 2) := by decide +kernel
theorem dL_law_23 : decode cL_law 23 = .ok (.isub, 1) := by decide +kernel
theorem dL_law_24 : decode cL_law 24 = .ok (.if_icmp .gt 859, 3) := by decide +kernel
theorem dL_law_27 : decode cL_law 27 = .ok (.aload_n 0, 1) := by decide +kernel
theorem dL_law_28 : decode cL_law 28 = .ok (.iload_n 3, 1) := by decide +kernel
theorem dL_law_29 : decode cL_law 29 = .ok (.iaload, 1) := by decide +kernel
theorem dL_law_30 : decode cL_law 30 = .ok (.bipush 31, 2) := by decide +kernel
theorem dL_law_32 : decode cL_law 32 = .ok (.iand, 1) := by decide +kernel
theorem dL_law_33 : decode cL_law 33 = .ok (.tableswitch 844 0 18 #[91, 114, 193, 236, 299, 342, 355, 398, 441, 484, 517, 550, 593, 636, 669, 702, 745, 788, 821], 91) := by decide +kernel
theorem dL_law_124 : decode cL_law 124 = .ok (.aload_n 1, 1) := by decide +kernel
theorem dL_law_125 : decode cL_law 125 = .ok (.aload_n 0, 1) := by decide +kernel
theorem dL_law_126 : decode cL_law 126 = .ok (.iload_n 3, 1) := by decide +kernel
theorem dL_law_127 : decode cL_law 127 = .ok (.iconst 1, 1) := by decide +kernel
theorem dL_law_128 : decode cL_law 128 = .ok (.iadd, 1) := by decide +kernel
theorem dL_law_129 : decode cL_law 129 = .ok (.iaload, 1) := by decide +kernel
theorem dL_law_130 : decode cL_law 130 = .ok (.invokevirtual 13, 3) := by decide +kernel
theorem dL_law_133 : decode cL_law 133 = .ok (.aload_n 2, 1) := by decide +kernel
theorem dL_law_134 : decode cL_law 134 = .ok (.aload_n 0, 1) := by decide +kernel
theorem dL_law_135 : decode cL_law 135 = .ok (.iload_n 3, 1) := by decide +kernel
theorem dL_law_136 : decode cL_law 136 = .ok (.iconst 1, 1) := by decide +kernel
theorem dL_law_137 : decode cL_law 137 = .ok (.iadd, 1) := by decide +kernel
theorem dL_law_138 : decode cL_law 138 = .ok (.iaload, 1) := by decide +kernel
theorem dL_law_139 : decode cL_law 139 = .ok (.invokevirtual 17, 3) := by decide +kernel
theorem dL_law_142 : decode cL_law 142 = .ok (.if_icmp .eq 735, 3) := by decide +kernel
theorem dL_law_145 : decode cL_law 145 = .ok (.iconst 0, 1) := by decide +kernel
theorem dL_law_146 : decode cL_law 146 = .ok (.ireturn, 1) := by decide +kernel
theorem dL_law_147 : decode cL_law 147 = .ok (.aload_n 1, 1) := by decide +kernel
theorem dL_law_148 : decode cL_law 148 = .ok (.aload_n 0, 1) := by decide +kernel
theorem dL_law_149 : decode cL_law 149 = .ok (.iload_n 3, 1) := by decide +kernel
theorem dL_law_150 : decode cL_law 150 = .ok (.iconst 1, 1) := by decide +kernel
theorem dL_law_151 : decode cL_law 151 = .ok (.iadd, 1) := by decide +kernel
theorem dL_law_152 : decode cL_law 152 = .ok (.iaload, 1) := by decide +kernel
theorem dL_law_153 : decode cL_law 153 = .ok (.aload_n 0, 1) := by decide +kernel
theorem dL_law_154 : decode cL_law 154 = .ok (.iload_n 3, 1) := by decide +kernel
theorem dL_law_155 : decode cL_law 155 = .ok (.iconst 2, 1) := by decide +kernel
theorem dL_law_156 : decode cL_law 156 = .ok (.iadd, 1) := by decide +kernel
theorem dL_law_157 : decode cL_law 157 = .ok (.iaload, 1) := by decide +kernel
theorem dL_law_158 : decode cL_law 158 = .ok (.aload_n 0, 1) := by decide +kernel
theorem dL_law_159 : decode cL_law 159 = .ok (.iload_n 3, 1) := by decide +kernel
theorem dL_law_160 : decode cL_law 160 = .ok (.iconst 3, 1) := by decide +kernel
theorem dL_law_161 : decode cL_law 161 = .ok (.iadd, 1) := by decide +kernel
theorem dL_law_162 : decode cL_law 162 = .ok (.iaload, 1) := by decide +kernel
theorem dL_law_163 : decode cL_law 163 = .ok (.ifCond .eq 7, 3) := by decide +kernel
theorem dL_law_166 : decode cL_law 166 = .ok (.iconst 1, 1) := by decide +kernel
theorem dL_law_167 : decode cL_law 167 = .ok (.goto 4, 3) := by decide +kernel
theorem dL_law_170 : decode cL_law 170 = .ok (.iconst 0, 1) := by decide +kernel
theorem dL_law_171 : decode cL_law 171 = .ok (.aload_n 0, 1) := by decide +kernel
theorem dL_law_172 : decode cL_law 172 = .ok (.iload_n 3, 1) := by decide +kernel
theorem dL_law_173 : decode cL_law 173 = .ok (.iconst 4, 1) := by decide +kernel
theorem dL_law_174 : decode cL_law 174 = .ok (.iadd, 1) := by decide +kernel
theorem dL_law_175 : decode cL_law 175 = .ok (.iaload, 1) := by decide +kernel
theorem dL_law_176 : decode cL_law 176 = .ok (.aload_n 0, 1) := by decide +kernel
theorem dL_law_177 : decode cL_law 177 = .ok (.iload_n 3, 1) := by decide +kernel
theorem dL_law_178 : decode cL_law 178 = .ok (.iconst 5, 1) := by decide +kernel
theorem dL_law_179 : decode cL_law 179 = .ok (.iadd, 1) := by decide +kernel
theorem dL_law_180 : decode cL_law 180 = .ok (.iaload, 1) := by decide +kernel
theorem dL_law_181 : decode cL_law 181 = .ok (.invokevirtual 18, 3) := by decide +kernel
theorem dL_law_184 : decode cL_law 184 = .ok (.aload_n 2, 1) := by decide +kernel
theorem dL_law_185 : decode cL_law 185 = .ok (.aload_n 0, 1) := by decide +kernel
theorem dL_law_186 : decode cL_law 186 = .ok (.iload_n 3, 1) := by decide +kernel
theorem dL_law_187 : decode cL_law 187 = .ok (.iconst 1, 1) := by decide +kernel
theorem dL_law_188 : decode cL_law 188 = .ok (.iadd, 1) := by decide +kernel
theorem dL_law_189 : decode cL_law 189 = .ok (.iaload, 1) := by decide +kernel
theorem dL_law_190 : decode cL_law 190 = .ok (.aload_n 0, 1) := by decide +kernel
theorem dL_law_191 : decode cL_law 191 = .ok (.iload_n 3, 1) := by decide +kernel
theorem dL_law_192 : decode cL_law 192 = .ok (.iconst 2, 1) := by decide +kernel
theorem dL_law_193 : decode cL_law 193 = .ok (.iadd, 1) := by decide +kernel
theorem dL_law_194 : decode cL_law 194 = .ok (.iaload, 1) := by decide +kernel
theorem dL_law_195 : decode cL_law 195 = .ok (.aload_n 0, 1) := by decide +kernel
theorem dL_law_196 : decode cL_law 196 = .ok (.iload_n 3, 1) := by decide +kernel
theorem dL_law_197 : decode cL_law 197 = .ok (.iconst 3, 1) := by decide +kernel
theorem dL_law_198 : decode cL_law 198 = .ok (.iadd, 1) := by decide +kernel
theorem dL_law_199 : decode cL_law 199 = .ok (.iaload, 1) := by decide +kernel
theorem dL_law_200 : decode cL_law 200 = .ok (.ifCond .eq 7, 3) := by decide +kernel
theorem dL_law_203 : decode cL_law 203 = .ok (.iconst 1, 1) := by decide +kernel
theorem dL_law_204 : decode cL_law 204 = .ok (.goto 4, 3) := by decide +kernel
theorem dL_law_207 : decode cL_law 207 = .ok (.iconst 0, 1) := by decide +kernel
theorem dL_law_208 : decode cL_law 208 = .ok (.aload_n 0, 1) := by decide +kernel
theorem dL_law_209 : decode cL_law 209 = .ok (.iload_n 3, 1) := by decide +kernel
theorem dL_law_210 : decode cL_law 210 = .ok (.iconst 4, 1) := by decide +kernel
theorem dL_law_211 : decode cL_law 211 = .ok (.iadd, 1) := by decide +kernel
theorem dL_law_212 : decode cL_law 212 = .ok (.iaload, 1) := by decide +kernel
theorem dL_law_213 : decode cL_law 213 = .ok (.aload_n 0, 1) := by decide +kernel
theorem dL_law_214 : decode cL_law 214 = .ok (.iload_n 3, 1) := by decide +kernel
theorem dL_law_215 : decode cL_law 215 = .ok (.iconst 5, 1) := by decide +kernel
theorem dL_law_216 : decode cL_law 216 = .ok (.iadd, 1) := by decide +kernel
theorem dL_law_217 : decode cL_law 217 = .ok (.iaload, 1) := by decide +kernel
theorem dL_law_218 : decode cL_law 218 = .ok (.invokevirtual 22, 3) := by decide +kernel
theorem dL_law_221 : decode cL_law 221 = .ok (.if_icmp .eq 656, 3) := by decide +kernel
theorem dL_law_224 : decode cL_law 224 = .ok (.iconst 0, 1) := by decide +kernel
theorem dL_law_225 : decode cL_law 225 = .ok (.ireturn, 1) := by decide +kernel
theorem dL_law_226 : decode cL_law 226 = .ok (.aload_n 1, 1) := by decide +kernel
theorem dL_law_227 : decode cL_law 227 = .ok (.aload_n 0, 1) := by decide +kernel
theorem dL_law_228 : decode cL_law 228 = .ok (.iload_n 3, 1) := by decide +kernel
theorem dL_law_229 : decode cL_law 229 = .ok (.iconst 1, 1) := by decide +kernel
theorem dL_law_230 : decode cL_law 230 = .ok (.iadd, 1) := by decide +kernel
theorem dL_law_231 : decode cL_law 231 = .ok (.iaload, 1) := by decide +kernel
theorem dL_law_232 : decode cL_law 232 = .ok (.aload_n 0, 1) := by decide +kernel
theorem dL_law_233 : decode cL_law 233 = .ok (.iload_n 3, 1) := by decide +kernel
theorem dL_law_234 : decode cL_law 234 = .ok (.iconst 2, 1) := by decide +kernel
theorem dL_law_235 : decode cL_law 235 = .ok (.iadd, 1) := by decide +kernel
theorem dL_law_236 : decode cL_law 236 = .ok (.iaload, 1) := by decide +kernel
theorem dL_law_237 : decode cL_law 237 = .ok (.aload_n 0, 1) := by decide +kernel
theorem dL_law_238 : decode cL_law 238 = .ok (.iload_n 3, 1) := by decide +kernel
theorem dL_law_239 : decode cL_law 239 = .ok (.iconst 3, 1) := by decide +kernel
theorem dL_law_240 : decode cL_law 240 = .ok (.iadd, 1) := by decide +kernel
theorem dL_law_241 : decode cL_law 241 = .ok (.iaload, 1) := by decide +kernel
theorem dL_law_242 : decode cL_law 242 = .ok (.invokevirtual 23, 3) := by decide +kernel
theorem dL_law_245 : decode cL_law 245 = .ok (.aload_n 2, 1) := by decide +kernel
theorem dL_law_246 : decode cL_law 246 = .ok (.aload_n 0, 1) := by decide +kernel
theorem dL_law_247 : decode cL_law 247 = .ok (.iload_n 3, 1) := by decide +kernel
theorem dL_law_248 : decode cL_law 248 = .ok (.iconst 1, 1) := by decide +kernel
theorem dL_law_249 : decode cL_law 249 = .ok (.iadd, 1) := by decide +kernel
theorem dL_law_250 : decode cL_law 250 = .ok (.iaload, 1) := by decide +kernel
theorem dL_law_251 : decode cL_law 251 = .ok (.aload_n 0, 1) := by decide +kernel
theorem dL_law_252 : decode cL_law 252 = .ok (.iload_n 3, 1) := by decide +kernel
theorem dL_law_253 : decode cL_law 253 = .ok (.iconst 2, 1) := by decide +kernel
theorem dL_law_254 : decode cL_law 254 = .ok (.iadd, 1) := by decide +kernel
theorem dL_law_255 : decode cL_law 255 = .ok (.iaload, 1) := by decide +kernel
theorem dL_law_256 : decode cL_law 256 = .ok (.aload_n 0, 1) := by decide +kernel
theorem dL_law_257 : decode cL_law 257 = .ok (.iload_n 3, 1) := by decide +kernel
theorem dL_law_258 : decode cL_law 258 = .ok (.iconst 3, 1) := by decide +kernel
theorem dL_law_259 : decode cL_law 259 = .ok (.iadd, 1) := by decide +kernel
theorem dL_law_260 : decode cL_law 260 = .ok (.iaload, 1) := by decide +kernel
theorem dL_law_261 : decode cL_law 261 = .ok (.invokevirtual 27, 3) := by decide +kernel
theorem dL_law_264 : decode cL_law 264 = .ok (.if_icmp .eq 613, 3) := by decide +kernel
theorem dL_law_267 : decode cL_law 267 = .ok (.iconst 0, 1) := by decide +kernel
theorem dL_law_268 : decode cL_law 268 = .ok (.ireturn, 1) := by decide +kernel
theorem dL_law_269 : decode cL_law 269 = .ok (.aload_n 1, 1) := by decide +kernel
theorem dL_law_270 : decode cL_law 270 = .ok (.aload_n 0, 1) := by decide +kernel
theorem dL_law_271 : decode cL_law 271 = .ok (.iload_n 3, 1) := by decide +kernel
theorem dL_law_272 : decode cL_law 272 = .ok (.iconst 1, 1) := by decide +kernel
theorem dL_law_273 : decode cL_law 273 = .ok (.iadd, 1) := by decide +kernel
theorem dL_law_274 : decode cL_law 274 = .ok (.iaload, 1) := by decide +kernel
theorem dL_law_275 : decode cL_law 275 = .ok (.aload_n 0, 1) := by decide +kernel
theorem dL_law_276 : decode cL_law 276 = .ok (.iload_n 3, 1) := by decide +kernel
theorem dL_law_277 : decode cL_law 277 = .ok (.iconst 2, 1) := by decide +kernel
theorem dL_law_278 : decode cL_law 278 = .ok (.iadd, 1) := by decide +kernel
theorem dL_law_279 : decode cL_law 279 = .ok (.iaload, 1) := by decide +kernel
theorem dL_law_280 : decode cL_law 280 = .ok (.aload_n 0, 1) := by decide +kernel
theorem dL_law_281 : decode cL_law 281 = .ok (.iload_n 3, 1) := by decide +kernel
theorem dL_law_282 : decode cL_law 282 = .ok (.iconst 3, 1) := by decide +kernel
theorem dL_law_283 : decode cL_law 283 = .ok (.iadd, 1) := by decide +kernel
theorem dL_law_284 : decode cL_law 284 = .ok (.iaload, 1) := by decide +kernel
theorem dL_law_285 : decode cL_law 285 = .ok (.aload_n 0, 1) := by decide +kernel
theorem dL_law_286 : decode cL_law 286 = .ok (.iload_n 3, 1) := by decide +kernel
theorem dL_law_287 : decode cL_law 287 = .ok (.iconst 4, 1) := by decide +kernel
theorem dL_law_288 : decode cL_law 288 = .ok (.iadd, 1) := by decide +kernel
theorem dL_law_289 : decode cL_law 289 = .ok (.iaload, 1) := by decide +kernel
theorem dL_law_290 : decode cL_law 290 = .ok (.aload_n 0, 1) := by decide +kernel
theorem dL_law_291 : decode cL_law 291 = .ok (.iload_n 3, 1) := by decide +kernel
theorem dL_law_292 : decode cL_law 292 = .ok (.iconst 5, 1) := by decide +kernel
theorem dL_law_293 : decode cL_law 293 = .ok (.iadd, 1) := by decide +kernel
theorem dL_law_294 : decode cL_law 294 = .ok (.iaload, 1) := by decide +kernel
theorem dL_law_295 : decode cL_law 295 = .ok (.invokevirtual 28, 3) := by decide +kernel
theorem dL_law_298 : decode cL_law 298 = .ok (.aload_n 2, 1) := by decide +kernel
theorem dL_law_299 : decode cL_law 299 = .ok (.aload_n 0, 1) := by decide +kernel
theorem dL_law_300 : decode cL_law 300 = .ok (.iload_n 3, 1) := by decide +kernel
theorem dL_law_301 : decode cL_law 301 = .ok (.iconst 1, 1) := by decide +kernel
theorem dL_law_302 : decode cL_law 302 = .ok (.iadd, 1) := by decide +kernel
theorem dL_law_303 : decode cL_law 303 = .ok (.iaload, 1) := by decide +kernel
theorem dL_law_304 : decode cL_law 304 = .ok (.aload_n 0, 1) := by decide +kernel
theorem dL_law_305 : decode cL_law 305 = .ok (.iload_n 3, 1) := by decide +kernel
theorem dL_law_306 : decode cL_law 306 = .ok (.iconst 2, 1) := by decide +kernel
theorem dL_law_307 : decode cL_law 307 = .ok (.iadd, 1) := by decide +kernel
theorem dL_law_308 : decode cL_law 308 = .ok (.iaload, 1) := by decide +kernel
theorem dL_law_309 : decode cL_law 309 = .ok (.aload_n 0, 1) := by decide +kernel
theorem dL_law_310 : decode cL_law 310 = .ok (.iload_n 3, 1) := by decide +kernel
theorem dL_law_311 : decode cL_law 311 = .ok (.iconst 3, 1) := by decide +kernel
theorem dL_law_312 : decode cL_law 312 = .ok (.iadd, 1) := by decide +kernel
theorem dL_law_313 : decode cL_law 313 = .ok (.iaload, 1) := by decide +kernel
theorem dL_law_314 : decode cL_law 314 = .ok (.aload_n 0, 1) := by decide +kernel
theorem dL_law_315 : decode cL_law 315 = .ok (.iload_n 3, 1) := by decide +kernel
theorem dL_law_316 : decode cL_law 316 = .ok (.iconst 4, 1) := by decide +kernel
theorem dL_law_317 : decode cL_law 317 = .ok (.iadd, 1) := by decide +kernel
theorem dL_law_318 : decode cL_law 318 = .ok (.iaload, 1) := by decide +kernel
theorem dL_law_319 : decode cL_law 319 = .ok (.aload_n 0, 1) := by decide +kernel
theorem dL_law_320 : decode cL_law 320 = .ok (.iload_n 3, 1) := by decide +kernel
theorem dL_law_321 : decode cL_law 321 = .ok (.iconst 5, 1) := by decide +kernel
theorem dL_law_322 : decode cL_law 322 = .ok (.iadd, 1) := by decide +kernel
theorem dL_law_323 : decode cL_law 323 = .ok (.iaload, 1) := by decide +kernel
theorem dL_law_324 : decode cL_law 324 = .ok (.invokevirtual 32, 3) := by decide +kernel
theorem dL_law_327 : decode cL_law 327 = .ok (.if_icmp .eq 550, 3) := by decide +kernel
theorem dL_law_330 : decode cL_law 330 = .ok (.iconst 0, 1) := by decide +kernel
theorem dL_law_331 : decode cL_law 331 = .ok (.ireturn, 1) := by decide +kernel
theorem dL_law_332 : decode cL_law 332 = .ok (.aload_n 1, 1) := by decide +kernel
theorem dL_law_333 : decode cL_law 333 = .ok (.aload_n 0, 1) := by decide +kernel
theorem dL_law_334 : decode cL_law 334 = .ok (.iload_n 3, 1) := by decide +kernel
theorem dL_law_335 : decode cL_law 335 = .ok (.iconst 1, 1) := by decide +kernel
theorem dL_law_336 : decode cL_law 336 = .ok (.iadd, 1) := by decide +kernel
theorem dL_law_337 : decode cL_law 337 = .ok (.iaload, 1) := by decide +kernel
theorem dL_law_338 : decode cL_law 338 = .ok (.aload_n 0, 1) := by decide +kernel
theorem dL_law_339 : decode cL_law 339 = .ok (.iload_n 3, 1) := by decide +kernel
theorem dL_law_340 : decode cL_law 340 = .ok (.iconst 2, 1) := by decide +kernel
theorem dL_law_341 : decode cL_law 341 = .ok (.iadd, 1) := by decide +kernel
theorem dL_law_342 : decode cL_law 342 = .ok (.iaload, 1) := by decide +kernel
theorem dL_law_343 : decode cL_law 343 = .ok (.aload_n 0, 1) := by decide +kernel
theorem dL_law_344 : decode cL_law 344 = .ok (.iload_n 3, 1) := by decide +kernel
theorem dL_law_345 : decode cL_law 345 = .ok (.iconst 3, 1) := by decide +kernel
theorem dL_law_346 : decode cL_law 346 = .ok (.iadd, 1) := by decide +kernel
theorem dL_law_347 : decode cL_law 347 = .ok (.iaload, 1) := by decide +kernel
theorem dL_law_348 : decode cL_law 348 = .ok (.invokevirtual 33, 3) := by decide +kernel
theorem dL_law_351 : decode cL_law 351 = .ok (.aload_n 2, 1) := by decide +kernel
theorem dL_law_352 : decode cL_law 352 = .ok (.aload_n 0, 1) := by decide +kernel
theorem dL_law_353 : decode cL_law 353 = .ok (.iload_n 3, 1) := by decide +kernel
theorem dL_law_354 : decode cL_law 354 = .ok (.iconst 1, 1) := by decide +kernel
theorem dL_law_355 : decode cL_law 355 = .ok (.iadd, 1) := by decide +kernel
theorem dL_law_356 : decode cL_law 356 = .ok (.iaload, 1) := by decide +kernel
theorem dL_law_357 : decode cL_law 357 = .ok (.aload_n 0, 1) := by decide +kernel
theorem dL_law_358 : decode cL_law 358 = .ok (.iload_n 3, 1) := by decide +kernel
theorem dL_law_359 : decode cL_law 359 = .ok (.iconst 2, 1) := by decide +kernel
theorem dL_law_360 : decode cL_law 360 = .ok (.iadd, 1) := by decide +kernel
theorem dL_law_361 : decode cL_law 361 = .ok (.iaload, 1) := by decide +kernel
theorem dL_law_362 : decode cL_law 362 = .ok (.aload_n 0, 1) := by decide +kernel
theorem dL_law_363 : decode cL_law 363 = .ok (.iload_n 3, 1) := by decide +kernel
theorem dL_law_364 : decode cL_law 364 = .ok (.iconst 3, 1) := by decide +kernel
theorem dL_law_365 : decode cL_law 365 = .ok (.iadd, 1) := by decide +kernel
theorem dL_law_366 : decode cL_law 366 = .ok (.iaload, 1) := by decide +kernel
theorem dL_law_367 : decode cL_law 367 = .ok (.invokevirtual 36, 3) := by decide +kernel
theorem dL_law_370 : decode cL_law 370 = .ok (.if_icmp .eq 507, 3) := by decide +kernel
theorem dL_law_373 : decode cL_law 373 = .ok (.iconst 0, 1) := by decide +kernel
theorem dL_law_374 : decode cL_law 374 = .ok (.ireturn, 1) := by decide +kernel
theorem dL_law_375 : decode cL_law 375 = .ok (.aload_n 1, 1) := by decide +kernel
theorem dL_law_376 : decode cL_law 376 = .ok (.invokevirtual 37, 3) := by decide +kernel
theorem dL_law_379 : decode cL_law 379 = .ok (.aload_n 2, 1) := by decide +kernel
theorem dL_law_380 : decode cL_law 380 = .ok (.invokevirtual 41, 3) := by decide +kernel
theorem dL_law_383 : decode cL_law 383 = .ok (.if_icmp .eq 494, 3) := by decide +kernel
theorem dL_law_386 : decode cL_law 386 = .ok (.iconst 0, 1) := by decide +kernel
theorem dL_law_387 : decode cL_law 387 = .ok (.ireturn, 1) := by decide +kernel
theorem dL_law_388 : decode cL_law 388 = .ok (.aload_n 1, 1) := by decide +kernel
theorem dL_law_389 : decode cL_law 389 = .ok (.aload_n 0, 1) := by decide +kernel
theorem dL_law_390 : decode cL_law 390 = .ok (.iload_n 3, 1) := by decide +kernel
theorem dL_law_391 : decode cL_law 391 = .ok (.iconst 1, 1) := by decide +kernel
theorem dL_law_392 : decode cL_law 392 = .ok (.iadd, 1) := by decide +kernel
theorem dL_law_393 : decode cL_law 393 = .ok (.iaload, 1) := by decide +kernel
theorem dL_law_394 : decode cL_law 394 = .ok (.aload_n 0, 1) := by decide +kernel
theorem dL_law_395 : decode cL_law 395 = .ok (.iload_n 3, 1) := by decide +kernel
theorem dL_law_396 : decode cL_law 396 = .ok (.iconst 2, 1) := by decide +kernel
theorem dL_law_397 : decode cL_law 397 = .ok (.iadd, 1) := by decide +kernel
theorem dL_law_398 : decode cL_law 398 = .ok (.iaload, 1) := by decide +kernel
theorem dL_law_399 : decode cL_law 399 = .ok (.aload_n 0, 1) := by decide +kernel
theorem dL_law_400 : decode cL_law 400 = .ok (.iload_n 3, 1) := by decide +kernel
theorem dL_law_401 : decode cL_law 401 = .ok (.iconst 3, 1) := by decide +kernel
theorem dL_law_402 : decode cL_law 402 = .ok (.iadd, 1) := by decide +kernel
theorem dL_law_403 : decode cL_law 403 = .ok (.iaload, 1) := by decide +kernel
theorem dL_law_404 : decode cL_law 404 = .ok (.invokevirtual 42, 3) := by decide +kernel
theorem dL_law_407 : decode cL_law 407 = .ok (.aload_n 2, 1) := by decide +kernel
theorem dL_law_408 : decode cL_law 408 = .ok (.aload_n 0, 1) := by decide +kernel
theorem dL_law_409 : decode cL_law 409 = .ok (.iload_n 3, 1) := by decide +kernel
theorem dL_law_410 : decode cL_law 410 = .ok (.iconst 1, 1) := by decide +kernel
theorem dL_law_411 : decode cL_law 411 = .ok (.iadd, 1) := by decide +kernel
theorem dL_law_412 : decode cL_law 412 = .ok (.iaload, 1) := by decide +kernel
theorem dL_law_413 : decode cL_law 413 = .ok (.aload_n 0, 1) := by decide +kernel
theorem dL_law_414 : decode cL_law 414 = .ok (.iload_n 3, 1) := by decide +kernel
theorem dL_law_415 : decode cL_law 415 = .ok (.iconst 2, 1) := by decide +kernel
theorem dL_law_416 : decode cL_law 416 = .ok (.iadd, 1) := by decide +kernel
theorem dL_law_417 : decode cL_law 417 = .ok (.iaload, 1) := by decide +kernel
theorem dL_law_418 : decode cL_law 418 = .ok (.aload_n 0, 1) := by decide +kernel
theorem dL_law_419 : decode cL_law 419 = .ok (.iload_n 3, 1) := by decide +kernel
theorem dL_law_420 : decode cL_law 420 = .ok (.iconst 3, 1) := by decide +kernel
theorem dL_law_421 : decode cL_law 421 = .ok (.iadd, 1) := by decide +kernel
theorem dL_law_422 : decode cL_law 422 = .ok (.iaload, 1) := by decide +kernel
theorem dL_law_423 : decode cL_law 423 = .ok (.invokevirtual 45, 3) := by decide +kernel
theorem dL_law_426 : decode cL_law 426 = .ok (.if_icmp .eq 451, 3) := by decide +kernel
theorem dL_law_429 : decode cL_law 429 = .ok (.iconst 0, 1) := by decide +kernel
theorem dL_law_430 : decode cL_law 430 = .ok (.ireturn, 1) := by decide +kernel
theorem dL_law_431 : decode cL_law 431 = .ok (.aload_n 1, 1) := by decide +kernel
theorem dL_law_432 : decode cL_law 432 = .ok (.aload_n 0, 1) := by decide +kernel
theorem dL_law_433 : decode cL_law 433 = .ok (.iload_n 3, 1) := by decide +kernel
theorem dL_law_434 : decode cL_law 434 = .ok (.iconst 1, 1) := by decide +kernel
theorem dL_law_435 : decode cL_law 435 = .ok (.iadd, 1) := by decide +kernel
theorem dL_law_436 : decode cL_law 436 = .ok (.iaload, 1) := by decide +kernel
theorem dL_law_437 : decode cL_law 437 = .ok (.aload_n 0, 1) := by decide +kernel
theorem dL_law_438 : decode cL_law 438 = .ok (.iload_n 3, 1) := by decide +kernel
theorem dL_law_439 : decode cL_law 439 = .ok (.iconst 2, 1) := by decide +kernel
theorem dL_law_440 : decode cL_law 440 = .ok (.iadd, 1) := by decide +kernel
theorem dL_law_441 : decode cL_law 441 = .ok (.iaload, 1) := by decide +kernel
theorem dL_law_442 : decode cL_law 442 = .ok (.aload_n 0, 1) := by decide +kernel
theorem dL_law_443 : decode cL_law 443 = .ok (.iload_n 3, 1) := by decide +kernel
theorem dL_law_444 : decode cL_law 444 = .ok (.iconst 3, 1) := by decide +kernel
theorem dL_law_445 : decode cL_law 445 = .ok (.iadd, 1) := by decide +kernel
theorem dL_law_446 : decode cL_law 446 = .ok (.iaload, 1) := by decide +kernel
theorem dL_law_447 : decode cL_law 447 = .ok (.invokevirtual 46, 3) := by decide +kernel
theorem dL_law_450 : decode cL_law 450 = .ok (.aload_n 2, 1) := by decide +kernel
theorem dL_law_451 : decode cL_law 451 = .ok (.aload_n 0, 1) := by decide +kernel
theorem dL_law_452 : decode cL_law 452 = .ok (.iload_n 3, 1) := by decide +kernel
theorem dL_law_453 : decode cL_law 453 = .ok (.iconst 1, 1) := by decide +kernel
theorem dL_law_454 : decode cL_law 454 = .ok (.iadd, 1) := by decide +kernel
theorem dL_law_455 : decode cL_law 455 = .ok (.iaload, 1) := by decide +kernel
theorem dL_law_456 : decode cL_law 456 = .ok (.aload_n 0, 1) := by decide +kernel
theorem dL_law_457 : decode cL_law 457 = .ok (.iload_n 3, 1) := by decide +kernel
theorem dL_law_458 : decode cL_law 458 = .ok (.iconst 2, 1) := by decide +kernel
theorem dL_law_459 : decode cL_law 459 = .ok (.iadd, 1) := by decide +kernel
theorem dL_law_460 : decode cL_law 460 = .ok (.iaload, 1) := by decide +kernel
theorem dL_law_461 : decode cL_law 461 = .ok (.aload_n 0, 1) := by decide +kernel
theorem dL_law_462 : decode cL_law 462 = .ok (.iload_n 3, 1) := by decide +kernel
theorem dL_law_463 : decode cL_law 463 = .ok (.iconst 3, 1) := by decide +kernel
theorem dL_law_464 : decode cL_law 464 = .ok (.iadd, 1) := by decide +kernel
theorem dL_law_465 : decode cL_law 465 = .ok (.iaload, 1) := by decide +kernel
theorem dL_law_466 : decode cL_law 466 = .ok (.invokevirtual 49, 3) := by decide +kernel
theorem dL_law_469 : decode cL_law 469 = .ok (.if_icmp .eq 408, 3) := by decide +kernel
theorem dL_law_472 : decode cL_law 472 = .ok (.iconst 0, 1) := by decide +kernel
theorem dL_law_473 : decode cL_law 473 = .ok (.ireturn, 1) := by decide +kernel
theorem dL_law_474 : decode cL_law 474 = .ok (.aload_n 1, 1) := by decide +kernel
theorem dL_law_475 : decode cL_law 475 = .ok (.aload_n 0, 1) := by decide +kernel
theorem dL_law_476 : decode cL_law 476 = .ok (.iload_n 3, 1) := by decide +kernel
theorem dL_law_477 : decode cL_law 477 = .ok (.iconst 1, 1) := by decide +kernel
theorem dL_law_478 : decode cL_law 478 = .ok (.iadd, 1) := by decide +kernel
theorem dL_law_479 : decode cL_law 479 = .ok (.iaload, 1) := by decide +kernel
theorem dL_law_480 : decode cL_law 480 = .ok (.aload_n 0, 1) := by decide +kernel
theorem dL_law_481 : decode cL_law 481 = .ok (.iload_n 3, 1) := by decide +kernel
theorem dL_law_482 : decode cL_law 482 = .ok (.iconst 2, 1) := by decide +kernel
theorem dL_law_483 : decode cL_law 483 = .ok (.iadd, 1) := by decide +kernel
theorem dL_law_484 : decode cL_law 484 = .ok (.iaload, 1) := by decide +kernel
theorem dL_law_485 : decode cL_law 485 = .ok (.aload_n 0, 1) := by decide +kernel
theorem dL_law_486 : decode cL_law 486 = .ok (.iload_n 3, 1) := by decide +kernel
theorem dL_law_487 : decode cL_law 487 = .ok (.iconst 3, 1) := by decide +kernel
theorem dL_law_488 : decode cL_law 488 = .ok (.iadd, 1) := by decide +kernel
theorem dL_law_489 : decode cL_law 489 = .ok (.iaload, 1) := by decide +kernel
theorem dL_law_490 : decode cL_law 490 = .ok (.invokevirtual 50, 3) := by decide +kernel
theorem dL_law_493 : decode cL_law 493 = .ok (.aload_n 2, 1) := by decide +kernel
theorem dL_law_494 : decode cL_law 494 = .ok (.aload_n 0, 1) := by decide +kernel
theorem dL_law_495 : decode cL_law 495 = .ok (.iload_n 3, 1) := by decide +kernel
theorem dL_law_496 : decode cL_law 496 = .ok (.iconst 1, 1) := by decide +kernel
theorem dL_law_497 : decode cL_law 497 = .ok (.iadd, 1) := by decide +kernel
theorem dL_law_498 : decode cL_law 498 = .ok (.iaload, 1) := by decide +kernel
theorem dL_law_499 : decode cL_law 499 = .ok (.aload_n 0, 1) := by decide +kernel
theorem dL_law_500 : decode cL_law 500 = .ok (.iload_n 3, 1) := by decide +kernel
theorem dL_law_501 : decode cL_law 501 = .ok (.iconst 2, 1) := by decide +kernel
theorem dL_law_502 : decode cL_law 502 = .ok (.iadd, 1) := by decide +kernel
theorem dL_law_503 : decode cL_law 503 = .ok (.iaload, 1) := by decide +kernel
theorem dL_law_504 : decode cL_law 504 = .ok (.aload_n 0, 1) := by decide +kernel
theorem dL_law_505 : decode cL_law 505 = .ok (.iload_n 3, 1) := by decide +kernel
theorem dL_law_506 : decode cL_law 506 = .ok (.iconst 3, 1) := by decide +kernel
theorem dL_law_507 : decode cL_law 507 = .ok (.iadd, 1) := by decide +kernel
theorem dL_law_508 : decode cL_law 508 = .ok (.iaload, 1) := by decide +kernel
theorem dL_law_509 : decode cL_law 509 = .ok (.invokevirtual 53, 3) := by decide +kernel
theorem dL_law_512 : decode cL_law 512 = .ok (.if_icmp .eq 365, 3) := by decide +kernel
theorem dL_law_515 : decode cL_law 515 = .ok (.iconst 0, 1) := by decide +kernel
theorem dL_law_516 : decode cL_law 516 = .ok (.ireturn, 1) := by decide +kernel
theorem dL_law_517 : decode cL_law 517 = .ok (.aload_n 1, 1) := by decide +kernel
theorem dL_law_518 : decode cL_law 518 = .ok (.aload_n 0, 1) := by decide +kernel
theorem dL_law_519 : decode cL_law 519 = .ok (.iload_n 3, 1) := by decide +kernel
theorem dL_law_520 : decode cL_law 520 = .ok (.iconst 1, 1) := by decide +kernel
theorem dL_law_521 : decode cL_law 521 = .ok (.iadd, 1) := by decide +kernel
theorem dL_law_522 : decode cL_law 522 = .ok (.iaload, 1) := by decide +kernel
theorem dL_law_523 : decode cL_law 523 = .ok (.aload_n 0, 1) := by decide +kernel
theorem dL_law_524 : decode cL_law 524 = .ok (.iload_n 3, 1) := by decide +kernel
theorem dL_law_525 : decode cL_law 525 = .ok (.iconst 2, 1) := by decide +kernel
theorem dL_law_526 : decode cL_law 526 = .ok (.iadd, 1) := by decide +kernel
theorem dL_law_527 : decode cL_law 527 = .ok (.iaload, 1) := by decide +kernel
theorem dL_law_528 : decode cL_law 528 = .ok (.invokevirtual 54, 3) := by decide +kernel
theorem dL_law_531 : decode cL_law 531 = .ok (.aload_n 2, 1) := by decide +kernel
theorem dL_law_532 : decode cL_law 532 = .ok (.aload_n 0, 1) := by decide +kernel
theorem dL_law_533 : decode cL_law 533 = .ok (.iload_n 3, 1) := by decide +kernel
theorem dL_law_534 : decode cL_law 534 = .ok (.iconst 1, 1) := by decide +kernel
theorem dL_law_535 : decode cL_law 535 = .ok (.iadd, 1) := by decide +kernel
theorem dL_law_536 : decode cL_law 536 = .ok (.iaload, 1) := by decide +kernel
theorem dL_law_537 : decode cL_law 537 = .ok (.aload_n 0, 1) := by decide +kernel
theorem dL_law_538 : decode cL_law 538 = .ok (.iload_n 3, 1) := by decide +kernel
theorem dL_law_539 : decode cL_law 539 = .ok (.iconst 2, 1) := by decide +kernel
theorem dL_law_540 : decode cL_law 540 = .ok (.iadd, 1) := by decide +kernel
theorem dL_law_541 : decode cL_law 541 = .ok (.iaload, 1) := by decide +kernel
theorem dL_law_542 : decode cL_law 542 = .ok (.invokevirtual 58, 3) := by decide +kernel
theorem dL_law_545 : decode cL_law 545 = .ok (.if_icmp .eq 332, 3) := by decide +kernel
theorem dL_law_548 : decode cL_law 548 = .ok (.iconst 0, 1) := by decide +kernel
theorem dL_law_549 : decode cL_law 549 = .ok (.ireturn, 1) := by decide +kernel
theorem dL_law_550 : decode cL_law 550 = .ok (.aload_n 1, 1) := by decide +kernel
theorem dL_law_551 : decode cL_law 551 = .ok (.aload_n 0, 1) := by decide +kernel
theorem dL_law_552 : decode cL_law 552 = .ok (.iload_n 3, 1) := by decide +kernel
theorem dL_law_553 : decode cL_law 553 = .ok (.iconst 1, 1) := by decide +kernel
theorem dL_law_554 : decode cL_law 554 = .ok (.iadd, 1) := by decide +kernel
theorem dL_law_555 : decode cL_law 555 = .ok (.iaload, 1) := by decide +kernel
theorem dL_law_556 : decode cL_law 556 = .ok (.aload_n 0, 1) := by decide +kernel
theorem dL_law_557 : decode cL_law 557 = .ok (.iload_n 3, 1) := by decide +kernel
theorem dL_law_558 : decode cL_law 558 = .ok (.iconst 2, 1) := by decide +kernel
theorem dL_law_559 : decode cL_law 559 = .ok (.iadd, 1) := by decide +kernel
theorem dL_law_560 : decode cL_law 560 = .ok (.iaload, 1) := by decide +kernel
theorem dL_law_561 : decode cL_law 561 = .ok (.invokevirtual 59, 3) := by decide +kernel
theorem dL_law_564 : decode cL_law 564 = .ok (.aload_n 2, 1) := by decide +kernel
theorem dL_law_565 : decode cL_law 565 = .ok (.aload_n 0, 1) := by decide +kernel
theorem dL_law_566 : decode cL_law 566 = .ok (.iload_n 3, 1) := by decide +kernel
theorem dL_law_567 : decode cL_law 567 = .ok (.iconst 1, 1) := by decide +kernel
theorem dL_law_568 : decode cL_law 568 = .ok (.iadd, 1) := by decide +kernel
theorem dL_law_569 : decode cL_law 569 = .ok (.iaload, 1) := by decide +kernel
theorem dL_law_570 : decode cL_law 570 = .ok (.aload_n 0, 1) := by decide +kernel
theorem dL_law_571 : decode cL_law 571 = .ok (.iload_n 3, 1) := by decide +kernel
theorem dL_law_572 : decode cL_law 572 = .ok (.iconst 2, 1) := by decide +kernel
theorem dL_law_573 : decode cL_law 573 = .ok (.iadd, 1) := by decide +kernel
theorem dL_law_574 : decode cL_law 574 = .ok (.iaload, 1) := by decide +kernel
theorem dL_law_575 : decode cL_law 575 = .ok (.invokevirtual 63, 3) := by decide +kernel
theorem dL_law_578 : decode cL_law 578 = .ok (.if_icmp .eq 299, 3) := by decide +kernel
theorem dL_law_581 : decode cL_law 581 = .ok (.iconst 0, 1) := by decide +kernel
theorem dL_law_582 : decode cL_law 582 = .ok (.ireturn, 1) := by decide +kernel
theorem dL_law_583 : decode cL_law 583 = .ok (.aload_n 1, 1) := by decide +kernel
theorem dL_law_584 : decode cL_law 584 = .ok (.aload_n 0, 1) := by decide +kernel
theorem dL_law_585 : decode cL_law 585 = .ok (.iload_n 3, 1) := by decide +kernel
theorem dL_law_586 : decode cL_law 586 = .ok (.iconst 1, 1) := by decide +kernel
theorem dL_law_587 : decode cL_law 587 = .ok (.iadd, 1) := by decide +kernel
theorem dL_law_588 : decode cL_law 588 = .ok (.iaload, 1) := by decide +kernel
theorem dL_law_589 : decode cL_law 589 = .ok (.aload_n 0, 1) := by decide +kernel
theorem dL_law_590 : decode cL_law 590 = .ok (.iload_n 3, 1) := by decide +kernel
theorem dL_law_591 : decode cL_law 591 = .ok (.iconst 2, 1) := by decide +kernel
theorem dL_law_592 : decode cL_law 592 = .ok (.iadd, 1) := by decide +kernel
theorem dL_law_593 : decode cL_law 593 = .ok (.iaload, 1) := by decide +kernel
theorem dL_law_594 : decode cL_law 594 = .ok (.aload_n 0, 1) := by decide +kernel
theorem dL_law_595 : decode cL_law 595 = .ok (.iload_n 3, 1) := by decide +kernel
theorem dL_law_596 : decode cL_law 596 = .ok (.iconst 3, 1) := by decide +kernel
theorem dL_law_597 : decode cL_law 597 = .ok (.iadd, 1) := by decide +kernel
theorem dL_law_598 : decode cL_law 598 = .ok (.iaload, 1) := by decide +kernel
theorem dL_law_599 : decode cL_law 599 = .ok (.invokevirtual 64, 3) := by decide +kernel
theorem dL_law_602 : decode cL_law 602 = .ok (.aload_n 2, 1) := by decide +kernel
theorem dL_law_603 : decode cL_law 603 = .ok (.aload_n 0, 1) := by decide +kernel
theorem dL_law_604 : decode cL_law 604 = .ok (.iload_n 3, 1) := by decide +kernel
theorem dL_law_605 : decode cL_law 605 = .ok (.iconst 1, 1) := by decide +kernel
theorem dL_law_606 : decode cL_law 606 = .ok (.iadd, 1) := by decide +kernel
theorem dL_law_607 : decode cL_law 607 = .ok (.iaload, 1) := by decide +kernel
theorem dL_law_608 : decode cL_law 608 = .ok (.aload_n 0, 1) := by decide +kernel
theorem dL_law_609 : decode cL_law 609 = .ok (.iload_n 3, 1) := by decide +kernel
theorem dL_law_610 : decode cL_law 610 = .ok (.iconst 2, 1) := by decide +kernel
theorem dL_law_611 : decode cL_law 611 = .ok (.iadd, 1) := by decide +kernel
theorem dL_law_612 : decode cL_law 612 = .ok (.iaload, 1) := by decide +kernel
theorem dL_law_613 : decode cL_law 613 = .ok (.aload_n 0, 1) := by decide +kernel
theorem dL_law_614 : decode cL_law 614 = .ok (.iload_n 3, 1) := by decide +kernel
theorem dL_law_615 : decode cL_law 615 = .ok (.iconst 3, 1) := by decide +kernel
theorem dL_law_616 : decode cL_law 616 = .ok (.iadd, 1) := by decide +kernel
theorem dL_law_617 : decode cL_law 617 = .ok (.iaload, 1) := by decide +kernel
theorem dL_law_618 : decode cL_law 618 = .ok (.invokevirtual 67, 3) := by decide +kernel
theorem dL_law_621 : decode cL_law 621 = .ok (.if_icmp .eq 256, 3) := by decide +kernel
theorem dL_law_624 : decode cL_law 624 = .ok (.iconst 0, 1) := by decide +kernel
theorem dL_law_625 : decode cL_law 625 = .ok (.ireturn, 1) := by decide +kernel
theorem dL_law_626 : decode cL_law 626 = .ok (.aload_n 1, 1) := by decide +kernel
theorem dL_law_627 : decode cL_law 627 = .ok (.aload_n 0, 1) := by decide +kernel
theorem dL_law_628 : decode cL_law 628 = .ok (.iload_n 3, 1) := by decide +kernel
theorem dL_law_629 : decode cL_law 629 = .ok (.iconst 1, 1) := by decide +kernel
theorem dL_law_630 : decode cL_law 630 = .ok (.iadd, 1) := by decide +kernel
theorem dL_law_631 : decode cL_law 631 = .ok (.iaload, 1) := by decide +kernel
theorem dL_law_632 : decode cL_law 632 = .ok (.aload_n 0, 1) := by decide +kernel
theorem dL_law_633 : decode cL_law 633 = .ok (.iload_n 3, 1) := by decide +kernel
theorem dL_law_634 : decode cL_law 634 = .ok (.iconst 2, 1) := by decide +kernel
theorem dL_law_635 : decode cL_law 635 = .ok (.iadd, 1) := by decide +kernel
theorem dL_law_636 : decode cL_law 636 = .ok (.iaload, 1) := by decide +kernel
theorem dL_law_637 : decode cL_law 637 = .ok (.aload_n 0, 1) := by decide +kernel
theorem dL_law_638 : decode cL_law 638 = .ok (.iload_n 3, 1) := by decide +kernel
theorem dL_law_639 : decode cL_law 639 = .ok (.iconst 3, 1) := by decide +kernel
theorem dL_law_640 : decode cL_law 640 = .ok (.iadd, 1) := by decide +kernel
theorem dL_law_641 : decode cL_law 641 = .ok (.iaload, 1) := by decide +kernel
theorem dL_law_642 : decode cL_law 642 = .ok (.invokevirtual 68, 3) := by decide +kernel
theorem dL_law_645 : decode cL_law 645 = .ok (.aload_n 2, 1) := by decide +kernel
theorem dL_law_646 : decode cL_law 646 = .ok (.aload_n 0, 1) := by decide +kernel
theorem dL_law_647 : decode cL_law 647 = .ok (.iload_n 3, 1) := by decide +kernel
theorem dL_law_648 : decode cL_law 648 = .ok (.iconst 1, 1) := by decide +kernel
theorem dL_law_649 : decode cL_law 649 = .ok (.iadd, 1) := by decide +kernel
theorem dL_law_650 : decode cL_law 650 = .ok (.iaload, 1) := by decide +kernel
theorem dL_law_651 : decode cL_law 651 = .ok (.aload_n 0, 1) := by decide +kernel
theorem dL_law_652 : decode cL_law 652 = .ok (.iload_n 3, 1) := by decide +kernel
theorem dL_law_653 : decode cL_law 653 = .ok (.iconst 2, 1) := by decide +kernel
theorem dL_law_654 : decode cL_law 654 = .ok (.iadd, 1) := by decide +kernel
theorem dL_law_655 : decode cL_law 655 = .ok (.iaload, 1) := by decide +kernel
theorem dL_law_656 : decode cL_law 656 = .ok (.aload_n 0, 1) := by decide +kernel
theorem dL_law_657 : decode cL_law 657 = .ok (.iload_n 3, 1) := by decide +kernel
theorem dL_law_658 : decode cL_law 658 = .ok (.iconst 3, 1) := by decide +kernel
theorem dL_law_659 : decode cL_law 659 = .ok (.iadd, 1) := by decide +kernel
theorem dL_law_660 : decode cL_law 660 = .ok (.iaload, 1) := by decide +kernel
theorem dL_law_661 : decode cL_law 661 = .ok (.invokevirtual 71, 3) := by decide +kernel
theorem dL_law_664 : decode cL_law 664 = .ok (.if_icmp .eq 213, 3) := by decide +kernel
theorem dL_law_667 : decode cL_law 667 = .ok (.iconst 0, 1) := by decide +kernel
theorem dL_law_668 : decode cL_law 668 = .ok (.ireturn, 1) := by decide +kernel
theorem dL_law_669 : decode cL_law 669 = .ok (.aload_n 1, 1) := by decide +kernel
theorem dL_law_670 : decode cL_law 670 = .ok (.aload_n 0, 1) := by decide +kernel
theorem dL_law_671 : decode cL_law 671 = .ok (.iload_n 3, 1) := by decide +kernel
theorem dL_law_672 : decode cL_law 672 = .ok (.iconst 1, 1) := by decide +kernel
theorem dL_law_673 : decode cL_law 673 = .ok (.iadd, 1) := by decide +kernel
theorem dL_law_674 : decode cL_law 674 = .ok (.iaload, 1) := by decide +kernel
theorem dL_law_675 : decode cL_law 675 = .ok (.aload_n 0, 1) := by decide +kernel
theorem dL_law_676 : decode cL_law 676 = .ok (.iload_n 3, 1) := by decide +kernel
theorem dL_law_677 : decode cL_law 677 = .ok (.iconst 2, 1) := by decide +kernel
theorem dL_law_678 : decode cL_law 678 = .ok (.iadd, 1) := by decide +kernel
theorem dL_law_679 : decode cL_law 679 = .ok (.iaload, 1) := by decide +kernel
theorem dL_law_680 : decode cL_law 680 = .ok (.invokevirtual 72, 3) := by decide +kernel
theorem dL_law_683 : decode cL_law 683 = .ok (.aload_n 2, 1) := by decide +kernel
theorem dL_law_684 : decode cL_law 684 = .ok (.aload_n 0, 1) := by decide +kernel
theorem dL_law_685 : decode cL_law 685 = .ok (.iload_n 3, 1) := by decide +kernel
theorem dL_law_686 : decode cL_law 686 = .ok (.iconst 1, 1) := by decide +kernel
theorem dL_law_687 : decode cL_law 687 = .ok (.iadd, 1) := by decide +kernel
theorem dL_law_688 : decode cL_law 688 = .ok (.iaload, 1) := by decide +kernel
theorem dL_law_689 : decode cL_law 689 = .ok (.aload_n 0, 1) := by decide +kernel
theorem dL_law_690 : decode cL_law 690 = .ok (.iload_n 3, 1) := by decide +kernel
theorem dL_law_691 : decode cL_law 691 = .ok (.iconst 2, 1) := by decide +kernel
theorem dL_law_692 : decode cL_law 692 = .ok (.iadd, 1) := by decide +kernel
theorem dL_law_693 : decode cL_law 693 = .ok (.iaload, 1) := by decide +kernel
theorem dL_law_694 : decode cL_law 694 = .ok (.invokevirtual 75, 3) := by decide +kernel
theorem dL_law_697 : decode cL_law 697 = .ok (.if_icmp .eq 180, 3) := by decide +kernel
theorem dL_law_700 : decode cL_law 700 = .ok (.iconst 0, 1) := by decide +kernel
theorem dL_law_701 : decode cL_law 701 = .ok (.ireturn, 1) := by decide +kernel
theorem dL_law_702 : decode cL_law 702 = .ok (.aload_n 1, 1) := by decide +kernel
theorem dL_law_703 : decode cL_law 703 = .ok (.aload_n 0, 1) := by decide +kernel
theorem dL_law_704 : decode cL_law 704 = .ok (.iload_n 3, 1) := by decide +kernel
theorem dL_law_705 : decode cL_law 705 = .ok (.iconst 1, 1) := by decide +kernel
theorem dL_law_706 : decode cL_law 706 = .ok (.iadd, 1) := by decide +kernel
theorem dL_law_707 : decode cL_law 707 = .ok (.iaload, 1) := by decide +kernel
theorem dL_law_708 : decode cL_law 708 = .ok (.aload_n 0, 1) := by decide +kernel
theorem dL_law_709 : decode cL_law 709 = .ok (.iload_n 3, 1) := by decide +kernel
theorem dL_law_710 : decode cL_law 710 = .ok (.iconst 2, 1) := by decide +kernel
theorem dL_law_711 : decode cL_law 711 = .ok (.iadd, 1) := by decide +kernel
theorem dL_law_712 : decode cL_law 712 = .ok (.iaload, 1) := by decide +kernel
theorem dL_law_713 : decode cL_law 713 = .ok (.invokevirtual 76, 3) := by decide +kernel
theorem dL_law_716 : decode cL_law 716 = .ok (.aload_n 2, 1) := by decide +kernel
theorem dL_law_717 : decode cL_law 717 = .ok (.aload_n 0, 1) := by decide +kernel
theorem dL_law_718 : decode cL_law 718 = .ok (.iload_n 3, 1) := by decide +kernel
theorem dL_law_719 : decode cL_law 719 = .ok (.iconst 1, 1) := by decide +kernel
theorem dL_law_720 : decode cL_law 720 = .ok (.iadd, 1) := by decide +kernel
theorem dL_law_721 : decode cL_law 721 = .ok (.iaload, 1) := by decide +kernel
theorem dL_law_722 : decode cL_law 722 = .ok (.aload_n 0, 1) := by decide +kernel
theorem dL_law_723 : decode cL_law 723 = .ok (.iload_n 3, 1) := by decide +kernel
theorem dL_law_724 : decode cL_law 724 = .ok (.iconst 2, 1) := by decide +kernel
theorem dL_law_725 : decode cL_law 725 = .ok (.iadd, 1) := by decide +kernel
theorem dL_law_726 : decode cL_law 726 = .ok (.iaload, 1) := by decide +kernel
theorem dL_law_727 : decode cL_law 727 = .ok (.invokevirtual 79, 3) := by decide +kernel
theorem dL_law_730 : decode cL_law 730 = .ok (.if_icmp .eq 147, 3) := by decide +kernel
theorem dL_law_733 : decode cL_law 733 = .ok (.iconst 0, 1) := by decide +kernel
theorem dL_law_734 : decode cL_law 734 = .ok (.ireturn, 1) := by decide +kernel
theorem dL_law_735 : decode cL_law 735 = .ok (.aload_n 1, 1) := by decide +kernel
theorem dL_law_736 : decode cL_law 736 = .ok (.aload_n 0, 1) := by decide +kernel
theorem dL_law_737 : decode cL_law 737 = .ok (.iload_n 3, 1) := by decide +kernel
theorem dL_law_738 : decode cL_law 738 = .ok (.iconst 1, 1) := by decide +kernel
theorem dL_law_739 : decode cL_law 739 = .ok (.iadd, 1) := by decide +kernel
theorem dL_law_740 : decode cL_law 740 = .ok (.iaload, 1) := by decide +kernel
theorem dL_law_741 : decode cL_law 741 = .ok (.aload_n 0, 1) := by decide +kernel
theorem dL_law_742 : decode cL_law 742 = .ok (.iload_n 3, 1) := by decide +kernel
theorem dL_law_743 : decode cL_law 743 = .ok (.iconst 2, 1) := by decide +kernel
theorem dL_law_744 : decode cL_law 744 = .ok (.iadd, 1) := by decide +kernel
theorem dL_law_745 : decode cL_law 745 = .ok (.iaload, 1) := by decide +kernel
theorem dL_law_746 : decode cL_law 746 = .ok (.aload_n 0, 1) := by decide +kernel
theorem dL_law_747 : decode cL_law 747 = .ok (.iload_n 3, 1) := by decide +kernel
theorem dL_law_748 : decode cL_law 748 = .ok (.iconst 3, 1) := by decide +kernel
theorem dL_law_749 : decode cL_law 749 = .ok (.iadd, 1) := by decide +kernel
theorem dL_law_750 : decode cL_law 750 = .ok (.iaload, 1) := by decide +kernel
theorem dL_law_751 : decode cL_law 751 = .ok (.invokevirtual 80, 3) := by decide +kernel
theorem dL_law_754 : decode cL_law 754 = .ok (.aload_n 2, 1) := by decide +kernel
theorem dL_law_755 : decode cL_law 755 = .ok (.aload_n 0, 1) := by decide +kernel
theorem dL_law_756 : decode cL_law 756 = .ok (.iload_n 3, 1) := by decide +kernel
theorem dL_law_757 : decode cL_law 757 = .ok (.iconst 1, 1) := by decide +kernel
theorem dL_law_758 : decode cL_law 758 = .ok (.iadd, 1) := by decide +kernel
theorem dL_law_759 : decode cL_law 759 = .ok (.iaload, 1) := by decide +kernel
theorem dL_law_760 : decode cL_law 760 = .ok (.aload_n 0, 1) := by decide +kernel
theorem dL_law_761 : decode cL_law 761 = .ok (.iload_n 3, 1) := by decide +kernel
theorem dL_law_762 : decode cL_law 762 = .ok (.iconst 2, 1) := by decide +kernel
theorem dL_law_763 : decode cL_law 763 = .ok (.iadd, 1) := by decide +kernel
theorem dL_law_764 : decode cL_law 764 = .ok (.iaload, 1) := by decide +kernel
theorem dL_law_765 : decode cL_law 765 = .ok (.aload_n 0, 1) := by decide +kernel
theorem dL_law_766 : decode cL_law 766 = .ok (.iload_n 3, 1) := by decide +kernel
theorem dL_law_767 : decode cL_law 767 = .ok (.iconst 3, 1) := by decide +kernel
theorem dL_law_768 : decode cL_law 768 = .ok (.iadd, 1) := by decide +kernel
theorem dL_law_769 : decode cL_law 769 = .ok (.iaload, 1) := by decide +kernel
theorem dL_law_770 : decode cL_law 770 = .ok (.invokevirtual 83, 3) := by decide +kernel
theorem dL_law_773 : decode cL_law 773 = .ok (.if_icmp .eq 104, 3) := by decide +kernel
theorem dL_law_776 : decode cL_law 776 = .ok (.iconst 0, 1) := by decide +kernel
theorem dL_law_777 : decode cL_law 777 = .ok (.ireturn, 1) := by decide +kernel
theorem dL_law_778 : decode cL_law 778 = .ok (.aload_n 1, 1) := by decide +kernel
theorem dL_law_779 : decode cL_law 779 = .ok (.aload_n 0, 1) := by decide +kernel
theorem dL_law_780 : decode cL_law 780 = .ok (.iload_n 3, 1) := by decide +kernel
theorem dL_law_781 : decode cL_law 781 = .ok (.iconst 1, 1) := by decide +kernel
theorem dL_law_782 : decode cL_law 782 = .ok (.iadd, 1) := by decide +kernel
theorem dL_law_783 : decode cL_law 783 = .ok (.iaload, 1) := by decide +kernel
theorem dL_law_784 : decode cL_law 784 = .ok (.aload_n 0, 1) := by decide +kernel
theorem dL_law_785 : decode cL_law 785 = .ok (.iload_n 3, 1) := by decide +kernel
theorem dL_law_786 : decode cL_law 786 = .ok (.iconst 2, 1) := by decide +kernel
theorem dL_law_787 : decode cL_law 787 = .ok (.iadd, 1) := by decide +kernel
theorem dL_law_788 : decode cL_law 788 = .ok (.iaload, 1) := by decide +kernel
theorem dL_law_789 : decode cL_law 789 = .ok (.aload_n 0, 1) := by decide +kernel
theorem dL_law_790 : decode cL_law 790 = .ok (.iload_n 3, 1) := by decide +kernel
theorem dL_law_791 : decode cL_law 791 = .ok (.iconst 3, 1) := by decide +kernel
theorem dL_law_792 : decode cL_law 792 = .ok (.iadd, 1) := by decide +kernel
theorem dL_law_793 : decode cL_law 793 = .ok (.iaload, 1) := by decide +kernel
theorem dL_law_794 : decode cL_law 794 = .ok (.invokevirtual 84, 3) := by decide +kernel
theorem dL_law_797 : decode cL_law 797 = .ok (.aload_n 2, 1) := by decide +kernel
theorem dL_law_798 : decode cL_law 798 = .ok (.aload_n 0, 1) := by decide +kernel
theorem dL_law_799 : decode cL_law 799 = .ok (.iload_n 3, 1) := by decide +kernel
theorem dL_law_800 : decode cL_law 800 = .ok (.iconst 1, 1) := by decide +kernel
theorem dL_law_801 : decode cL_law 801 = .ok (.iadd, 1) := by decide +kernel
theorem dL_law_802 : decode cL_law 802 = .ok (.iaload, 1) := by decide +kernel
theorem dL_law_803 : decode cL_law 803 = .ok (.aload_n 0, 1) := by decide +kernel
theorem dL_law_804 : decode cL_law 804 = .ok (.iload_n 3, 1) := by decide +kernel
theorem dL_law_805 : decode cL_law 805 = .ok (.iconst 2, 1) := by decide +kernel
theorem dL_law_806 : decode cL_law 806 = .ok (.iadd, 1) := by decide +kernel
theorem dL_law_807 : decode cL_law 807 = .ok (.iaload, 1) := by decide +kernel
theorem dL_law_808 : decode cL_law 808 = .ok (.aload_n 0, 1) := by decide +kernel
theorem dL_law_809 : decode cL_law 809 = .ok (.iload_n 3, 1) := by decide +kernel
theorem dL_law_810 : decode cL_law 810 = .ok (.iconst 3, 1) := by decide +kernel
theorem dL_law_811 : decode cL_law 811 = .ok (.iadd, 1) := by decide +kernel
theorem dL_law_812 : decode cL_law 812 = .ok (.iaload, 1) := by decide +kernel
theorem dL_law_813 : decode cL_law 813 = .ok (.invokevirtual 87, 3) := by decide +kernel
theorem dL_law_816 : decode cL_law 816 = .ok (.if_icmp .eq 61, 3) := by decide +kernel
theorem dL_law_819 : decode cL_law 819 = .ok (.iconst 0, 1) := by decide +kernel
theorem dL_law_820 : decode cL_law 820 = .ok (.ireturn, 1) := by decide +kernel
theorem dL_law_821 : decode cL_law 821 = .ok (.aload_n 1, 1) := by decide +kernel
theorem dL_law_822 : decode cL_law 822 = .ok (.aload_n 0, 1) := by decide +kernel
theorem dL_law_823 : decode cL_law 823 = .ok (.iload_n 3, 1) := by decide +kernel
theorem dL_law_824 : decode cL_law 824 = .ok (.iconst 1, 1) := by decide +kernel
theorem dL_law_825 : decode cL_law 825 = .ok (.iadd, 1) := by decide +kernel
theorem dL_law_826 : decode cL_law 826 = .ok (.iaload, 1) := by decide +kernel
theorem dL_law_827 : decode cL_law 827 = .ok (.aload_n 0, 1) := by decide +kernel
theorem dL_law_828 : decode cL_law 828 = .ok (.iload_n 3, 1) := by decide +kernel
theorem dL_law_829 : decode cL_law 829 = .ok (.iconst 2, 1) := by decide +kernel
theorem dL_law_830 : decode cL_law 830 = .ok (.iadd, 1) := by decide +kernel
theorem dL_law_831 : decode cL_law 831 = .ok (.iaload, 1) := by decide +kernel
theorem dL_law_832 : decode cL_law 832 = .ok (.invokevirtual 88, 3) := by decide +kernel
theorem dL_law_835 : decode cL_law 835 = .ok (.aload_n 2, 1) := by decide +kernel
theorem dL_law_836 : decode cL_law 836 = .ok (.aload_n 0, 1) := by decide +kernel
theorem dL_law_837 : decode cL_law 837 = .ok (.iload_n 3, 1) := by decide +kernel
theorem dL_law_838 : decode cL_law 838 = .ok (.iconst 1, 1) := by decide +kernel
theorem dL_law_839 : decode cL_law 839 = .ok (.iadd, 1) := by decide +kernel
theorem dL_law_840 : decode cL_law 840 = .ok (.iaload, 1) := by decide +kernel
theorem dL_law_841 : decode cL_law 841 = .ok (.aload_n 0, 1) := by decide +kernel
theorem dL_law_842 : decode cL_law 842 = .ok (.iload_n 3, 1) := by decide +kernel
theorem dL_law_843 : decode cL_law 843 = .ok (.iconst 2, 1) := by decide +kernel
theorem dL_law_844 : decode cL_law 844 = .ok (.iadd, 1) := by decide +kernel
theorem dL_law_845 : decode cL_law 845 = .ok (.iaload, 1) := by decide +kernel
theorem dL_law_846 : decode cL_law 846 = .ok (.invokevirtual 91, 3) := by decide +kernel
theorem dL_law_849 : decode cL_law 849 = .ok (.if_icmp .eq 28, 3) := by decide +kernel
theorem dL_law_852 : decode cL_law 852 = .ok (.iconst 0, 1) := by decide +kernel
theorem dL_law_853 : decode cL_law 853 = .ok (.ireturn, 1) := by decide +kernel
theorem dL_law_854 : decode cL_law 854 = .ok (.aload_n 1, 1) := by decide +kernel
theorem dL_law_855 : decode cL_law 855 = .ok (.aload_n 0, 1) := by decide +kernel
theorem dL_law_856 : decode cL_law 856 = .ok (.iload_n 3, 1) := by decide +kernel
theorem dL_law_857 : decode cL_law 857 = .ok (.iconst 1, 1) := by decide +kernel
theorem dL_law_858 : decode cL_law 858 = .ok (.iadd, 1) := by decide +kernel
theorem dL_law_859 : decode cL_law 859 = .ok (.iaload, 1) := by decide +kernel
theorem dL_law_860 : decode cL_law 860 = .ok (.invokevirtual 92, 3) := by decide +kernel
theorem dL_law_863 : decode cL_law 863 = .ok (.aload_n 2, 1) := by decide +kernel
theorem dL_law_864 : decode cL_law 864 = .ok (.aload_n 0, 1) := by decide +kernel
theorem dL_law_865 : decode cL_law 865 = .ok (.iload_n 3, 1) := by decide +kernel
theorem dL_law_866 : decode cL_law 866 = .ok (.iconst 1, 1) := by decide +kernel
theorem dL_law_867 : decode cL_law 867 = .ok (.iadd, 1) := by decide +kernel
theorem dL_law_868 : decode cL_law 868 = .ok (.iaload, 1) := by decide +kernel
theorem dL_law_869 : decode cL_law 869 = .ok (.invokevirtual 95, 3) := by decide +kernel
theorem dL_law_872 : decode cL_law 872 = .ok (.if_icmp .eq 5, 3) := by decide +kernel
theorem dL_law_875 : decode cL_law 875 = .ok (.iconst 0, 1) := by decide +kernel
theorem dL_law_876 : decode cL_law 876 = .ok (.ireturn, 1) := by decide +kernel
theorem dL_law_877 : decode cL_law 877 = .ok (.iinc 3 6, 3) := by decide +kernel
theorem dL_law_880 : decode cL_law 880 = .ok (.goto (-862), 3) := by decide +kernel
theorem dL_law_883 : decode cL_law 883 = .ok (.iconst 1, 1) := by decide +kernel
theorem dL_law_884 : decode cL_law 884 = .ok (.ireturn, 1) := by decide +kernel
abbrev vwCl : List vw_C := [(RX0, TX0, 7), (RX1, TX1, 2), (RX2, TX2, 5), (RX3, TX3, 5), (RX4, TX4, 4), (RX5, TX5, 4), (RX6, TX6, 10), (RX7, TX7, 12), (RX8, TX8, 36)]
end
section
def ownN : Nat → String := fun k => match k with
  | 0 => RX0
  | 1 => RX1
  | 2 => RX2
  | 3 => RX3
  | 4 => RX4
  | 5 => RX5
  | 6 => RX6
  | 7 => RX7
  | 8 => RX8
  | 9 => RL
  | 10 => RJ0
  | 11 => RJ1
  | 12 => RJ2
  | 13 => RJ3
  | 14 => RJ6
  | _ => RJ9
abbrev Mrow : Type := MethodName × ByteArray × Nat × Option FieldType × Nat × Nat × Nat × Nat
def mtab_0 : List Mrow := [(yX0_init, cX0_init, 1, none, 0, 5, 4644, 0),
  (yX0_numberAt, cX0_numberAt, 2, (some .int), 0, 0, 0, 1),
  (yX0_lay, cX0_lay, 4, none, 0, 0, 0, 3),
  (yX0_findWhoMayStand, cX0_findWhoMayStand, 12, none, 0, 0, 0, 3),
  (yX0_findLeast, cX0_findLeast, 5, none, 0, 0, 0, 0),
  (yX0_leastFrom, cX0_leastFrom, 7, (some .int), 0, 0, 0, 3),
  (yX0_sumThrough, cX0_sumThrough, 4, (some .int), 0, 0, 0, 3),
  (yX0_waitBetween, cX0_waitBetween, 3, (some .int), 0, 0, 0, 2),
  (yX0_layLeast, cX0_layLeast, 5, none, 0, 0, 0, 1),
  (yX0_firstOfLeast, cX0_firstOfLeast, 4, (some .int), 0, 0, 0, 0),
  (yX0_nextOfLeast, cX0_nextOfLeast, 7, (some .int), 0, 0, 0, 3),
  (yX0_has, cX0_has, 2, (some .boolean), 0, 0, 0, 2),
  (yX1_init, cX1_init, 1, none, 1, 1, 9, 0),
  (yX1_put, cX1_put, 2, none, 1, 0, 0, 1),
  (yX1_memberAt, cX1_memberAt, 2, (some (.object "VarietyCircuit$Turn")), 1, 0, 0, 1),
  (yX1_numberAt, cX1_numberAt, 3, (some .int), 1, 0, 0, 1),
  (yX1_minutesOfAll, cX1_minutesOfAll, 4, (some .int), 1, 0, 0, 0),
  (yX1_payOfAll, cX1_payOfAll, 7, (some .int), 1, 0, 0, 2),
  (yX1_topCount, cX1_topCount, 4, (some .int), 1, 0, 0, 0),
  (yX1_drawOfTops, cX1_drawOfTops, 4, (some .int), 1, 0, 0, 0),
  (yX1_hasLike, cX1_hasLike, 4, (some .boolean), 1, 0, 0, 1),
  (yX1_isApartFrom, cX1_isApartFrom, 8, (some .boolean), 1, 0, 0, 4),
  (yX2_init, cX2_init, 6, none, 2, 0, 0, 5),
  (yX2_lastNumber, cX2_lastNumber, 3, (some .int), 2, 0, 0, 1),
  (yX2_isNeverIn, cX2_isNeverIn, 2, (some .boolean), 2, 0, 0, 1),
  (yX2_isApartFrom, cX2_isApartFrom, 2, (some .boolean), 2, 0, 0, 1),
  (yX2_hasBar, cX2_hasBar, 4, (some .boolean), 2, 0, 0, 2),
  (yX2_tells, cX2_tells, 4, (some .boolean), 2, 0, 0, 2),
  (yX3_init, cX3_init, 3, none, 3, 0, 0, 2),
  (yX3_readText, cX3_readText, 2, (some .boolean), 3, 12, 48, 0)]
def mtab_1 : List Mrow := [(yX3_readStatement, cX3_readStatement, 4, (some .boolean), 3, 1, 4, 0),
  (yX3_readOpening, cX3_readOpening, 1, (some .int), 3, 0, 0, 0),
  (yX3_stepTo, cX3_stepTo, 2, (some .boolean), 3, 0, 0, 1),
  (yX3_stepToNumber, cX3_stepToNumber, 3, (some .int), 3, 0, 0, 0),
  (yX3_step, cX3_step, 1, none, 3, 0, 0, 0),
  (yX3_holds, cX3_holds, 3, (some .boolean), 3, 0, 0, 1),
  (yX3_byteAt, cX3_byteAt, 2, (some .int), 3, 0, 0, 1),
  (yX3_isBlank, cX3_isBlank, 2, (some .boolean), 3, 0, 0, 1),
  (yX3_isLetter, cX3_isLetter, 2, (some .boolean), 3, 0, 0, 1),
  (yX3_isDigit, cX3_isDigit, 2, (some .boolean), 3, 0, 0, 1),
  (yX4_init, cX4_init, 5, none, 4, 0, 0, 4),
  (yX4_milesTo, cX4_milesTo, 2, (some .int), 4, 0, 0, 1),
  (yX5_init, cX5_init, 5, none, 5, 0, 0, 4),
  (yX6_init, cX6_init, 7, none, 6, 1, 60, 6),
  (yX6_hallIn, cX6_hallIn, 2, (some (.object "VarietyCircuit$Hall")), 6, 0, 0, 1),
  (yX6_setHallIn, cX6_setHallIn, 3, none, 6, 0, 0, 2),
  (yX6_isSoonIn, cX6_isSoonIn, 4, (some .boolean), 6, 0, 0, 2),
  (yX6_contractIn, cX6_contractIn, 6, (some (.object "VarietyCircuit$Contract")), 6, 0, 0, 2),
  (yX7_init, cX7_init, 1, none, 7, 11, 5312, 0),
  (yX7_weeks, cX7_weeks, 2, (some .int), 7, 0, 0, 1),
  (yX7_turn, cX7_turn, 8, (some .int), 7, 2, 70, 5),
  (yX7_hall, cX7_hall, 6, (some .int), 7, 1, 4, 3),
  (yX7_feed, cX7_feed, 6, (some .int), 7, 0, 0, 5),
  (yX7_sign, cX7_sign, 8, (some .int), 7, 14, 58, 3),
  (yX7_fault, cX7_fault, 1, (some .int), 7, 0, 0, 0),
  (yX7_force, cX7_force, 5, (some .int), 7, 0, 0, 3),
  (yX7_why, cX7_why, 4, (some .int), 7, 0, 0, 3),
  (yX7_book, cX7_book, 6, (some .int), 7, 0, 0, 3),
  (yX7_cancel, cX7_cancel, 4, (some .boolean), 7, 0, 0, 2),
  (yX7_where, cX7_where, 5, (some .int), 7, 0, 0, 2)]
def mtab_2 : List Mrow := [(yX7_bill, cX7_bill, 5, (some .int), 7, 0, 0, 3),
  (yX7_order, cX7_order, 4, (some .int), 7, 0, 0, 3),
  (yX7_waits, cX7_waits, 3, (some .int), 7, 0, 0, 2),
  (yX7_fail, cX7_fail, 6, (some .int), 7, 0, 0, 2),
  (yX7_fill, cX7_fill, 7, (some .int), 7, 0, 0, 3),
  (yX7_pay, cX7_pay, 6, (some .int), 7, 0, 0, 3),
  (yX7_turnOf, cX7_turnOf, 4, (some .int), 7, 0, 0, 2),
  (yX7_count, cX7_count, 2, (some .int), 7, 0, 0, 1),
  (yX7_isWithin, cX7_isWithin, 3, (some .boolean), 7, 0, 0, 3),
  (yX7_isWeek, cX7_isWeek, 1, (some .boolean), 7, 0, 0, 1),
  (yX7_isOpen, cX7_isOpen, 2, (some .boolean), 7, 0, 0, 1),
  (yX7_turnAt, cX7_turnAt, 2, (some (.object "VarietyCircuit$Turn")), 7, 0, 0, 1),
  (yX7_hallAt, cX7_hallAt, 2, (some (.object "VarietyCircuit$Hall")), 7, 0, 0, 1),
  (yX7_putBytes, cX7_putBytes, 3, none, 7, 0, 0, 1),
  (yX7_contractAsKnown, cX7_contractAsKnown, 3, (some (.object "VarietyCircuit$Contract")), 7, 0, 0, 3),
  (yX7_gather, cX7_gather, 5, none, 7, 0, 0, 2),
  (yX7_layBest, cX7_layBest, 4, none, 7, 0, 0, 2),
  (yX7_putOn, cX7_putOn, 4, none, 7, 0, 0, 3),
  (yX7_takeOff, cX7_takeOff, 3, none, 7, 0, 0, 2),
  (yX7_greatestDraw, cX7_greatestDraw, 7, (some (.object "VarietyCircuit$Turn")), 7, 0, 0, 3),
  (yX7_barTo, cX7_barTo, 5, (some .int), 7, 0, 0, 3),
  (yX7_barOnBill, cX7_barOnBill, 5, (some .int), 7, 0, 0, 4),
  (yX7_isTooFar, cX7_isTooFar, 2, (some .boolean), 7, 0, 0, 2),
  (yX7_isBarredByOwn, cX7_isBarredByOwn, 6, (some .boolean), 7, 0, 0, 4),
  (yX7_isBarredByOtherWeeks, cX7_isBarredByOtherWeeks, 7, (some .boolean), 7, 0, 0, 3),
  (yX8_init, cX8_init, 2, none, 8, 23, 10945, 0),
  (yX8_isIn, cX8_isIn, 3, (some .boolean), 8, 0, 0, 3),
  (yX8_isTurn, cX8_isTurn, 2, (some .boolean), 8, 0, 0, 1),
  (yX8_isHall, cX8_isHall, 2, (some .boolean), 8, 0, 0, 1),
  (yX8_isWeek, cX8_isWeek, 1, (some .boolean), 8, 0, 0, 1)]
def mtab_3 : List Mrow := [(yX8_one, cX8_one, 1, (some .int), 8, 0, 0, 1),
  (yX8_weeks, cX8_weeks, 2, (some .int), 8, 0, 0, 1),
  (yX8_turn, cX8_turn, 6, (some .int), 8, 0, 0, 5),
  (yX8_hall, cX8_hall, 4, (some .int), 8, 0, 0, 3),
  (yX8_feed, cX8_feed, 6, (some .int), 8, 0, 0, 5),
  (yX8_four, cX8_four, 3, none, 8, 0, 0, 1),
  (yX8_blanks, cX8_blanks, 1, none, 8, 0, 0, 0),
  (yX8_word, cX8_word, 3, (some .long), 8, 0, 0, 0),
  (yX8_takes, cX8_takes, 3, (some .boolean), 8, 0, 0, 1),
  (yX8_takesNumber, cX8_takesNumber, 2, (some .boolean), 8, 0, 0, 0),
  (yX8_statement, cX8_statement, 2, (some .boolean), 8, 0, 0, 1),
  (yX8_sign, cX8_sign, 6, (some .int), 8, 0, 0, 3),
  (yX8_fault, cX8_fault, 1, (some .int), 8, 0, 0, 0),
  (yX8_inForce, cX8_inForce, 6, (some .int), 8, 0, 0, 3),
  (yX8_force, cX8_force, 4, (some .int), 8, 0, 0, 3),
  (yX8_lastOf, cX8_lastOf, 5, (some .int), 8, 0, 0, 2),
  (yX8_tells, cX8_tells, 6, (some .boolean), 8, 0, 0, 3),
  (yX8_bars, cX8_bars, 7, (some .boolean), 8, 0, 0, 4),
  (yX8_hallOf, cX8_hallOf, 3, (some .int), 8, 0, 0, 2),
  (yX8_isFarFrom, cX8_isFarFrom, 4, (some .boolean), 8, 0, 0, 3),
  (yX8_why, cX8_why, 14, (some .int), 8, 0, 0, 3),
  (yX8_many, cX8_many, 5, (some .int), 8, 0, 0, 2),
  (yX8_book, cX8_book, 4, (some .int), 8, 0, 0, 3),
  (yX8_isBooked, cX8_isBooked, 3, (some .boolean), 8, 0, 0, 2),
  (yX8_cancel, cX8_cancel, 3, (some .boolean), 8, 0, 0, 2),
  (yX8_where, cX8_where, 3, (some .int), 8, 0, 0, 2),
  (yX8_bill, cX8_bill, 10, (some .int), 8, 0, 0, 3),
  (yX8_mayLie, cX8_mayLie, 5, (some .boolean), 8, 0, 0, 3),
  (yX8_wait, cX8_wait, 3, (some .int), 8, 0, 0, 2),
  (yX8_lays, cX8_lays, 11, (some .boolean), 8, 0, 0, 2)]
def mtab_4 : List Mrow := [(yX8_many_, cX8_many_, 3, (some .int), 8, 0, 0, 1),
  (yX8_order, cX8_order, 4, (some .int), 8, 0, 0, 3),
  (yX8_waits, cX8_waits, 3, (some .int), 8, 0, 0, 2),
  (yX8_bestFor, cX8_bestFor, 6, (some .int), 8, 0, 0, 3),
  (yX8_fail, cX8_fail, 5, (some .int), 8, 0, 0, 2),
  (yX8_fill, cX8_fill, 5, (some .int), 8, 0, 0, 3),
  (yX8_pay, cX8_pay, 4, (some .int), 8, 0, 0, 3),
  (yX8_turnOf, cX8_turnOf, 5, (some .int), 8, 0, 0, 2),
  (yX8_count, cX8_count, 2, (some .int), 8, 0, 0, 1),
  (yJ6_bitCount_0f7a4, cJ6_bitCount_0f7a4, 1, (some .int), 14, 0, 0, 1),
  (yJ0_length_8abf5, cJ0_length_8abf5, 1, (some .int), 10, 0, 0, 0),
  (yJ0_charAt_5068e, cJ0_charAt_5068e, 2, (some .char), 10, 0, 0, 1),
  (yJ0_coder_7d493, cJ0_coder_7d493, 1, (some .byte), 10, 0, 0, 0),
  (yJ0_isLatin1_aae02, cJ0_isLatin1_aae02, 1, (some .boolean), 10, 0, 0, 0),
  (yJ0_checkIndex_df160, cJ0_checkIndex_df160, 2, none, 10, 0, 0, 2),
  (yJ1_charAt_3b067, cJ1_charAt_3b067, 2, (some .char), 11, 0, 0, 2),
  (yJ3_checkIndex_8e157, cJ3_checkIndex_8e157, 3, (some .int), 13, 0, 0, 3),
  (yL_law, cL_law, 4, (some .boolean), 9, 600000, 7302249, 1)]
def mtab (j : Nat) : Mrow := match j / 30 with
  | 0 => (mtab_0[j % 30]?).getD (yX0_init, cX0_init, 1, none, 0, 0, 0, 0)
  | 1 => (mtab_1[j % 30]?).getD (yX0_init, cX0_init, 1, none, 0, 0, 0, 0)
  | 2 => (mtab_2[j % 30]?).getD (yX0_init, cX0_init, 1, none, 0, 0, 0, 0)
  | 3 => (mtab_3[j % 30]?).getD (yX0_init, cX0_init, 1, none, 0, 0, 0, 0)
  | 4 => (mtab_4[j % 30]?).getD (yX0_init, cX0_init, 1, none, 0, 0, 0, 0)
  | _ => (yX0_init, cX0_init, 1, none, 0, 0, 0, 0)
def my (j : Nat) : MethodName := (mtab j).1
def cd (j : Nat) : ByteArray := (mtab j).2.1
def mxL (j : Nat) : Nat := (mtab j).2.2.1
def mrt (j : Nat) : Option FieldType := (mtab j).2.2.2.1
def ow (j : Nat) : Nat := (mtab j).2.2.2.2.1
def mcq (j : Nat) : Nat := (mtab j).2.2.2.2.2.1
def msq (j : Nat) : Nat := (mtab j).2.2.2.2.2.2.1
def npq (j : Nat) : Nat := (mtab j).2.2.2.2.2.2.2
-- methods: 0 X0_init, 1 X0_numberAt, 2 X0_lay, 3 X0_findWhoMayStand, 4 X0_findLeast, 5 X0_leastFrom, 6 X0_sumThrough, 7 X0_waitBetween, 8 X0_layLeast, 9 X0_firstOfLeast, 10 X0_nextOfLeast, 11 X0_has, 12 X1_init, 13 X1_put, 14 X1_memberAt, 15 X1_numberAt, 16 X1_minutesOfAll, 17 X1_payOfAll, 18 X1_topCount, 19 X1_drawOfTops, 20 X1_hasLike, 21 X1_isApartFrom, 22 X2_init, 23 X2_lastNumber, 24 X2_isNeverIn, 25 X2_isApartFrom, 26 X2_hasBar, 27 X2_tells, 28 X3_init, 29 X3_readText, 30 X3_readStatement, 31 X3_readOpening, 32 X3_stepTo, 33 X3_stepToNumber, 34 X3_step, 35 X3_holds, 36 X3_byteAt, 37 X3_isBlank, 38 X3_isLetter, 39 X3_isDigit, 40 X4_init, 41 X4_milesTo, 42 X5_init, 43 X6_init, 44 X6_hallIn, 45 X6_setHallIn, 46 X6_isSoonIn, 47 X6_contractIn, 48 X7_init, 49 X7_weeks, 50 X7_turn, 51 X7_hall, 52 X7_feed, 53 X7_sign, 54 X7_fault, 55 X7_force, 56 X7_why, 57 X7_book, 58 X7_cancel, 59 X7_where, 60 X7_bill, 61 X7_order, 62 X7_waits, 63 X7_fail, 64 X7_fill, 65 X7_pay, 66 X7_turnOf, 67 X7_count, 68 X7_isWithin, 69 X7_isWeek, 70 X7_isOpen, 71 X7_turnAt, 72 X7_hallAt, 73 X7_putBytes, 74 X7_contractAsKnown, 75 X7_gather, 76 X7_layBest, 77 X7_putOn, 78 X7_takeOff, 79 X7_greatestDraw, 80 X7_barTo, 81 X7_barOnBill, 82 X7_isTooFar, 83 X7_isBarredByOwn, 84 X7_isBarredByOtherWeeks, 85 X8_init, 86 X8_isIn, 87 X8_isTurn, 88 X8_isHall, 89 X8_isWeek, 90 X8_one, 91 X8_weeks, 92 X8_turn, 93 X8_hall, 94 X8_feed, 95 X8_four, 96 X8_blanks, 97 X8_word, 98 X8_takes, 99 X8_takesNumber, 100 X8_statement, 101 X8_sign, 102 X8_fault, 103 X8_inForce, 104 X8_force, 105 X8_lastOf, 106 X8_tells, 107 X8_bars, 108 X8_hallOf, 109 X8_isFarFrom, 110 X8_why, 111 X8_many, 112 X8_book, 113 X8_isBooked, 114 X8_cancel, 115 X8_where, 116 X8_bill, 117 X8_mayLie, 118 X8_wait, 119 X8_lays, 120 X8_many_, 121 X8_order, 122 X8_waits, 123 X8_bestFor, 124 X8_fail, 125 X8_fill, 126 X8_pay, 127 X8_turnOf, 128 X8_count, 129 J6_bitCount_0f7a4, 130 J0_length_8abf5, 131 J0_charAt_5068e, 132 J0_coder_7d493, 133 J0_isLatin1_aae02, 134 J0_checkIndex_df160, 135 J1_charAt_3b067, 136 J3_checkIndex_8e157, 137 L_law
/-- a class file, a place in its pool: the class and the field that it names; the word's place -/
def frL : List (Nat × Nat × Nat × Nat × Nat) := [(1, 11, 1, 0, 86), (1, 17, 1, 1, 87), (0, 39, 1, 1, 88), (7, 130, 1, 1, 89), (0, 9, 0, 0, 102), (0, 15, 0, 1, 103), (0, 18, 0, 2, 104), (0, 22, 0, 3, 105), (0, 25, 0, 4, 106), (0, 32, 0, 5, 107), (0, 28, 0, 6, 108), (7, 175, 0, 6, 109), (7, 11, 7, 0, 127), (7, 17, 7, 1, 128), (7, 21, 7, 2, 129), (7, 28, 7, 3, 130), (7, 35, 7, 4, 131), (7, 50, 7, 5, 132), (7, 56, 7, 6, 133), (7, 77, 7, 7, 134), (7, 119, 7, 8, 135), (7, 62, 7, 9, 136), (7, 43, 7, 10, 137), (7, 39, 7, 11, 138), (6, 9, 6, 0, 181), (2, 47, 6, 0, 182), (1, 29, 6, 0, 183), (7, 185, 6, 0, 184), (6, 15, 6, 1, 185), (1, 32, 6, 1, 186), (7, 191, 6, 1, 187), (6, 18, 6, 2, 188), (0, 63, 6, 2, 189), (1, 47, 6, 2, 190), (7, 194, 6, 2, 191), (6, 21, 6, 3, 192), (0, 68, 6, 3, 193), (7, 197, 6, 3, 194), (6, 25, 6, 4, 195), (2, 42, 6, 4, 196), (1, 53, 6, 4, 197), (7, 201, 6, 4, 198), (6, 28, 6, 5, 199), (1, 50, 6, 5, 200), (7, 204, 6, 5, 201), (6, 33, 6, 6, 202), (6, 45, 6, 7, 203), (7, 98, 6, 7, 204), (7, 207, 6, 8, 205), (7, 178, 6, 9, 206), (4, 7, 4, 0, 237), (2, 35, 4, 0, 238), (7, 143, 4, 0, 239), (4, 13, 4, 1, 240), (4, 16, 4, 2, 241), (7, 148, 4, 2, 242), (4, 19, 4, 3, 243), (7, 257, 4, 3, 244), (3, 9, 3, 0, 282), (3, 21, 3, 1, 283), (3, 82, 3, 2, 284), (3, 28, 3, 3, 285), (7, 89, 3, 3, 286), (3, 52, 3, 4, 287), (7, 94, 3, 4, 288), (5, 7, 5, 0, 409), (2, 27, 5, 0, 410), (5, 13, 5, 1, 411), (2, 32, 5, 1, 412), (5, 16, 5, 2, 413), (2, 48, 5, 2, 414), (5, 19, 5, 3, 415), (2, 33, 5, 3, 416), (2, 7, 2, 0, 432), (7, 108, 2, 0, 433), (2, 13, 2, 1, 434), (6, 54, 2, 1, 435), (2, 16, 2, 2, 436), (6, 49, 2, 2, 437), (2, 23, 2, 3, 438), (6, 57, 2, 3, 439), (2, 19, 2, 4, 440), (8, 95, 8, 0, 704), (8, 85, 8, 1, 705), (8, 92, 8, 2, 706), (8, 157, 8, 3, 707), (8, 197, 8, 4, 708), (8, 7, 8, 5, 709), (8, 13, 8, 6, 710), (8, 16, 8, 7, 711), (8, 19, 8, 8, 712), (8, 22, 8, 9, 713), (8, 25, 8, 10, 714), (8, 29, 8, 11, 715), (8, 32, 8, 12, 716), (8, 35, 8, 13, 717), (8, 38, 8, 14, 718), (8, 41, 8, 15, 719), (8, 45, 8, 16, 720), (8, 98, 8, 17, 721), (8, 108, 8, 18, 722), (8, 105, 8, 19, 723), (8, 48, 8, 20, 724), (8, 52, 8, 21, 725), (8, 55, 8, 22, 726), (8, 58, 8, 23, 727), (8, 61, 8, 24, 728), (8, 64, 8, 25, 729), (8, 67, 8, 26, 730), (8, 70, 8, 27, 731), (8, 114, 8, 28, 732), (8, 121, 8, 29, 733), (8, 73, 8, 30, 734), (8, 76, 8, 31, 735), (8, 79, 8, 32, 736), (8, 82, 8, 33, 737), (8, 213, 8, 34, 738), (8, 225, 8, 35, 739), (10, 9, 30, 0, 994), (10, 15, 30, 1, 995), (10, 38, 32, 0, 346), (10, 1053, 32, 1, 362)]
def fr (o i : Nat) : Option (Nat × Nat) := (frL.find? (fun e => e.1 == o && e.2.1 == i)).map (fun e => (e.2.2.1, e.2.2.2.1))
/-- a class file, a place in its pool: how the method is called (0 by the object, 1 static, 2 a constructor, 3 static of a nest mate, 4 Object's constructor), which; the words' places -/
def mrL : List (Nat × Nat × Nat × Nat × Nat × Nat × Nat × Nat) := [(9, 9, 2, 48, 69, 70, 52, 0),
  (7, 1, 4, 0, 72, 0, 0, 0),
  (7, 27, 2, 12, 81, 82, 53, 0),
  (1, 3, 4, 0, 84, 0, 0, 0),
  (7, 34, 2, 0, 98, 99, 54, 0),
  (0, 3, 4, 0, 101, 0, 0, 0),
  (9, 13, 0, 49, 164, 165, 52, 166),
  (9, 18, 0, 50, 168, 169, 52, 170),
  (7, 46, 1, 68, 172, 173, 52, 0),
  (7, 53, 2, 43, 176, 177, 56, 0),
  (6, 3, 4, 0, 179, 0, 0, 0),
  (9, 23, 0, 51, 228, 229, 52, 230),
  (7, 59, 2, 40, 233, 234, 57, 0),
  (4, 1, 4, 0, 236, 0, 0, 0),
  (9, 28, 0, 52, 254, 255, 52, 256),
  (7, 65, 0, 73, 258, 260, 52, 0),
  (9, 33, 0, 53, 262, 263, 52, 264),
  (7, 69, 0, 71, 266, 268, 52, 1),
  (7, 73, 1, 69, 270, 271, 52, 0),
  (7, 82, 2, 28, 275, 276, 58, 0),
  (3, 3, 4, 0, 278, 0, 0, 0),
  (3, 15, 5, 0, 279, 0, 0, 0),
  (7, 85, 0, 29, 300, 301, 58, 302),
  (3, 25, 0, 34, 304, 306, 58, 2),
  (3, 89, 0, 37, 308, 310, 58, 3),
  (3, 85, 0, 36, 312, 314, 58, 4),
  (3, 92, 0, 38, 316, 318, 58, 5),
  (3, 103, 3, 68, 320, 173, 52, 0),
  (3, 78, 0, 39, 321, 323, 58, 6),
  (3, 31, 0, 30, 325, 327, 58, 7),
  (3, 35, 0, 31, 329, 331, 58, 8),
  (3, 61, 0, 35, 334, 336, 58, 9),
  (3, 95, 0, 130, 338, 339, 60, 340),
  (10, 335, 0, 132, 342, 343, 60, 344),
  (3, 99, 0, 131, 348, 349, 60, 350),
  (10, 492, 0, 133, 352, 353, 60, 354),
  (10, 495, 1, 135, 356, 357, 61, 0),
  (11, 9, 1, 134, 359, 360, 60, 0),
  (10, 1059, 1, 136, 364, 365, 62, 0),
  (12, 414, 1, 134, 376, 360, 60, 0),
  (3, 44, 0, 32, 390, 392, 58, 10),
  (3, 39, 0, 33, 397, 399, 58, 11),
  (3, 56, 2, 42, 405, 406, 64, 0),
  (5, 1, 4, 0, 408, 0, 0, 0),
  (7, 101, 2, 22, 428, 429, 65, 0),
  (2, 1, 4, 0, 431, 0, 0, 0),
  (9, 37, 0, 54, 452, 453, 52, 454),
  (9, 42, 0, 55, 456, 457, 52, 458),
  (7, 104, 1, 74, 460, 461, 52, 0),
  (7, 210, 0, 47, 463, 464, 56, 465),
  (9, 46, 0, 56, 467, 468, 52, 469),
  (7, 111, 0, 72, 471, 473, 52, 12),
  (7, 115, 0, 80, 475, 477, 52, 13),
  (7, 133, 0, 70, 479, 481, 52, 14),
  (7, 136, 0, 44, 483, 484, 56, 485),
  (6, 37, 3, 69, 487, 271, 52, 0),
  (7, 226, 1, 82, 488, 489, 52, 0),
  (7, 258, 0, 41, 491, 492, 57, 493),
  (4, 22, 6, 0, 495, 0, 0, 0),
  (7, 230, 0, 24, 498, 499, 65, 500),
  (2, 38, 0, 27, 502, 504, 65, 15),
  (7, 234, 1, 83, 506, 507, 52, 0),
  (7, 262, 6, 0, 509, 0, 0, 0),
  (7, 265, 0, 26, 510, 511, 65, 512),
  (7, 238, 0, 84, 514, 516, 52, 16),
  (7, 242, 0, 81, 518, 520, 52, 17),
  (7, 126, 0, 75, 522, 524, 52, 18),
  (7, 214, 0, 13, 526, 527, 53, 528),
  (7, 246, 0, 20, 530, 531, 53, 532),
  (1, 25, 0, 14, 534, 535, 53, 536),
  (1, 21, 3, 68, 538, 173, 52, 0),
  (7, 249, 0, 21, 539, 540, 53, 541),
  (1, 35, 0, 47, 543, 464, 56, 465),
  (1, 56, 0, 25, 544, 545, 65, 546),
  (7, 253, 0, 46, 548, 549, 56, 550),
  (6, 41, 0, 44, 552, 484, 56, 485),
  (7, 144, 0, 16, 553, 554, 53, 555),
  (9, 50, 0, 57, 557, 558, 52, 559),
  (7, 122, 0, 77, 561, 563, 52, 19),
  (7, 222, 0, 45, 565, 566, 56, 567),
  (9, 54, 0, 58, 569, 570, 52, 571),
  (7, 139, 0, 78, 573, 575, 52, 20),
  (9, 59, 0, 59, 577, 578, 52, 579),
  (9, 64, 0, 60, 581, 582, 52, 583),
  (7, 151, 0, 19, 585, 586, 53, 587),
  (7, 154, 5, 0, 589, 0, 0, 0),
  (7, 160, 0, 17, 590, 591, 53, 592),
  (1, 41, 0, 23, 594, 595, 65, 596),
  (7, 163, 0, 18, 598, 599, 53, 600),
  (7, 166, 0, 15, 602, 603, 53, 604),
  (9, 68, 0, 61, 606, 607, 52, 608),
  (7, 170, 0, 76, 610, 612, 52, 21),
  (7, 218, 0, 2, 614, 615, 54, 616),
  (0, 42, 5, 0, 618, 0, 0, 0),
  (0, 48, 0, 3, 619, 621, 54, 22),
  (0, 59, 0, 14, 623, 535, 53, 536),
  (0, 72, 0, 47, 624, 464, 56, 465),
  (0, 78, 0, 23, 625, 595, 65, 596),
  (0, 35, 3, 68, 626, 173, 52, 0),
  (0, 52, 0, 4, 627, 629, 54, 23),
  (0, 84, 1, 129, 631, 632, 66, 0),
  (0, 89, 1, 11, 637, 638, 54, 0),
  (0, 93, 0, 5, 640, 642, 54, 24),
  (0, 97, 0, 6, 644, 646, 54, 25),
  (0, 100, 0, 7, 648, 650, 54, 26),
  (0, 55, 0, 8, 652, 654, 54, 27),
  (0, 103, 0, 9, 656, 658, 54, 28),
  (0, 107, 0, 15, 660, 603, 53, 604),
  (0, 110, 0, 10, 661, 663, 54, 29),
  (7, 174, 0, 1, 665, 666, 54, 667),
  (9, 72, 0, 62, 669, 670, 52, 671),
  (9, 76, 0, 63, 673, 674, 52, 675),
  (7, 181, 0, 79, 677, 679, 52, 30),
  (9, 80, 0, 64, 681, 682, 52, 683),
  (9, 84, 0, 65, 685, 686, 52, 687),
  (7, 188, 0, 23, 689, 595, 65, 596),
  (9, 88, 0, 66, 690, 691, 52, 692),
  (9, 92, 0, 67, 694, 695, 52, 696),
  (9, 12, 2, 85, 700, 701, 55, 0),
  (8, 1, 4, 0, 703, 0, 0, 0),
  (9, 17, 0, 91, 813, 814, 55, 815),
  (8, 88, 1, 86, 817, 818, 55, 0),
  (9, 22, 0, 92, 820, 821, 55, 822),
  (9, 27, 0, 93, 824, 825, 55, 826),
  (9, 32, 0, 94, 828, 829, 55, 830),
  (8, 101, 0, 95, 832, 834, 55, 31),
  (9, 36, 0, 101, 836, 837, 55, 838),
  (8, 150, 0, 87, 840, 842, 55, 32),
  (8, 154, 1, 89, 844, 845, 55, 0),
  (8, 111, 0, 96, 847, 849, 55, 33),
  (8, 160, 0, 100, 851, 853, 55, 34),
  (8, 126, 0, 98, 856, 858, 55, 35),
  (8, 117, 0, 97, 860, 862, 55, 36),
  (8, 130, 0, 99, 864, 866, 55, 37),
  (9, 41, 0, 102, 876, 877, 55, 878),
  (9, 45, 0, 104, 880, 881, 55, 882),
  (8, 163, 0, 103, 884, 886, 55, 38),
  (9, 49, 0, 110, 888, 889, 55, 890),
  (8, 177, 0, 88, 892, 894, 55, 39),
  (8, 173, 0, 108, 896, 898, 55, 40),
  (8, 180, 0, 109, 900, 902, 55, 41),
  (8, 167, 6, 0, 904, 0, 0, 0),
  (8, 183, 0, 106, 905, 907, 55, 42),
  (8, 186, 0, 107, 909, 911, 55, 43),
  (9, 53, 0, 112, 913, 914, 55, 915),
  (8, 194, 0, 110, 917, 889, 55, 890),
  (8, 200, 0, 111, 918, 920, 55, 44),
  (8, 190, 1, 90, 922, 923, 55, 0),
  (9, 58, 0, 114, 925, 926, 55, 927),
  (8, 203, 0, 113, 929, 931, 55, 45),
  (9, 63, 0, 115, 933, 934, 55, 935),
  (9, 67, 0, 116, 937, 938, 55, 939),
  (8, 207, 0, 105, 941, 943, 55, 46),
  (8, 210, 5, 0, 945, 0, 0, 0),
  (9, 71, 0, 121, 946, 947, 55, 948),
  (8, 228, 0, 119, 950, 952, 55, 47),
  (8, 217, 1, 120, 955, 956, 55, 0),
  (8, 219, 0, 117, 958, 960, 55, 48),
  (8, 222, 0, 118, 962, 964, 55, 49),
  (9, 75, 0, 122, 966, 967, 55, 968),
  (9, 79, 0, 124, 970, 971, 55, 972),
  (8, 231, 0, 123, 974, 976, 55, 50),
  (9, 83, 0, 125, 978, 979, 55, 980),
  (9, 87, 0, 126, 982, 983, 55, 984),
  (9, 91, 0, 127, 986, 987, 55, 988),
  (9, 95, 0, 128, 990, 991, 55, 992)]
def mr (o i : Nat) : Option (Nat × Nat) := (mrL.find? (fun e => e.1 == o && e.2.1 == i)).map (fun e => (e.2.2.1, e.2.2.2.1))
def crL : List (Nat × Nat × Nat × Nat) := [(9, 7, 7, 67), (7, 9, 6, 75), (7, 15, 4, 77), (7, 25, 1, 79), (1, 9, 6, 85), (7, 32, 0, 96), (6, 31, 4, 180), (7, 80, 3, 273), (3, 50, 5, 403), (7, 92, 2, 426), (9, 10, 8, 698)]
def cr (o i : Nat) : Option Nat := (crL.find? (fun e => e.1 == o && e.2.1 == i)).map (fun e => e.2.2.1)
def kIL : List (Nat × Nat × Int32 × Nat) := [(14, 265, 1431655765, 634), (14, 266, 858993459, 635), (14, 267, 252645135, 636), (8, 216, 100000, 954)]
def kI (o i : Nat) : Option Int32 := (kIL.find? (fun e => e.1 == o && e.2.1 == i)).map (fun e => e.2.2.1)
def kLL : List (Nat × Nat × Int64 × Nat) := [(8, 124, 6447474, 855), (8, 134, 512802253683, 868), (8, 136, 418497262196, 869), (8, 138, 1818848101, 870), (8, 140, 1953854062, 871), (8, 142, 474148660594, 872), (8, 144, 1751215212, 873), (8, 146, 7364985, 874), (8, 148, 482854658917, 875)]
def kL (o i : Nat) : Option Int64 := (kLL.find? (fun e => e.1 == o && e.2.1 == i)).map (fun e => e.2.2.1)
def kSL : List (Nat × Nat × Nat × Nat) := [(3, 59, 0, 333), (3, 64, 1, 386), (3, 66, 2, 387), (3, 68, 3, 388), (3, 70, 4, 389), (3, 72, 5, 394), (3, 74, 6, 395), (3, 76, 7, 396), (3, 42, 8, 401), (3, 48, 9, 402)]
def kS (o i : Nat) : Option Nat := (kSL.find? (fun e => e.1 == o && e.2.1 == i)).map (fun e => e.2.2.1)
def sTx : List String := ["bar", "pay", "place", "never", "hall", "apart", "like", "turn", "weeks", ";"]
def sBy : List (List Int32) := [[98, 97, 114], [112, 97, 121], [112, 108, 97, 99, 101], [110, 101, 118, 101, 114], [104, 97, 108, 108], [97, 112, 97, 114, 116], [108, 105, 107, 101], [116, 117, 114, 110], [119, 101, 101, 107, 115], [59]]
def sIx : List Nat := [59, 64, 66, 68, 70, 72, 74, 76, 42, 48]
def tyC : Nat → Nat → FieldType := fun ci => match ci with
  | 0 => tyX0
  | 1 => tyX1
  | 2 => tyX2
  | 3 => tyX3
  | 4 => tyX4
  | 5 => tyX5
  | 6 => tyX6
  | 7 => tyX7
  | _ => tyX8
def nF : Nat → Nat := fun ci => match ci with
  | 0 => 7
  | 1 => 2
  | 2 => 5
  | 3 => 5
  | 4 => 4
  | 5 => 4
  | 6 => 10
  | 7 => 12
  | 8 => 36
  | _ => 0
def isR (ci k : Nat) : Bool := match tyC ci k with | .object _ => true | .array _ => true | _ => false
def cT : Nat → u_T := fun ci => match ci with
  | 0 => TX0
  | 1 => TX1
  | 2 => TX2
  | 3 => TX3
  | 4 => TX4
  | 5 => TX5
  | 6 => TX6
  | 7 => TX7
  | _ => TX8
def iniL : List Nat := [0, 12, 22, 28, 40, 42, 43, 48, 85]
def isIni (j : Nat) : Bool := iniL.contains j
/-- a final field is put by a constructor of its own class alone -/
def fnl (j ci k : Nat) : Bool := !(cT ci k).2.2.2 || (isIni j && ow j == ci)
def insP : List (Nat × Nat) := [(97, 54), (80, 53), (427, 65), (274, 58), (232, 57), (404, 64), (175, 56), (68, 52), (699, 55)]
def codeP : List Nat := [100, 668, 617, 622, 630, 643, 647, 651, 655, 659, 664, 639, 83, 529, 537, 605, 556, 593, 601, 588, 533, 542, 430, 597, 501, 547, 513, 505, 277, 303, 328, 332, 393, 400, 307, 337, 315, 311, 319, 324, 235, 494, 407, 178, 486, 568, 551, 466, 71, 167, 171, 231, 257, 265, 455, 459, 470, 560, 572, 580, 584, 609, 672, 676, 684, 688, 693, 697, 174, 272, 482, 269, 474, 261, 462, 525, 613, 564, 576, 680, 478, 521, 490, 508, 517, 702, 819, 843, 895, 846, 924, 816, 823, 827, 831, 835, 850, 863, 859, 867, 854, 839, 879, 887, 883, 944, 908, 912, 899, 903, 891, 921, 916, 932, 928, 936, 940, 961, 965, 953, 957, 949, 969, 977, 973, 981, 985, 989, 993, 633, 341, 351, 345, 355, 361, 358, 366]
end
section
/-! THE ABSTRACT MACHINE: a typed memory, one step of an instruction over it, and WP: the least predicate that is closed under the steps -/
abbrev Mem : Type := (Nat → Nat) × (Nat → Nat → Nat → Int32) × (Nat → Nat → Nat → Option Nat) × (Nat → Nat) × (Nat → Nat → Int32) × (Nat → Nat → Option Nat)
/-- kind of the cell at an address: a class's number; 20 int[], 21 byte[], 22 boolean[], 23 Hall[], 24 Turn[]; 25 the script, 26 a text's bytes; others: not known. Field 33 0 is 1 at a text -/
def mK (G : Mem) (a : Nat) : Nat := G.1 a
def mI (G : Mem) (ci k a : Nat) : Int32 := G.2.1 ci k a
def mR (G : Mem) (ci k a : Nat) : Option Nat := G.2.2.1 ci k a
def mN (G : Mem) (a : Nat) : Nat := G.2.2.2.1 a
def mE (G : Mem) (a i : Nat) : Int32 := G.2.2.2.2.1 a i
def mQ (G : Mem) (a i : Nat) : Option Nat := G.2.2.2.2.2 a i
def pI (G : Mem) (ci k a : Nat) (v : Int32) : Mem := (G.1, (fun c' k' a' => if c' = ci ∧ k' = k ∧ a' = a then v else G.2.1 c' k' a'), G.2.2)
def pR (G : Mem) (ci k a : Nat) (v : Option Nat) : Mem := (G.1, G.2.1, (fun c' k' a' => if c' = ci ∧ k' = k ∧ a' = a then v else G.2.2.1 c' k' a'), G.2.2.2)
def pE (G : Mem) (a i : Nat) (v : Int32) : Mem := (G.1, G.2.1, G.2.2.1, G.2.2.2.1, (fun a' i' => if a' = a ∧ i' = i then v else G.2.2.2.2.1 a' i'), G.2.2.2.2.2)
def pQ (G : Mem) (a i : Nat) (v : Option Nat) : Mem := (G.1, G.2.1, G.2.2.1, G.2.2.2.1, G.2.2.2.2.1, (fun a' i' => if a' = a ∧ i' = i then v else G.2.2.2.2.2 a' i'))
/-- a new object: its fields are 0 and null -/
def nO (G : Mem) (a ci : Nat) : Mem := ((fun a' => if a' = a then ci else G.1 a'), (fun c' k' a' => if a' = a then 0 else G.2.1 c' k' a'), (fun c' k' a' => if a' = a then none else G.2.2.1 c' k' a'), G.2.2.2)
/-- a new array -/
def nA (G : Mem) (a kd n : Nat) : Mem := ((fun a' => if a' = a then kd else G.1 a'), G.2.1, G.2.2.1, (fun a' => if a' = a then n else G.2.2.2.1 a'), (fun a' i' => if a' = a then 0 else G.2.2.2.2.1 a' i'), (fun a' i' => if a' = a then none else G.2.2.2.2.2 a' i'))
/-- what is read behind what was written -/
theorem memS : (∀ G ci k a v b, mK (pI G ci k a v) b = mK G b) ∧ (∀ G ci k a v b, mK (pR G ci k a v) b = mK G b) ∧ (∀ G a i v b, mK (pE G a i v) b = mK G b) ∧ (∀ G a i v b, mK (pQ G a i v) b = mK G b)
    ∧ (∀ G a ci b, mK (nO G a ci) b = if b = a then ci else mK G b) ∧ (∀ G a kd n b, mK (nA G a kd n) b = if b = a then kd else mK G b)
    ∧ (∀ G ci k a v b, mN (pI G ci k a v) b = mN G b) ∧ (∀ G ci k a v b, mN (pR G ci k a v) b = mN G b) ∧ (∀ G a i v b, mN (pE G a i v) b = mN G b) ∧ (∀ G a i v b, mN (pQ G a i v) b = mN G b)
    ∧ (∀ G a ci b, mN (nO G a ci) b = mN G b) ∧ (∀ G a kd n b, mN (nA G a kd n) b = if b = a then n else mN G b)
    ∧ (∀ G ci k a v c' k' b, mI (pI G ci k a v) c' k' b = if c' = ci ∧ k' = k ∧ b = a then v else mI G c' k' b) ∧ (∀ G ci k a v c' k' b, mI (pR G ci k a v) c' k' b = mI G c' k' b) ∧ (∀ G a i v c' k' b, mI (pE G a i v) c' k' b = mI G c' k' b) ∧ (∀ G a i v c' k' b, mI (pQ G a i v) c' k' b = mI G c' k' b)
    ∧ (∀ G a ci c' k' b, mI (nO G a ci) c' k' b = if b = a then 0 else mI G c' k' b) ∧ (∀ G a kd n c' k' b, mI (nA G a kd n) c' k' b = mI G c' k' b)
    ∧ (∀ G ci k a v c' k' b, mR (pI G ci k a v) c' k' b = mR G c' k' b) ∧ (∀ G ci k a v c' k' b, mR (pR G ci k a v) c' k' b = if c' = ci ∧ k' = k ∧ b = a then v else mR G c' k' b) ∧ (∀ G a i v c' k' b, mR (pE G a i v) c' k' b = mR G c' k' b) ∧ (∀ G a i v c' k' b, mR (pQ G a i v) c' k' b = mR G c' k' b)
    ∧ (∀ G a ci c' k' b, mR (nO G a ci) c' k' b = if b = a then none else mR G c' k' b) ∧ (∀ G a kd n c' k' b, mR (nA G a kd n) c' k' b = mR G c' k' b)
    ∧ (∀ G ci k a v b i', mE (pI G ci k a v) b i' = mE G b i') ∧ (∀ G ci k a v b i', mE (pR G ci k a v) b i' = mE G b i') ∧ (∀ G a i v b i', mE (pE G a i v) b i' = if b = a ∧ i' = i then v else mE G b i') ∧ (∀ G a i v b i', mE (pQ G a i v) b i' = mE G b i')
    ∧ (∀ G a ci b i', mE (nO G a ci) b i' = mE G b i') ∧ (∀ G a kd n b i', mE (nA G a kd n) b i' = if b = a then 0 else mE G b i')
    ∧ (∀ G ci k a v b i', mQ (pI G ci k a v) b i' = mQ G b i') ∧ (∀ G ci k a v b i', mQ (pR G ci k a v) b i' = mQ G b i') ∧ (∀ G a i v b i', mQ (pE G a i v) b i' = mQ G b i') ∧ (∀ G a i v b i', mQ (pQ G a i v) b i' = if b = a ∧ i' = i then v else mQ G b i')
    ∧ (∀ G a ci b i', mQ (nO G a ci) b i' = mQ G b i') ∧ (∀ G a kd n b i', mQ (nA G a kd n) b i' = if b = a then none else mQ G b i') := by
  refine ⟨?_, ?_, ?_, ?_, ?_, ?_, ?_, ?_, ?_, ?_, ?_, ?_, ?_, ?_, ?_, ?_, ?_, ?_, ?_, ?_, ?_, ?_, ?_, ?_, ?_, ?_, ?_, ?_, ?_, ?_, ?_, ?_, ?_, ?_, ?_, ?_⟩ <;> intros <;> rfl
abbrev Lo : Type := List (Option Value)
def lgo : Lo → Nat → Option Value
  | [], _ => none
  | o :: _, 0 => o
  | _ :: L, n + 1 => lgo L n
def lset : Lo → Nat → Option Value → Lo
  | [], _, _ => []
  | _ :: L, 0, v => v :: L
  | o :: L, n + 1, v => o :: lset L n v
/-- a value of two slots -/
def isL : Value → Bool
  | .long _ => true
  | .double _ => true
  | _ => false
/-- no value of two slots ahead of place i -/
def noL (L : Lo) : Nat → Prop
  | 0 => True
  | i + 1 => match lgo L i with
    | some v => isL v = false
    | none => True
def rOf : Value → Option (Option Nat)
  | .null => some none
  | .ref a => some (some a)
  | _ => none
/-- the locals with which a method begins -/
def entL : List Value → Lo
  | [] => []
  | v :: vs => some v :: (if isL v = true then none :: entL vs else entL vs)
def ent (vs : List Value) (n : Nat) : Lo := entL vs ++ List.replicate (n - (entL vs).length) none
abbrev Kt : Type := Nat → Lo → List Value → Mem → Nat → Nat → Nat → Prop
abbrev Rt : Type := Option Value → Mem → Nat → Prop
abbrev Ct : Type := Nat → List Value → Mem → Nat → Rt → Prop
abbrev Res : Type := Option (List Prop × Nat × Lo × List Value × Mem × Nat × Nat × Nat)
def cnd : List Prop → Prop → Prop
  | [], q => q
  | p :: ps, q => p ∧ cnd ps q
/-- where a jump goes -/
def jto (pc : Nat) (off : Int) : Nat := ((pc : Int) + off).toNat
def jok (pc : Nat) (off : Int) : Prop := 0 ≤ (pc : Int) + off
def tsw (pc : Nat) (dflt lo hi : Int) (offs : Array Int) (x : Int32) : Int :=
  if x.toInt < lo ∨ hi < x.toInt then dflt else (offs[(x.toInt - lo).toNat]?).getD 0
def tswok (lo hi : Int) (offs : Array Int) (x : Int32) : Prop := x.toInt < lo ∨ hi < x.toInt ∨ (offs[(x.toInt - lo).toNat]?).isSome = true
def cIf (cc : Jvm.ClassFile.Cond) (x y : Int32) : Bool := match cc with
  | .eq => decide (x = y)
  | .ne => decide (¬ x = y)
  | .lt => decide (x < y)
  | .ge => decide (y ≤ x)
  | .gt => decide (y < x)
  | .le => decide (x ≤ y)
def popI (S : List Value) (k : Int32 → List Value → Res) : Res := match S with
  | .int x :: T => k x T
  | _ => none
def popJ (S : List Value) (k : Int64 → List Value → Res) : Res := match S with
  | .long x :: T => k x T
  | _ => none
def popA (S : List Value) (k : Nat → List Value → Res) : Res := match S with
  | .ref a :: T => k a T
  | _ => none
def popR (S : List Value) (k : Option Nat → List Value → Res) : Res := match S with
  | v :: T => match rOf v with
    | some r => k r T
    | none => none
  | _ => none
def ldI (o : Option Value) (k : Int32 → Res) : Res := match o with
  | some (.int x) => k x
  | _ => none
def ldJ (o : Option Value) (k : Int64 → Res) : Res := match o with
  | some (.long x) => k x
  | _ => none
def ldR (o : Option Value) (k : Option Nat → Res) : Res := match o with
  | some v => match rOf v with
    | some r => k r
    | none => none
  | none => none
def fOk (ci k : Nat) (v : Int32) : Prop := narrow (tyC ci k) (.int v) = .int v ∧ fits (tyC ci k) (.int v) = true
/-- the array kind of a class's array, and of a primitive type's -/
def akO (ci : Nat) : Option Nat := match ci with
  | 4 => some 23
  | 6 => some 24
  | _ => none
def akP : ArrayType → Option Nat
  | .int => some 20
  | .byte => some 21
  | .boolean => some 22
  | _ => none
/-- the next state of an instruction that neither calls nor returns, and what must hold for it -/
def inext (j : Nat) (il : Instr × Nat) (pc : Nat) (L : Lo) (S : List Value) (G : Mem) (z c s : Nat) : Res :=
  match il with
  | (.iconst n, 1) => some ([], pc + 1, L, .int (Int32.ofInt n) :: S, G, z, c, s)
  | (.bipush n, 2) => some ([], pc + 2, L, .int (Int8.ofInt n).toInt32 :: S, G, z, c, s)
  | (.sipush n, 3) => some ([], pc + 3, L, .int (Int16.ofInt n).toInt32 :: S, G, z, c, s)
  | (.lconst n, 1) => some ([], pc + 1, L, .long (Int64.ofNat (n : Nat)) :: S, G, z, c, s)
  | (.aconst_null, 1) => some ([], pc + 1, L, .null :: S, G, z, c, s)
  | (.ldc i, 2) => match kI (ow j) i with
    | some v => some ([], pc + 2, L, .int v :: S, G, z, c, s)
    | none => match kS (ow j) i with
      | some q => some ([], pc + 2, L, va_rf (mR G 31 q 0) :: S, G, z, c, s)
      | none => none
  | (.ldc_w i, 3) => match kI (ow j) i with
    | some v => some ([], pc + 3, L, .int v :: S, G, z, c, s)
    | none => none
  | (.ldc2_w i, 3) => match kL (ow j) i with
    | some v => some ([], pc + 3, L, .long v :: S, G, z, c, s)
    | none => none
  | (.iload_n k, 1) => ldI (lgo L k) fun x => some ([], pc + 1, L, .int x :: S, G, z, c, s)
  | (.iload k, 2) => ldI (lgo L k) fun x => some ([], pc + 2, L, .int x :: S, G, z, c, s)
  | (.lload_n k, 1) => ldJ (lgo L k) fun x => some ([], pc + 1, L, .long x :: S, G, z, c, s)
  | (.aload_n k, 1) => ldR (lgo L k) fun r => some ([], pc + 1, L, va_rf r :: S, G, z, c, s)
  | (.aload k, 2) => ldR (lgo L k) fun r => some ([], pc + 2, L, va_rf r :: S, G, z, c, s)
  | (.istore_n k, 1) => popI S fun x T => some ([(k : Nat) < mxL j, noL L k], pc + 1, lset L k (some (.int x)), T, G, z, c, s)
  | (.istore k, 2) => popI S fun x T => some ([k < mxL j, noL L k], pc + 2, lset L k (some (.int x)), T, G, z, c, s)
  | (.astore_n k, 1) => popR S fun r T => some ([(k : Nat) < mxL j, noL L k], pc + 1, lset L k (some (va_rf r)), T, G, z, c, s)
  | (.astore k, 2) => popR S fun r T => some ([k < mxL j, noL L k], pc + 2, lset L k (some (va_rf r)), T, G, z, c, s)
  | (.lstore_n k, 1) => popJ S fun x T => some ([(k : Nat) + 1 < mxL j, noL L k], pc + 1, lset (lset L k (some (.long x))) (k + 1) none, T, G, z, c, s)
  | (.iinc k n, 3) => ldI (lgo L k) fun x => some ([k < mxL j, noL L k], pc + 3, lset L k (some (.int (x + Int32.ofInt n))), S, G, z, c, s)
  | (.iadd, 1) => popI S fun y T => popI T fun x T => some ([], pc + 1, L, .int (x + y) :: T, G, z, c, s)
  | (.isub, 1) => popI S fun y T => popI T fun x T => some ([], pc + 1, L, .int (x - y) :: T, G, z, c, s)
  | (.imul, 1) => popI S fun y T => popI T fun x T => some ([], pc + 1, L, .int (x * y) :: T, G, z, c, s)
  | (.idiv, 1) => popI S fun y T => popI T fun x T => some ([¬ y = 0], pc + 1, L, .int (x / y) :: T, G, z, c, s)
  | (.iand, 1) => popI S fun y T => popI T fun x T => some ([], pc + 1, L, .int (x &&& y) :: T, G, z, c, s)
  | (.ior, 1) => popI S fun y T => popI T fun x T => some ([], pc + 1, L, .int (x ||| y) :: T, G, z, c, s)
  | (.ixor, 1) => popI S fun y T => popI T fun x T => some ([], pc + 1, L, .int (x ^^^ y) :: T, G, z, c, s)
  | (.ineg, 1) => popI S fun x T => some ([], pc + 1, L, .int (-x) :: T, G, z, c, s)
  | (.ishl, 1) => popI S fun y T => popI T fun x T => some ([], pc + 1, L, .int (x <<< (y &&& 31)) :: T, G, z, c, s)
  | (.ishr, 1) => popI S fun y T => popI T fun x T => some ([], pc + 1, L, .int (x >>> (y &&& 31)) :: T, G, z, c, s)
  | (.iushr, 1) => popI S fun y T => popI T fun x T => some ([], pc + 1, L, .int (x.toUInt32 >>> (y.toUInt32 &&& Int32.toUInt32 31)).toInt32 :: T, G, z, c, s)
  | (.i2b, 1) => popI S fun x T => some ([], pc + 1, L, .int x.toInt8.toInt32 :: T, G, z, c, s)
  | (.i2c, 1) => popI S fun x T => some ([], pc + 1, L, .int (x.toUInt32 % 65536).toInt32 :: T, G, z, c, s)
  | (.i2l, 1) => popI S fun x T => some ([], pc + 1, L, .long x.toInt64 :: T, G, z, c, s)
  | (.lor, 1) => popJ S fun y T => popJ T fun x T => some ([], pc + 1, L, .long (x ||| y) :: T, G, z, c, s)
  | (.lshl, 1) => popI S fun y T => popJ T fun x T => some ([], pc + 1, L, .long (x <<< (y.toInt64 &&& 63)) :: T, G, z, c, s)
  | (.lcmp, 1) => popJ S fun y T => popJ T fun x T => some ([], pc + 1, L, .int (lg_cmp x y) :: T, G, z, c, s)
  | (.dup, 1) => match S with
    | v :: T => some ([isL v = false], pc + 1, L, v :: v :: T, G, z, c, s)
    | _ => none
  | (.dup2, 1) => match S with
    | v :: w :: T => some ([isL v = false, isL w = false], pc + 1, L, v :: w :: v :: w :: T, G, z, c, s)
    | _ => none
  | (.pop, 1) => match S with
    | v :: T => some ([isL v = false], pc + 1, L, T, G, z, c, s)
    | _ => none
  | (.goto off, 3) => some ([jok pc off], jto pc off, L, S, G, z, c, s)
  | (.ifCond cc off, 3) => popI S fun x T => some ([jok pc off], (if cIf cc x 0 = true then jto pc off else pc + 3), L, T, G, z, c, s)
  | (.if_icmp cc off, 3) => popI S fun y T => popI T fun x T => some ([jok pc off], (if cIf cc x y = true then jto pc off else pc + 3), L, T, G, z, c, s)
  | (.ifnull off, 3) => popR S fun r T => some ([jok pc off], (if r = none then jto pc off else pc + 3), L, T, G, z, c, s)
  | (.ifnonnull off, 3) => popR S fun r T => some ([jok pc off], (if r = none then pc + 3 else jto pc off), L, T, G, z, c, s)
  | (.if_acmp .eq off, 3) => popR S fun y T => popR T fun x T => some ([jok pc off], (if x = y then jto pc off else pc + 3), L, T, G, z, c, s)
  | (.if_acmp .ne off, 3) => popR S fun y T => popR T fun x T => some ([jok pc off], (if x = y then pc + 3 else jto pc off), L, T, G, z, c, s)
  | (.tableswitch dflt lo hi offs, len) => popI S fun x T => some ([tswok lo hi offs x, jok pc (tsw pc dflt lo hi offs x)], jto pc (tsw pc dflt lo hi offs x), L, T, G, z, c, s)
  | (.getfield i, 3) => match fr (ow j) i with
    | some (ci, k) => popA S fun a T => if ci < 9 then (if k < nF ci then some ([mK G a = ci], pc + 3, L, (if isR ci k = true then va_rf (mR G ci k a) else .int (mI G ci k a)) :: T, G, z, c, s) else none)
        else if ci = 30 then (if k = 0 then some ([mI G 33 0 a = 1], pc + 3, L, va_rf (mR G 30 0 a) :: T, G, z, c, s) else if k = 1 then some ([mI G 33 0 a = 1], pc + 3, L, .int (mI G 30 1 a) :: T, G, z, c, s) else none) else none
    | none => none
  | (.getstatic i, 3) => match fr (ow j) i with
    | some (32, 0) => some ([], pc + 3, L, .int 1 :: S, G, z, c, s)
    | some (32, 1) => some ([], pc + 3, L, va_rf (mR G 32 1 0) :: S, G, z, c, s)
    | _ => none
  | (.putfield i, 3) => match fr (ow j) i with
    | some (ci, k) => if ci < 9 ∧ k < nF ci ∧ fnl j ci k = true then (if isR ci k = true then popR S fun r T => popA T fun a T => some ([mK G a = ci], pc + 3, L, T, pR G ci k a r, z, c, s)
        else popI S fun v T => popA T fun a T => some ([mK G a = ci, fOk ci k v], pc + 3, L, T, pI G ci k a v, z, c, s)) else none
    | none => none
  | (.iaload, 1) => popI S fun i T => popA T fun a T => some ([mK G a = 20 ∨ mK G a = 25, vp_in i (mN G a)], pc + 1, L, .int (mE G a i.toNatClampNeg) :: T, G, z, c, s)
  | (.baload, 1) => popI S fun i T => popA T fun a T => some ([mK G a = 21 ∨ mK G a = 22 ∨ mK G a = 26, vp_in i (mN G a)], pc + 1, L, .int (mE G a i.toNatClampNeg) :: T, G, z, c, s)
  | (.aaload, 1) => popI S fun i T => popA T fun a T => some ([mK G a = 23 ∨ mK G a = 24, vp_in i (mN G a)], pc + 1, L, va_rf (mQ G a i.toNatClampNeg) :: T, G, z, c, s)
  | (.iastore, 1) => popI S fun x T => popI T fun i T => popA T fun a T => some ([mK G a = 20, vp_in i (mN G a)], pc + 1, L, T, pE G a i.toNatClampNeg x, z, c, s)
  | (.bastore, 1) => popI S fun x T => popI T fun i T => popA T fun a T => some ([mK G a = 21 ∨ mK G a = 22, vp_in i (mN G a)], pc + 1, L, T, pE G a i.toNatClampNeg (if mK G a = 22 then x &&& 1 else x.toInt8.toInt32), z, c, s)
  | (.aastore, 1) => popR S fun r T => popI T fun i T => popA T fun a T => some ([(mK G a = 23 ∧ ∀ b, r = some b → mK G b = 4) ∨ (mK G a = 24 ∧ ∀ b, r = some b → mK G b = 6), vp_in i (mN G a)], pc + 1, L, T, pQ G a i.toNatClampNeg r, z, c, s)
  | (.arraylength, 1) => popA S fun a T => some ([(20 ≤ mK G a ∧ mK G a ≤ 26)], pc + 1, L, .int (Int32.ofNat (mN G a)) :: T, G, z, c, s)
  | (.newarray at_, 2) => match akP at_ with
    | some kd => popI S fun n T => some ([¬ n < 0, n.toNatClampNeg ≤ 100000, c + 1 ≤ mcq j, s + n.toNatClampNeg ≤ msq j], pc + 2, L, .ref z :: T, nA G z kd n.toNatClampNeg, z + 1, c + 1, s + n.toNatClampNeg)
    | none => none
  | (.anewarray i, 3) => match cr (ow j) i with
    | some ci => match akO ci with
      | some kd => popI S fun n T => some ([¬ n < 0, n.toNatClampNeg ≤ 100000, c + 1 ≤ mcq j, s + n.toNatClampNeg ≤ msq j], pc + 3, L, .ref z :: T, nA G z kd n.toNatClampNeg, z + 1, c + 1, s + n.toNatClampNeg)
      | none => none
    | none => none
  | (.new i, 3) => match cr (ow j) i with
    | some ci => if ci < 9 then some ([c + 1 ≤ mcq j, s + nF ci ≤ msq j], pc + 3, L, .ref z :: S, nO G z ci, z + 1, c + 1, s + nF ci) else none
    | none => none
  | _ => none
/-- the class of a receiver of a method: one of the system's, or a text -/
def rcv (G : Mem) (b j : Nat) : Prop := if ow j < 9 then mK G b = ow j else mI G 33 0 b = 1
/-- a call behind its own words: the callee's arguments, what is left of the stack -/
def icall (call : Ct) (j j2 pc : Nat) (L : Lo) (as rest : List Value) (G : Mem) (z c s : Nat) (K : Kt) : Prop :=
  (rest.length ≤ 4 ∧ (entL as).length ≤ mxL j2) ∧ c + mcq j2 ≤ mcq j ∧ s + msq j2 ≤ msq j ∧ call j2 as G z (fun r G' z' => K (pc + 3) L (r.toList ++ rest) G' z' (c + mcq j2) (s + msq j2))
def istep (call : Ct) (j : Nat) (il : Instr × Nat) (pc : Nat) (L : Lo) (S : List Value) (G : Mem) (z c s : Nat) (K : Kt) (R : Rt) : Prop :=
  match il with
  | (.invokevirtual i, 3) => match mr (ow j) i with
    | some (0, j2) => match S.drop (npq j2) with
      | .ref b :: T => rcv G b j2 ∧ icall call j j2 pc L (.ref b :: (S.take (npq j2)).reverse) T G z c s K
      | _ => False
    | _ => False
  | (.invokestatic i, 3) => match mr (ow j) i with
    | some (1, j2) => npq j2 ≤ S.length ∧ icall call j j2 pc L (S.take (npq j2)).reverse (S.drop (npq j2)) G z c s K
    | some (3, j2) => npq j2 ≤ S.length ∧ icall call j j2 pc L (S.take (npq j2)).reverse (S.drop (npq j2)) G z c s K
    | some (5, _) => match S with
      | .int y :: .int x :: T => T.length ≤ 4 ∧ c ≤ mcq j ∧ s ≤ msq j ∧ K (pc + 3) L (.int (if y < x then y else x) :: T) G z c s
      | _ => False
    | some (6, _) => match S with
      | .int x :: T => T.length ≤ 4 ∧ c ≤ mcq j ∧ s ≤ msq j ∧ K (pc + 3) L (.int (if 0 ≤ x then x else 0 - x) :: T) G z c s
      | _ => False
    | _ => False
  | (.invokespecial i, 3) => match mr (ow j) i with
    | some (2, j2) => match S.drop (npq j2) with
      | .ref b :: T => icall call j j2 pc L (.ref b :: (S.take (npq j2)).reverse) T G z c s K
      | _ => False
    | some (4, _) => match S with
      | .ref _ :: T => T.length ≤ 4 ∧ K (pc + 3) L T G z c s
      | _ => False
    | _ => False
  | (.ireturn, 1) => match mrt j, S with
    | some ty, [.int v] => narrow ty (.int v) = .int v ∧ c ≤ mcq j ∧ s ≤ msq j ∧ R (some (.int v)) G z
    | _, _ => False
  | (.lreturn, 1) => match mrt j, S with
    | some .long, [.long v] => c ≤ mcq j ∧ s ≤ msq j ∧ R (some (.long v)) G z
    | _, _ => False
  | (.areturn, 1) => match mrt j, S with
    | some (.object _), [v] => (rOf v).isSome = true ∧ c ≤ mcq j ∧ s ≤ msq j ∧ R (some v) G z
    | _, _ => False
  | (.return_, 1) => match mrt j, S with
    | none, [] => c ≤ mcq j ∧ s ≤ msq j ∧ R none G z
    | _, _ => False
  | il => match inext j il pc L S G z c s with
    | some (ps, pc', L', S', G', z', c', s') => cnd ps (K pc' L' S' G' z' c' s')
    | none => False
def isem (call : Ct) (j : Nat) (pc : Nat) (L : Lo) (S : List Value) (G : Mem) (z c s : Nat) (K : Kt) (R : Rt) : Prop :=
  match decode (cd j) pc with
  | .ok il => istep call j il pc L S G z c s K R
  | _ => False
def WPf (call : Ct) (j : Nat) (R : Rt) : Kt := fun pc L S G z c s =>
  ∀ P : Kt, (∀ pc L S G z c s, isem call j pc L S G z c s P R → P pc L S G z c s) → P pc L S G z c s
def CALL : Nat → Ct
  | 0 => fun _ _ _ _ _ => False
  | d + 1 => fun j as G z Q => WPf (CALL d) j Q 0 (ent as (mxL j)) [] G z 0 0
abbrev WP (d j : Nat) (R : Rt) : Kt := WPf (CALL d) j R
theorem cnd_mono {p q : Prop} (h : p → q) : ∀ ps, cnd ps p → cnd ps q
  | [], a => h a
  | _ :: ps, a => ⟨a.1, cnd_mono h ps a.2⟩
def Cmono (call : Ct) : Prop := ∀ j as G z (Q Q' : Rt), (∀ r G z, Q r G z → Q' r G z) → call j as G z Q → call j as G z Q'
theorem icall_mono {call : Ct} (hc : Cmono call) {j j2 pc : Nat} {L : Lo} {as rest : List Value} {G : Mem} {z c s : Nat} {K K' : Kt} (hK : ∀ pc L S G z c s, K pc L S G z c s → K' pc L S G z c s)
    (h : icall call j j2 pc L as rest G z c s K) : icall call j j2 pc L as rest G z c s K' :=
  ⟨h.1, h.2.1, h.2.2.1, hc _ _ _ _ _ _ (fun _ _ _ q => hK _ _ _ _ _ _ _ q) h.2.2.2⟩
theorem istep_mono {call : Ct} (hc : Cmono call) {j : Nat} {il : Instr × Nat} {pc : Nat} {L : Lo} {S : List Value} {G : Mem} {z c s : Nat} {K K' : Kt} {R R' : Rt} (hK : ∀ pc L S G z c s, K pc L S G z c s → K' pc L S G z c s) (hR : ∀ r G z, R r G z → R' r G z)
    (h : istep call j il pc L S G z c s K R) : istep call j il pc L S G z c s K' R' := by
  unfold istep at h ⊢
  split at h
  · split at h
    · split at h
      · exact ⟨h.1, icall_mono hc hK h.2⟩
      · exact h
    · exact h
  · split at h
    · exact ⟨h.1, icall_mono hc hK h.2⟩
    · exact ⟨h.1, icall_mono hc hK h.2⟩
    · split at h
      · exact ⟨h.1, h.2.1, h.2.2.1, hK _ _ _ _ _ _ _ h.2.2.2⟩
      · exact h
    · split at h
      · exact ⟨h.1, h.2.1, h.2.2.1, hK _ _ _ _ _ _ _ h.2.2.2⟩
      · exact h
    · exact h
  · split at h
    · split at h
      · exact icall_mono hc hK h
      · exact h
    · split at h
      · exact ⟨h.1, hK _ _ _ _ _ _ _ h.2⟩
      · exact h
    · exact h
  · split at h
    · exact ⟨h.1, h.2.1, h.2.2.1, hR _ _ _ h.2.2.2⟩
    · exact h
  · split at h
    · exact ⟨h.1, h.2.1, hR _ _ _ h.2.2⟩
    · exact h
  · split at h
    · exact ⟨h.1, h.2.1, h.2.2.1, hR _ _ _ h.2.2.2⟩
    · exact h
  · split at h
    · exact ⟨h.1, h.2.1, hR _ _ _ h.2.2⟩
    · exact h
  · split at h
    · exact cnd_mono (hK _ _ _ _ _ _ _) _ h
    · exact h
theorem isem_mono {call : Ct} (hc : Cmono call) {j pc : Nat} {L : Lo} {S : List Value} {G : Mem} {z c s : Nat} {K K' : Kt} {R R' : Rt} (hK : ∀ pc L S G z c s, K pc L S G z c s → K' pc L S G z c s) (hR : ∀ r G z, R r G z → R' r G z)
    (h : isem call j pc L S G z c s K R) : isem call j pc L S G z c s K' R' := by
  unfold isem at h ⊢
  split at h
  · exact istep_mono hc hK hR h
  · exact h
theorem CALL_mono : ∀ d, Cmono (CALL d)
  | 0 => fun _ _ _ _ _ _ _ h => h
  | d + 1 => fun j as G z Q Q' hQ h P hP => h P (fun pc L S G z c s hs => hP pc L S G z c s (isem_mono (CALL_mono d) (fun _ _ _ _ _ _ _ q => q) hQ hs))
theorem WP_unfold {d j : Nat} {R : Rt} {pc : Nat} {L : Lo} {S : List Value} {G : Mem} {z c s : Nat} : WP d j R pc L S G z c s = isem (CALL d) j pc L S G z c s (WP d j R) R := by
  have h1 : ∀ pc L S G z c s, isem (CALL d) j pc L S G z c s (WP d j R) R → WP d j R pc L S G z c s := fun pc L S G z c s h P hP =>
    hP _ _ _ _ _ _ _ (isem_mono (CALL_mono d) (fun _ _ _ _ _ _ _ q => q P hP) (fun _ _ _ q => q) h)
  refine propext ⟨fun h => h (fun pc L S G z c s => isem (CALL d) j pc L S G z c s (WP d j R) R) fun pc L S G z c s hs => ?_, h1 pc L S G z c s⟩
  exact isem_mono (CALL_mono d) h1 (fun _ _ _ q => q) hs
/-- one instruction -/
theorem wp_eq {d j : Nat} {R : Rt} {pc : Nat} {L : Lo} {S : List Value} {G : Mem} {z c s : Nat} {il : Instr × Nat} (h : decode (cd j) pc = .ok il) : WP d j R pc L S G z c s = istep (CALL d) j il pc L S G z c s (WP d j R) R := by
  rw [WP_unfold]
  unfold isem
  rw [h]
theorem CALL_eq {d j : Nat} {as : List Value} {G : Mem} {z : Nat} {Q : Rt} : CALL (d + 1) j as G z Q = WP d j Q 0 (ent as (mxL j)) [] G z 0 0 := rfl
end
section
/-! what the tables say, by their places in lw_tbl -/
def lwG : List Cond := lw_tbl.filter goodWord
theorem lwG_at (p : Nat) {w : Cond} (h : lw_tbl[p]? = some w) (hg : goodWord w = true) : w ∈ lwG := List.mem_filter.mpr ⟨List.mem_of_getElem? h, hg⟩
def frW (e : Nat × Nat × Nat × Nat × Nat) : Cond := match e with
  | (o, i, ci, k, _) => if ci < 9 then .fieldLink (ownN o) i (cT ci k).1 (cT ci k).2.1 (cT ci k).2.2.1
    else if ci = 30 then (if k = 0 then .fieldLink (ownN o) i "java/lang/String" "value" "[B" else .fieldLink (ownN o) i "java/lang/String" "coder" "B")
    else (if k = 0 then .fieldLink (ownN o) i "java/lang/String" "COMPACT_STRINGS" "Z" else .fieldLink (ownN o) i "jdk/internal/util/Preconditions" "SIOOBE_FORMATTER" "Ljava/util/function/BiFunction;")
set_option maxRecDepth 100000 in
theorem frL_ok : (frL.all fun e => decide (lw_tbl[e.2.2.2.2]? = some (frW e))) = true := by decide +kernel
def mrC (e : Nat × Nat × Nat × Nat × Nat × Nat × Nat × Nat) : Bool := match e with
  | (o, i, 0, j, p1, p2, p3, p4) => decide (j < 137) && decide (lw_tbl[p1]? = some (.methodLink (ownN o) i (my j))) && decide (lw_tbl[p2]? = some (.instanceMethod (my j))) && decide (lw_tbl[p3]? = some (.initialized (my j).cls)) && decide (lw_tbl[p4]? = some (.selects (my j).cls (my j) (my j)))
  | (o, i, 1, j, p1, p2, p3, _) => decide (j < 137) && decide (lw_tbl[p1]? = some (.methodLink (ownN o) i (my j))) && decide (lw_tbl[p2]? = some (.static (my j))) && decide (lw_tbl[p3]? = some (.initialized (my j).cls))
  | (o, i, 2, j, p1, p2, p3, _) => decide (j < 137) && decide (lw_tbl[p1]? = some (.methodLink (ownN o) i (my j))) && decide (lw_tbl[p2]? = some (.instanceMethod (my j))) && decide (lw_tbl[p3]? = some (.initialized (my j).cls)) && decide ((my j).name = "<init>") && decide (mrt j = none)
  | (o, i, 3, j, p1, p2, p3, _) => decide (j < 137) && decide (lw_tbl[p1]? = some (.methodLinkNest (ownN o) i (my j) "VarietyCircuit")) && decide (lw_tbl[p2]? = some (.static (my j))) && decide (lw_tbl[p3]? = some (.initialized (my j).cls))
  | (o, i, 4, _, p1, _, _, _) => decide (lw_tbl[p1]? = some (.methodLink (ownN o) i Lib.objectInit))
  | (o, i, 5, _, p1, _, _, _) => decide (lw_tbl[p1]? = some (.methodLink (ownN o) i Lib.Math.min.name))
  | (o, i, 6, _, p1, _, _, _) => decide (lw_tbl[p1]? = some (.methodLink (ownN o) i Lib.Math.abs.name))
  | _ => false
set_option maxRecDepth 100000 in
theorem mrL_ok : mrL.all mrC = true := by decide +kernel
def nmC (j : Nat) : Bool := plainName (my j).cls && decide ((my j).cls ≠ "java/lang/invoke/MethodHandle") && decide ((my j).cls ≠ "java/lang/invoke/VarHandle") && decide ((parseMethodDescriptor (my j).desc).map (fun d => d.parameters.length) = some (npq j)) && decide ((my j).cls = ownN (ow j)) && decide (mxL j ≤ 17) && (!isIni j || decide ((my j).name = "<init>")) && decide (mcq j ≤ 1000) && decide (msq j ≤ 100000)
set_option maxRecDepth 100000 in
theorem nm_ok : (List.range 137).all nmC = true := by decide +kernel
set_option maxRecDepth 100000 in
theorem lays_ok : ((List.range 9).all fun ci => (u_ws (ownN ci) (cT ci) (nF ci)).all fun w => decide (w ∈ lw_tbl) && goodWord w) = true := by decide +kernel
theorem tyC_ok : ((List.range 9).all fun ci => (List.range (nF ci)).all fun k => decide (parseFieldDescriptor (cT ci k).2.2.1 = some (tyC ci k)) && decide ((cT ci k).1 = ownN ci) && decide (defaultValue (tyC ci k) = if isR ci k = true then .null else .int 0)) = true := by decide +kernel
theorem nmD_ok : ((List.range 9).all fun ci => (List.range (nF ci)).all fun a => (List.range (nF ci)).all fun b => decide (a ≠ b → (cT ci a).2.1 ≠ (cT ci b).2.1)) = true := by decide +kernel
theorem vwCl_at : ∀ ci, ci < 9 → vwCl[ci]? = some (ownN ci, cT ci, nF ci) := by
  intro ci h
  match ci, h with
  | 0, _ => rfl
  | 1, _ => rfl
  | 2, _ => rfl
  | 3, _ => rfl
  | 4, _ => rfl
  | 5, _ => rfl
  | 6, _ => rfl
  | 7, _ => rfl
  | 8, _ => rfl
  | k + 9, h => omega
set_option maxRecDepth 100000 in
theorem ins_ok : ((List.range 9).all fun ci => decide (lw_tbl[((insP[ci]?).getD (0, 0)).1]? = some (.instantiable (ownN ci) (nF ci))) && decide (lw_tbl[((insP[ci]?).getD (0, 0)).2]? = some (.initialized (ownN ci)))) = true := by decide +kernel
set_option maxRecDepth 100000 in
theorem crL_ok : (crL.all fun e => decide (lw_tbl[e.2.2.2]? = some (.classLink (ownN e.1) e.2.1 (ownN e.2.2.1))) && decide (e.2.2.1 < 9)) = true := by decide +kernel
set_option maxRecDepth 100000 in
theorem kIL_ok : (kIL.all fun e => decide (lw_tbl[e.2.2.2]? = some (.constant (ownN e.1) e.2.1 e.2.2.1))) = true := by decide +kernel
set_option maxRecDepth 100000 in
theorem kLL_ok : (kLL.all fun e => decide (lw_tbl[e.2.2.2]? = some (.constantLong (ownN e.1) e.2.1 e.2.2.1))) = true := by decide +kernel
theorem kSL_ok : (kSL.all fun e => decide (e.1 = 3) && decide (e.2.2.1 < 10) && decide (sIx[e.2.2.1]? = some e.2.1)) = true := by decide +kernel
set_option maxRecDepth 100000 in
theorem obj_ok : Cond.instanceMethod Lib.objectInit ∈ lwG ∧ Cond.code Lib.objectInit ⟨#[0xb1]⟩ 1 none ∈ lwG := ⟨lwG_at 73 (by decide +kernel) rfl, lwG_at 74 rfl rfl⟩
set_option maxRecDepth 100000 in
theorem arr_ok : (Cond.arrayClass .int) ∈ lwG ∧ (Cond.arrayClass .byte) ∈ lwG ∧ (Cond.arrayClass .boolean) ∈ lwG := ⟨lwG_at 126 (by decide +kernel) rfl, lwG_at 95 (by decide +kernel) rfl, lwG_at 125 (by decide +kernel) rfl⟩
set_option maxRecDepth 100000 in
theorem math_ok : (Cond.static Lib.Math.min.name ∈ lwG ∧ Cond.code Lib.Math.min.name Lib.Math.min.code 2 (some .int) ∈ lwG) ∧ (Cond.static Lib.Math.abs.name ∈ lwG ∧ Cond.code Lib.Math.abs.name Lib.Math.abs.code 1 (some .int) ∈ lwG) ∧ Cond.initialized "java/lang/Math" ∈ lwG :=
  ⟨⟨lwG_at 280 (by decide +kernel) rfl, lwG_at 281 rfl rfl⟩, ⟨lwG_at 496 (by decide +kernel) rfl, lwG_at 497 rfl rfl⟩, lwG_at 59 (by decide +kernel) rfl⟩
set_option maxRecDepth 20000 in
theorem code_0 : Cond.code (my 0) (cd 0) (mxL 0) (mrt 0) ∈ lwG := lwG_at 100 rfl rfl
set_option maxRecDepth 20000 in
theorem code_1 : Cond.code (my 1) (cd 1) (mxL 1) (mrt 1) ∈ lwG := lwG_at 668 rfl rfl
set_option maxRecDepth 20000 in
theorem code_2 : Cond.code (my 2) (cd 2) (mxL 2) (mrt 2) ∈ lwG := lwG_at 617 rfl rfl
set_option maxRecDepth 20000 in
theorem code_3 : Cond.code (my 3) (cd 3) (mxL 3) (mrt 3) ∈ lwG := lwG_at 622 rfl rfl
set_option maxRecDepth 20000 in
theorem code_4 : Cond.code (my 4) (cd 4) (mxL 4) (mrt 4) ∈ lwG := lwG_at 630 rfl rfl
set_option maxRecDepth 20000 in
theorem code_5 : Cond.code (my 5) (cd 5) (mxL 5) (mrt 5) ∈ lwG := lwG_at 643 rfl rfl
set_option maxRecDepth 20000 in
theorem code_6 : Cond.code (my 6) (cd 6) (mxL 6) (mrt 6) ∈ lwG := lwG_at 647 rfl rfl
set_option maxRecDepth 20000 in
theorem code_7 : Cond.code (my 7) (cd 7) (mxL 7) (mrt 7) ∈ lwG := lwG_at 651 rfl rfl
set_option maxRecDepth 20000 in
theorem code_8 : Cond.code (my 8) (cd 8) (mxL 8) (mrt 8) ∈ lwG := lwG_at 655 rfl rfl
set_option maxRecDepth 20000 in
theorem code_9 : Cond.code (my 9) (cd 9) (mxL 9) (mrt 9) ∈ lwG := lwG_at 659 rfl rfl
set_option maxRecDepth 20000 in
theorem code_10 : Cond.code (my 10) (cd 10) (mxL 10) (mrt 10) ∈ lwG := lwG_at 664 rfl rfl
set_option maxRecDepth 20000 in
theorem code_11 : Cond.code (my 11) (cd 11) (mxL 11) (mrt 11) ∈ lwG := lwG_at 639 rfl rfl
set_option maxRecDepth 20000 in
theorem code_12 : Cond.code (my 12) (cd 12) (mxL 12) (mrt 12) ∈ lwG := lwG_at 83 rfl rfl
set_option maxRecDepth 20000 in
theorem code_13 : Cond.code (my 13) (cd 13) (mxL 13) (mrt 13) ∈ lwG := lwG_at 529 rfl rfl
set_option maxRecDepth 20000 in
theorem code_14 : Cond.code (my 14) (cd 14) (mxL 14) (mrt 14) ∈ lwG := lwG_at 537 rfl rfl
set_option maxRecDepth 20000 in
theorem code_15 : Cond.code (my 15) (cd 15) (mxL 15) (mrt 15) ∈ lwG := lwG_at 605 rfl rfl
set_option maxRecDepth 20000 in
theorem code_16 : Cond.code (my 16) (cd 16) (mxL 16) (mrt 16) ∈ lwG := lwG_at 556 rfl rfl
set_option maxRecDepth 20000 in
theorem code_17 : Cond.code (my 17) (cd 17) (mxL 17) (mrt 17) ∈ lwG := lwG_at 593 rfl rfl
set_option maxRecDepth 20000 in
theorem code_18 : Cond.code (my 18) (cd 18) (mxL 18) (mrt 18) ∈ lwG := lwG_at 601 rfl rfl
set_option maxRecDepth 20000 in
theorem code_19 : Cond.code (my 19) (cd 19) (mxL 19) (mrt 19) ∈ lwG := lwG_at 588 rfl rfl
set_option maxRecDepth 20000 in
theorem code_20 : Cond.code (my 20) (cd 20) (mxL 20) (mrt 20) ∈ lwG := lwG_at 533 rfl rfl
set_option maxRecDepth 20000 in
theorem code_21 : Cond.code (my 21) (cd 21) (mxL 21) (mrt 21) ∈ lwG := lwG_at 542 rfl rfl
set_option maxRecDepth 20000 in
theorem code_22 : Cond.code (my 22) (cd 22) (mxL 22) (mrt 22) ∈ lwG := lwG_at 430 rfl rfl
set_option maxRecDepth 20000 in
theorem code_23 : Cond.code (my 23) (cd 23) (mxL 23) (mrt 23) ∈ lwG := lwG_at 597 rfl rfl
set_option maxRecDepth 20000 in
theorem code_24 : Cond.code (my 24) (cd 24) (mxL 24) (mrt 24) ∈ lwG := lwG_at 501 rfl rfl
set_option maxRecDepth 20000 in
theorem code_25 : Cond.code (my 25) (cd 25) (mxL 25) (mrt 25) ∈ lwG := lwG_at 547 rfl rfl
set_option maxRecDepth 20000 in
theorem code_26 : Cond.code (my 26) (cd 26) (mxL 26) (mrt 26) ∈ lwG := lwG_at 513 rfl rfl
set_option maxRecDepth 20000 in
theorem code_27 : Cond.code (my 27) (cd 27) (mxL 27) (mrt 27) ∈ lwG := lwG_at 505 rfl rfl
set_option maxRecDepth 20000 in
theorem code_28 : Cond.code (my 28) (cd 28) (mxL 28) (mrt 28) ∈ lwG := lwG_at 277 rfl rfl
set_option maxRecDepth 20000 in
theorem code_29 : Cond.code (my 29) (cd 29) (mxL 29) (mrt 29) ∈ lwG := lwG_at 303 rfl rfl
set_option maxRecDepth 20000 in
theorem code_30 : Cond.code (my 30) (cd 30) (mxL 30) (mrt 30) ∈ lwG := lwG_at 328 rfl rfl
set_option maxRecDepth 20000 in
theorem code_31 : Cond.code (my 31) (cd 31) (mxL 31) (mrt 31) ∈ lwG := lwG_at 332 rfl rfl
set_option maxRecDepth 20000 in
theorem code_32 : Cond.code (my 32) (cd 32) (mxL 32) (mrt 32) ∈ lwG := lwG_at 393 rfl rfl
set_option maxRecDepth 20000 in
theorem code_33 : Cond.code (my 33) (cd 33) (mxL 33) (mrt 33) ∈ lwG := lwG_at 400 rfl rfl
set_option maxRecDepth 20000 in
theorem code_34 : Cond.code (my 34) (cd 34) (mxL 34) (mrt 34) ∈ lwG := lwG_at 307 rfl rfl
set_option maxRecDepth 20000 in
theorem code_35 : Cond.code (my 35) (cd 35) (mxL 35) (mrt 35) ∈ lwG := lwG_at 337 rfl rfl
set_option maxRecDepth 20000 in
theorem code_36 : Cond.code (my 36) (cd 36) (mxL 36) (mrt 36) ∈ lwG := lwG_at 315 rfl rfl
set_option maxRecDepth 20000 in
theorem code_37 : Cond.code (my 37) (cd 37) (mxL 37) (mrt 37) ∈ lwG := lwG_at 311 rfl rfl
set_option maxRecDepth 20000 in
theorem code_38 : Cond.code (my 38) (cd 38) (mxL 38) (mrt 38) ∈ lwG := lwG_at 319 rfl rfl
set_option maxRecDepth 20000 in
theorem code_39 : Cond.code (my 39) (cd 39) (mxL 39) (mrt 39) ∈ lwG := lwG_at 324 rfl rfl
set_option maxRecDepth 20000 in
theorem code_40 : Cond.code (my 40) (cd 40) (mxL 40) (mrt 40) ∈ lwG := lwG_at 235 rfl rfl
set_option maxRecDepth 20000 in
theorem code_41 : Cond.code (my 41) (cd 41) (mxL 41) (mrt 41) ∈ lwG := lwG_at 494 rfl rfl
set_option maxRecDepth 20000 in
theorem code_42 : Cond.code (my 42) (cd 42) (mxL 42) (mrt 42) ∈ lwG := lwG_at 407 rfl rfl
set_option maxRecDepth 20000 in
theorem code_43 : Cond.code (my 43) (cd 43) (mxL 43) (mrt 43) ∈ lwG := lwG_at 178 rfl rfl
set_option maxRecDepth 20000 in
theorem code_44 : Cond.code (my 44) (cd 44) (mxL 44) (mrt 44) ∈ lwG := lwG_at 486 rfl rfl
set_option maxRecDepth 20000 in
theorem code_45 : Cond.code (my 45) (cd 45) (mxL 45) (mrt 45) ∈ lwG := lwG_at 568 rfl rfl
set_option maxRecDepth 20000 in
theorem code_46 : Cond.code (my 46) (cd 46) (mxL 46) (mrt 46) ∈ lwG := lwG_at 551 rfl rfl
set_option maxRecDepth 20000 in
theorem code_47 : Cond.code (my 47) (cd 47) (mxL 47) (mrt 47) ∈ lwG := lwG_at 466 rfl rfl
set_option maxRecDepth 20000 in
theorem code_48 : Cond.code (my 48) (cd 48) (mxL 48) (mrt 48) ∈ lwG := lwG_at 71 rfl rfl
set_option maxRecDepth 20000 in
theorem code_49 : Cond.code (my 49) (cd 49) (mxL 49) (mrt 49) ∈ lwG := lwG_at 167 rfl rfl
set_option maxRecDepth 20000 in
theorem code_50 : Cond.code (my 50) (cd 50) (mxL 50) (mrt 50) ∈ lwG := lwG_at 171 rfl rfl
set_option maxRecDepth 20000 in
theorem code_51 : Cond.code (my 51) (cd 51) (mxL 51) (mrt 51) ∈ lwG := lwG_at 231 rfl rfl
set_option maxRecDepth 20000 in
theorem code_52 : Cond.code (my 52) (cd 52) (mxL 52) (mrt 52) ∈ lwG := lwG_at 257 rfl rfl
set_option maxRecDepth 20000 in
theorem code_53 : Cond.code (my 53) (cd 53) (mxL 53) (mrt 53) ∈ lwG := lwG_at 265 rfl rfl
set_option maxRecDepth 20000 in
theorem code_54 : Cond.code (my 54) (cd 54) (mxL 54) (mrt 54) ∈ lwG := lwG_at 455 rfl rfl
set_option maxRecDepth 20000 in
theorem code_55 : Cond.code (my 55) (cd 55) (mxL 55) (mrt 55) ∈ lwG := lwG_at 459 rfl rfl
set_option maxRecDepth 20000 in
theorem code_56 : Cond.code (my 56) (cd 56) (mxL 56) (mrt 56) ∈ lwG := lwG_at 470 rfl rfl
set_option maxRecDepth 20000 in
theorem code_57 : Cond.code (my 57) (cd 57) (mxL 57) (mrt 57) ∈ lwG := lwG_at 560 rfl rfl
set_option maxRecDepth 20000 in
theorem code_58 : Cond.code (my 58) (cd 58) (mxL 58) (mrt 58) ∈ lwG := lwG_at 572 rfl rfl
set_option maxRecDepth 20000 in
theorem code_59 : Cond.code (my 59) (cd 59) (mxL 59) (mrt 59) ∈ lwG := lwG_at 580 rfl rfl
set_option maxRecDepth 20000 in
theorem code_60 : Cond.code (my 60) (cd 60) (mxL 60) (mrt 60) ∈ lwG := lwG_at 584 rfl rfl
set_option maxRecDepth 20000 in
theorem code_61 : Cond.code (my 61) (cd 61) (mxL 61) (mrt 61) ∈ lwG := lwG_at 609 rfl rfl
set_option maxRecDepth 20000 in
theorem code_62 : Cond.code (my 62) (cd 62) (mxL 62) (mrt 62) ∈ lwG := lwG_at 672 rfl rfl
set_option maxRecDepth 20000 in
theorem code_63 : Cond.code (my 63) (cd 63) (mxL 63) (mrt 63) ∈ lwG := lwG_at 676 rfl rfl
set_option maxRecDepth 20000 in
theorem code_64 : Cond.code (my 64) (cd 64) (mxL 64) (mrt 64) ∈ lwG := lwG_at 684 rfl rfl
set_option maxRecDepth 20000 in
theorem code_65 : Cond.code (my 65) (cd 65) (mxL 65) (mrt 65) ∈ lwG := lwG_at 688 rfl rfl
set_option maxRecDepth 20000 in
theorem code_66 : Cond.code (my 66) (cd 66) (mxL 66) (mrt 66) ∈ lwG := lwG_at 693 rfl rfl
set_option maxRecDepth 20000 in
theorem code_67 : Cond.code (my 67) (cd 67) (mxL 67) (mrt 67) ∈ lwG := lwG_at 697 rfl rfl
set_option maxRecDepth 20000 in
theorem code_68 : Cond.code (my 68) (cd 68) (mxL 68) (mrt 68) ∈ lwG := lwG_at 174 rfl rfl
set_option maxRecDepth 20000 in
theorem code_69 : Cond.code (my 69) (cd 69) (mxL 69) (mrt 69) ∈ lwG := lwG_at 272 rfl rfl
set_option maxRecDepth 20000 in
theorem code_70 : Cond.code (my 70) (cd 70) (mxL 70) (mrt 70) ∈ lwG := lwG_at 482 rfl rfl
set_option maxRecDepth 20000 in
theorem code_71 : Cond.code (my 71) (cd 71) (mxL 71) (mrt 71) ∈ lwG := lwG_at 269 rfl rfl
set_option maxRecDepth 20000 in
theorem code_72 : Cond.code (my 72) (cd 72) (mxL 72) (mrt 72) ∈ lwG := lwG_at 474 rfl rfl
set_option maxRecDepth 20000 in
theorem code_73 : Cond.code (my 73) (cd 73) (mxL 73) (mrt 73) ∈ lwG := lwG_at 261 rfl rfl
set_option maxRecDepth 20000 in
theorem code_74 : Cond.code (my 74) (cd 74) (mxL 74) (mrt 74) ∈ lwG := lwG_at 462 rfl rfl
set_option maxRecDepth 20000 in
theorem code_75 : Cond.code (my 75) (cd 75) (mxL 75) (mrt 75) ∈ lwG := lwG_at 525 rfl rfl
set_option maxRecDepth 20000 in
theorem code_76 : Cond.code (my 76) (cd 76) (mxL 76) (mrt 76) ∈ lwG := lwG_at 613 rfl rfl
set_option maxRecDepth 20000 in
theorem code_77 : Cond.code (my 77) (cd 77) (mxL 77) (mrt 77) ∈ lwG := lwG_at 564 rfl rfl
set_option maxRecDepth 20000 in
theorem code_78 : Cond.code (my 78) (cd 78) (mxL 78) (mrt 78) ∈ lwG := lwG_at 576 rfl rfl
set_option maxRecDepth 20000 in
theorem code_79 : Cond.code (my 79) (cd 79) (mxL 79) (mrt 79) ∈ lwG := lwG_at 680 rfl rfl
set_option maxRecDepth 20000 in
theorem code_80 : Cond.code (my 80) (cd 80) (mxL 80) (mrt 80) ∈ lwG := lwG_at 478 rfl rfl
set_option maxRecDepth 20000 in
theorem code_81 : Cond.code (my 81) (cd 81) (mxL 81) (mrt 81) ∈ lwG := lwG_at 521 rfl rfl
set_option maxRecDepth 20000 in
theorem code_82 : Cond.code (my 82) (cd 82) (mxL 82) (mrt 82) ∈ lwG := lwG_at 490 rfl rfl
set_option maxRecDepth 20000 in
theorem code_83 : Cond.code (my 83) (cd 83) (mxL 83) (mrt 83) ∈ lwG := lwG_at 508 rfl rfl
set_option maxRecDepth 20000 in
theorem code_84 : Cond.code (my 84) (cd 84) (mxL 84) (mrt 84) ∈ lwG := lwG_at 517 rfl rfl
set_option maxRecDepth 20000 in
theorem code_85 : Cond.code (my 85) (cd 85) (mxL 85) (mrt 85) ∈ lwG := lwG_at 702 rfl rfl
set_option maxRecDepth 20000 in
theorem code_86 : Cond.code (my 86) (cd 86) (mxL 86) (mrt 86) ∈ lwG := lwG_at 819 rfl rfl
set_option maxRecDepth 20000 in
theorem code_87 : Cond.code (my 87) (cd 87) (mxL 87) (mrt 87) ∈ lwG := lwG_at 843 rfl rfl
set_option maxRecDepth 20000 in
theorem code_88 : Cond.code (my 88) (cd 88) (mxL 88) (mrt 88) ∈ lwG := lwG_at 895 rfl rfl
set_option maxRecDepth 20000 in
theorem code_89 : Cond.code (my 89) (cd 89) (mxL 89) (mrt 89) ∈ lwG := lwG_at 846 rfl rfl
set_option maxRecDepth 20000 in
theorem code_90 : Cond.code (my 90) (cd 90) (mxL 90) (mrt 90) ∈ lwG := lwG_at 924 rfl rfl
set_option maxRecDepth 20000 in
theorem code_91 : Cond.code (my 91) (cd 91) (mxL 91) (mrt 91) ∈ lwG := lwG_at 816 rfl rfl
set_option maxRecDepth 20000 in
theorem code_92 : Cond.code (my 92) (cd 92) (mxL 92) (mrt 92) ∈ lwG := lwG_at 823 rfl rfl
set_option maxRecDepth 20000 in
theorem code_93 : Cond.code (my 93) (cd 93) (mxL 93) (mrt 93) ∈ lwG := lwG_at 827 rfl rfl
set_option maxRecDepth 20000 in
theorem code_94 : Cond.code (my 94) (cd 94) (mxL 94) (mrt 94) ∈ lwG := lwG_at 831 rfl rfl
set_option maxRecDepth 20000 in
theorem code_95 : Cond.code (my 95) (cd 95) (mxL 95) (mrt 95) ∈ lwG := lwG_at 835 rfl rfl
set_option maxRecDepth 20000 in
theorem code_96 : Cond.code (my 96) (cd 96) (mxL 96) (mrt 96) ∈ lwG := lwG_at 850 rfl rfl
set_option maxRecDepth 20000 in
theorem code_97 : Cond.code (my 97) (cd 97) (mxL 97) (mrt 97) ∈ lwG := lwG_at 863 rfl rfl
set_option maxRecDepth 20000 in
theorem code_98 : Cond.code (my 98) (cd 98) (mxL 98) (mrt 98) ∈ lwG := lwG_at 859 rfl rfl
set_option maxRecDepth 20000 in
theorem code_99 : Cond.code (my 99) (cd 99) (mxL 99) (mrt 99) ∈ lwG := lwG_at 867 rfl rfl
set_option maxRecDepth 20000 in
theorem code_100 : Cond.code (my 100) (cd 100) (mxL 100) (mrt 100) ∈ lwG := lwG_at 854 rfl rfl
set_option maxRecDepth 20000 in
theorem code_101 : Cond.code (my 101) (cd 101) (mxL 101) (mrt 101) ∈ lwG := lwG_at 839 rfl rfl
set_option maxRecDepth 20000 in
theorem code_102 : Cond.code (my 102) (cd 102) (mxL 102) (mrt 102) ∈ lwG := lwG_at 879 rfl rfl
set_option maxRecDepth 20000 in
theorem code_103 : Cond.code (my 103) (cd 103) (mxL 103) (mrt 103) ∈ lwG := lwG_at 887 rfl rfl
set_option maxRecDepth 20000 in
theorem code_104 : Cond.code (my 104) (cd 104) (mxL 104) (mrt 104) ∈ lwG := lwG_at 883 rfl rfl
set_option maxRecDepth 20000 in
theorem code_105 : Cond.code (my 105) (cd 105) (mxL 105) (mrt 105) ∈ lwG := lwG_at 944 rfl rfl
set_option maxRecDepth 20000 in
theorem code_106 : Cond.code (my 106) (cd 106) (mxL 106) (mrt 106) ∈ lwG := lwG_at 908 rfl rfl
set_option maxRecDepth 20000 in
theorem code_107 : Cond.code (my 107) (cd 107) (mxL 107) (mrt 107) ∈ lwG := lwG_at 912 rfl rfl
set_option maxRecDepth 20000 in
theorem code_108 : Cond.code (my 108) (cd 108) (mxL 108) (mrt 108) ∈ lwG := lwG_at 899 rfl rfl
set_option maxRecDepth 20000 in
theorem code_109 : Cond.code (my 109) (cd 109) (mxL 109) (mrt 109) ∈ lwG := lwG_at 903 rfl rfl
set_option maxRecDepth 20000 in
theorem code_110 : Cond.code (my 110) (cd 110) (mxL 110) (mrt 110) ∈ lwG := lwG_at 891 rfl rfl
set_option maxRecDepth 20000 in
theorem code_111 : Cond.code (my 111) (cd 111) (mxL 111) (mrt 111) ∈ lwG := lwG_at 921 rfl rfl
set_option maxRecDepth 20000 in
theorem code_112 : Cond.code (my 112) (cd 112) (mxL 112) (mrt 112) ∈ lwG := lwG_at 916 rfl rfl
set_option maxRecDepth 20000 in
theorem code_113 : Cond.code (my 113) (cd 113) (mxL 113) (mrt 113) ∈ lwG := lwG_at 932 rfl rfl
set_option maxRecDepth 20000 in
theorem code_114 : Cond.code (my 114) (cd 114) (mxL 114) (mrt 114) ∈ lwG := lwG_at 928 rfl rfl
set_option maxRecDepth 20000 in
theorem code_115 : Cond.code (my 115) (cd 115) (mxL 115) (mrt 115) ∈ lwG := lwG_at 936 rfl rfl
set_option maxRecDepth 20000 in
theorem code_116 : Cond.code (my 116) (cd 116) (mxL 116) (mrt 116) ∈ lwG := lwG_at 940 rfl rfl
set_option maxRecDepth 20000 in
theorem code_117 : Cond.code (my 117) (cd 117) (mxL 117) (mrt 117) ∈ lwG := lwG_at 961 rfl rfl
set_option maxRecDepth 20000 in
theorem code_118 : Cond.code (my 118) (cd 118) (mxL 118) (mrt 118) ∈ lwG := lwG_at 965 rfl rfl
set_option maxRecDepth 20000 in
theorem code_119 : Cond.code (my 119) (cd 119) (mxL 119) (mrt 119) ∈ lwG := lwG_at 953 rfl rfl
set_option maxRecDepth 20000 in
theorem code_120 : Cond.code (my 120) (cd 120) (mxL 120) (mrt 120) ∈ lwG := lwG_at 957 rfl rfl
set_option maxRecDepth 20000 in
theorem code_121 : Cond.code (my 121) (cd 121) (mxL 121) (mrt 121) ∈ lwG := lwG_at 949 rfl rfl
set_option maxRecDepth 20000 in
theorem code_122 : Cond.code (my 122) (cd 122) (mxL 122) (mrt 122) ∈ lwG := lwG_at 969 rfl rfl
set_option maxRecDepth 20000 in
theorem code_123 : Cond.code (my 123) (cd 123) (mxL 123) (mrt 123) ∈ lwG := lwG_at 977 rfl rfl
set_option maxRecDepth 20000 in
theorem code_124 : Cond.code (my 124) (cd 124) (mxL 124) (mrt 124) ∈ lwG := lwG_at 973 rfl rfl
set_option maxRecDepth 20000 in
theorem code_125 : Cond.code (my 125) (cd 125) (mxL 125) (mrt 125) ∈ lwG := lwG_at 981 rfl rfl
set_option maxRecDepth 20000 in
theorem code_126 : Cond.code (my 126) (cd 126) (mxL 126) (mrt 126) ∈ lwG := lwG_at 985 rfl rfl
set_option maxRecDepth 20000 in
theorem code_127 : Cond.code (my 127) (cd 127) (mxL 127) (mrt 127) ∈ lwG := lwG_at 989 rfl rfl
set_option maxRecDepth 20000 in
theorem code_128 : Cond.code (my 128) (cd 128) (mxL 128) (mrt 128) ∈ lwG := lwG_at 993 rfl rfl
set_option maxRecDepth 20000 in
theorem code_129 : Cond.code (my 129) (cd 129) (mxL 129) (mrt 129) ∈ lwG := lwG_at 633 rfl rfl
set_option maxRecDepth 20000 in
theorem code_130 : Cond.code (my 130) (cd 130) (mxL 130) (mrt 130) ∈ lwG := lwG_at 341 rfl rfl
set_option maxRecDepth 20000 in
theorem code_131 : Cond.code (my 131) (cd 131) (mxL 131) (mrt 131) ∈ lwG := lwG_at 351 rfl rfl
set_option maxRecDepth 20000 in
theorem code_132 : Cond.code (my 132) (cd 132) (mxL 132) (mrt 132) ∈ lwG := lwG_at 345 rfl rfl
set_option maxRecDepth 20000 in
theorem code_133 : Cond.code (my 133) (cd 133) (mxL 133) (mrt 133) ∈ lwG := lwG_at 355 rfl rfl
set_option maxRecDepth 20000 in
theorem code_134 : Cond.code (my 134) (cd 134) (mxL 134) (mrt 134) ∈ lwG := lwG_at 361 rfl rfl
set_option maxRecDepth 20000 in
theorem code_135 : Cond.code (my 135) (cd 135) (mxL 135) (mrt 135) ∈ lwG := lwG_at 358 rfl rfl
set_option maxRecDepth 20000 in
theorem code_136 : Cond.code (my 136) (cd 136) (mxL 136) (mrt 136) ∈ lwG := lwG_at 366 rfl rfl
theorem code_in : ∀ j, j < 137 → Cond.code (my j) (cd j) (mxL j) (mrt j) ∈ lwG := by
  intro j hj
  match j, hj with
  | 0, _ => exact code_0
  | 1, _ => exact code_1
  | 2, _ => exact code_2
  | 3, _ => exact code_3
  | 4, _ => exact code_4
  | 5, _ => exact code_5
  | 6, _ => exact code_6
  | 7, _ => exact code_7
  | 8, _ => exact code_8
  | 9, _ => exact code_9
  | 10, _ => exact code_10
  | 11, _ => exact code_11
  | 12, _ => exact code_12
  | 13, _ => exact code_13
  | 14, _ => exact code_14
  | 15, _ => exact code_15
  | 16, _ => exact code_16
  | 17, _ => exact code_17
  | 18, _ => exact code_18
  | 19, _ => exact code_19
  | 20, _ => exact code_20
  | 21, _ => exact code_21
  | 22, _ => exact code_22
  | 23, _ => exact code_23
  | 24, _ => exact code_24
  | 25, _ => exact code_25
  | 26, _ => exact code_26
  | 27, _ => exact code_27
  | 28, _ => exact code_28
  | 29, _ => exact code_29
  | 30, _ => exact code_30
  | 31, _ => exact code_31
  | 32, _ => exact code_32
  | 33, _ => exact code_33
  | 34, _ => exact code_34
  | 35, _ => exact code_35
  | 36, _ => exact code_36
  | 37, _ => exact code_37
  | 38, _ => exact code_38
  | 39, _ => exact code_39
  | 40, _ => exact code_40
  | 41, _ => exact code_41
  | 42, _ => exact code_42
  | 43, _ => exact code_43
  | 44, _ => exact code_44
  | 45, _ => exact code_45
  | 46, _ => exact code_46
  | 47, _ => exact code_47
  | 48, _ => exact code_48
  | 49, _ => exact code_49
  | 50, _ => exact code_50
  | 51, _ => exact code_51
  | 52, _ => exact code_52
  | 53, _ => exact code_53
  | 54, _ => exact code_54
  | 55, _ => exact code_55
  | 56, _ => exact code_56
  | 57, _ => exact code_57
  | 58, _ => exact code_58
  | 59, _ => exact code_59
  | 60, _ => exact code_60
  | 61, _ => exact code_61
  | 62, _ => exact code_62
  | 63, _ => exact code_63
  | 64, _ => exact code_64
  | 65, _ => exact code_65
  | 66, _ => exact code_66
  | 67, _ => exact code_67
  | 68, _ => exact code_68
  | 69, _ => exact code_69
  | 70, _ => exact code_70
  | 71, _ => exact code_71
  | 72, _ => exact code_72
  | 73, _ => exact code_73
  | 74, _ => exact code_74
  | 75, _ => exact code_75
  | 76, _ => exact code_76
  | 77, _ => exact code_77
  | 78, _ => exact code_78
  | 79, _ => exact code_79
  | 80, _ => exact code_80
  | 81, _ => exact code_81
  | 82, _ => exact code_82
  | 83, _ => exact code_83
  | 84, _ => exact code_84
  | 85, _ => exact code_85
  | 86, _ => exact code_86
  | 87, _ => exact code_87
  | 88, _ => exact code_88
  | 89, _ => exact code_89
  | 90, _ => exact code_90
  | 91, _ => exact code_91
  | 92, _ => exact code_92
  | 93, _ => exact code_93
  | 94, _ => exact code_94
  | 95, _ => exact code_95
  | 96, _ => exact code_96
  | 97, _ => exact code_97
  | 98, _ => exact code_98
  | 99, _ => exact code_99
  | 100, _ => exact code_100
  | 101, _ => exact code_101
  | 102, _ => exact code_102
  | 103, _ => exact code_103
  | 104, _ => exact code_104
  | 105, _ => exact code_105
  | 106, _ => exact code_106
  | 107, _ => exact code_107
  | 108, _ => exact code_108
  | 109, _ => exact code_109
  | 110, _ => exact code_110
  | 111, _ => exact code_111
  | 112, _ => exact code_112
  | 113, _ => exact code_113
  | 114, _ => exact code_114
  | 115, _ => exact code_115
  | 116, _ => exact code_116
  | 117, _ => exact code_117
  | 118, _ => exact code_118
  | 119, _ => exact code_119
  | 120, _ => exact code_120
  | 121, _ => exact code_121
  | 122, _ => exact code_122
  | 123, _ => exact code_123
  | 124, _ => exact code_124
  | 125, _ => exact code_125
  | 126, _ => exact code_126
  | 127, _ => exact code_127
  | 128, _ => exact code_128
  | 129, _ => exact code_129
  | 130, _ => exact code_130
  | 131, _ => exact code_131
  | 132, _ => exact code_132
  | 133, _ => exact code_133
  | 134, _ => exact code_134
  | 135, _ => exact code_135
  | 136, _ => exact code_136
  | k + 137, h => omega
end
section
/-! the tables' facts, one by one -/
theorem fr_in {o i ci k : Nat} (h : fr o i = some (ci, k)) : ∃ p, lw_tbl[p]? = some (frW (o, i, ci, k, p)) := by
  unfold fr at h
  obtain ⟨e, he, e2⟩ := Option.map_eq_some_iff.mp h
  have hm := List.mem_of_find?_eq_some he
  have hp := List.find?_some he
  have ho := of_decide_eq_true (List.all_eq_true.mp frL_ok e hm)
  obtain ⟨a, b, c, d, p⟩ := e
  simp only [Bool.and_eq_true, beq_iff_eq] at hp
  simp only [Prod.mk.injEq] at e2
  obtain ⟨rfl, rfl⟩ := hp
  obtain ⟨rfl, rfl⟩ := e2
  exact ⟨p, ho⟩
theorem fr_word {o i ci k : Nat} (h : fr o i = some (ci, k)) (hc : ci < 9) : Cond.fieldLink (ownN o) i (cT ci k).1 (cT ci k).2.1 (cT ci k).2.2.1 ∈ lwG := by
  obtain ⟨p, hp⟩ := fr_in h
  simp only [frW, if_pos hc] at hp
  exact lwG_at p hp rfl
theorem fr_str {o i k : Nat} (h : fr o i = some (30, k)) : (if k = 0 then Cond.fieldLink (ownN o) i "java/lang/String" "value" "[B" else Cond.fieldLink (ownN o) i "java/lang/String" "coder" "B") ∈ lwG := by
  obtain ⟨p, hp⟩ := fr_in h
  have hp : lw_tbl[p]? = some (if k = 0 then Cond.fieldLink (ownN o) i "java/lang/String" "value" "[B" else Cond.fieldLink (ownN o) i "java/lang/String" "coder" "B") := hp
  exact lwG_at p hp (by split <;> rfl)
theorem fr_sta {o i k : Nat} (h : fr o i = some (32, k)) : (if k = 0 then Cond.fieldLink (ownN o) i "java/lang/String" "COMPACT_STRINGS" "Z" else Cond.fieldLink (ownN o) i "jdk/internal/util/Preconditions" "SIOOBE_FORMATTER" "Ljava/util/function/BiFunction;") ∈ lwG := by
  obtain ⟨p, hp⟩ := fr_in h
  have hp : lw_tbl[p]? = some (if k = 0 then Cond.fieldLink (ownN o) i "java/lang/String" "COMPACT_STRINGS" "Z" else Cond.fieldLink (ownN o) i "jdk/internal/util/Preconditions" "SIOOBE_FORMATTER" "Ljava/util/function/BiFunction;") := hp
  exact lwG_at p hp (by split <;> rfl)
theorem mr_in {o i kd j : Nat} (h : mr o i = some (kd, j)) : ∃ p1 p2 p3 p4, mrC (o, i, kd, j, p1, p2, p3, p4) = true := by
  unfold mr at h
  obtain ⟨e, he, e2⟩ := Option.map_eq_some_iff.mp h
  have hm := List.mem_of_find?_eq_some he
  have hp := List.find?_some he
  have ho := List.all_eq_true.mp mrL_ok e hm
  obtain ⟨a, b, c, d, p⟩ := e
  simp only [Bool.and_eq_true, beq_iff_eq] at hp
  simp only [Prod.mk.injEq] at e2
  obtain ⟨rfl, rfl⟩ := hp
  obtain ⟨rfl, rfl⟩ := e2
  exact ⟨_, _, _, _, ho⟩
theorem mr_0 {o i j : Nat} (h : mr o i = some (0, j)) : j < 137 ∧ Cond.methodLink (ownN o) i (my j) ∈ lwG ∧ Cond.instanceMethod (my j) ∈ lwG ∧ Cond.initialized (my j).cls ∈ lwG ∧ Cond.selects (my j).cls (my j) (my j) ∈ lwG := by
  obtain ⟨p1, p2, p3, p4, hp⟩ := mr_in h
  simp only [mrC, Bool.and_eq_true, decide_eq_true_eq] at hp
  exact ⟨hp.1.1.1.1, lwG_at _ hp.1.1.1.2 rfl, lwG_at _ hp.1.1.2 rfl, lwG_at _ hp.1.2 rfl, lwG_at _ hp.2 rfl⟩
theorem mr_1 {o i j : Nat} (h : mr o i = some (1, j)) : j < 137 ∧ Cond.methodLink (ownN o) i (my j) ∈ lwG ∧ Cond.static (my j) ∈ lwG ∧ Cond.initialized (my j).cls ∈ lwG := by
  obtain ⟨p1, p2, p3, p4, hp⟩ := mr_in h
  simp only [mrC, Bool.and_eq_true, decide_eq_true_eq] at hp
  exact ⟨hp.1.1.1, lwG_at _ hp.1.1.2 rfl, lwG_at _ hp.1.2 rfl, lwG_at _ hp.2 rfl⟩
theorem mr_2 {o i j : Nat} (h : mr o i = some (2, j)) : j < 137 ∧ Cond.methodLink (ownN o) i (my j) ∈ lwG ∧ Cond.instanceMethod (my j) ∈ lwG ∧ Cond.initialized (my j).cls ∈ lwG ∧ (my j).name = "<init>" ∧ mrt j = none := by
  obtain ⟨p1, p2, p3, p4, hp⟩ := mr_in h
  simp only [mrC, Bool.and_eq_true, decide_eq_true_eq] at hp
  exact ⟨hp.1.1.1.1.1, lwG_at _ hp.1.1.1.1.2 rfl, lwG_at _ hp.1.1.1.2 rfl, lwG_at _ hp.1.1.2 rfl, hp.1.2, hp.2⟩
theorem mr_3 {o i j : Nat} (h : mr o i = some (3, j)) : j < 137 ∧ Cond.methodLinkNest (ownN o) i (my j) "VarietyCircuit" ∈ lw_tbl ∧ Cond.static (my j) ∈ lwG ∧ Cond.initialized (my j).cls ∈ lwG := by
  obtain ⟨p1, p2, p3, p4, hp⟩ := mr_in h
  simp only [mrC, Bool.and_eq_true, decide_eq_true_eq] at hp
  exact ⟨hp.1.1.1, List.mem_of_getElem? hp.1.1.2, lwG_at _ hp.1.2 rfl, lwG_at _ hp.2 rfl⟩
theorem mr_4 {o i j : Nat} (h : mr o i = some (4, j)) : Cond.methodLink (ownN o) i Lib.objectInit ∈ lwG := by
  obtain ⟨p1, p2, p3, p4, hp⟩ := mr_in h
  simp only [mrC, decide_eq_true_eq] at hp
  exact lwG_at _ hp rfl
theorem mr_5 {o i j : Nat} (h : mr o i = some (5, j)) : Cond.methodLink (ownN o) i Lib.Math.min.name ∈ lwG := by
  obtain ⟨p1, p2, p3, p4, hp⟩ := mr_in h
  simp only [mrC, decide_eq_true_eq] at hp
  exact lwG_at _ hp rfl
theorem mr_6 {o i j : Nat} (h : mr o i = some (6, j)) : Cond.methodLink (ownN o) i Lib.Math.abs.name ∈ lwG := by
  obtain ⟨p1, p2, p3, p4, hp⟩ := mr_in h
  simp only [mrC, decide_eq_true_eq] at hp
  exact lwG_at _ hp rfl
theorem nm_at {j : Nat} (h : j < 137) : plainName (my j).cls = true ∧ ((my j).cls ≠ "java/lang/invoke/MethodHandle" ∧ (my j).cls ≠ "java/lang/invoke/VarHandle" ∧ (parseMethodDescriptor (my j).desc).map (fun d => d.parameters.length) = some (npq j)) ∧ (my j).cls = ownN (ow j) ∧ mxL j ≤ 17 ∧ (isIni j = true → (my j).name = "<init>") := by
  have hj := List.all_eq_true.mp nm_ok j (List.mem_range.mpr h)
  simp only [nmC, Bool.and_eq_true, Bool.or_eq_true, Bool.not_eq_true', decide_eq_true_eq] at hj
  obtain ⟨⟨⟨⟨⟨⟨⟨⟨h1, h2⟩, h3⟩, h4⟩, h5⟩, h6⟩, h7⟩, -⟩, -⟩ := hj
  refine ⟨h1, ⟨h2, h3, h4⟩, h5, h6, fun q => ?_⟩
  rcases h7 with h7 | h7
  · rw [q] at h7; cases h7
  · exact h7
theorem lays_in {ci : Nat} (h : ci < 9) : ∀ w ∈ u_ws (ownN ci) (cT ci) (nF ci), w ∈ lwG := by
  intro w hw
  have h1 := List.all_eq_true.mp (List.all_eq_true.mp lays_ok ci (List.mem_range.mpr h)) w hw
  simp only [Bool.and_eq_true, decide_eq_true_eq] at h1
  exact List.mem_filter.mpr h1
theorem ty_at {ci k : Nat} (h : ci < 9) (hk : k < nF ci) : parseFieldDescriptor (cT ci k).2.2.1 = some (tyC ci k) ∧ (cT ci k).1 = ownN ci ∧ defaultValue (tyC ci k) = if isR ci k = true then .null else .int 0 := by
  have h1 := List.all_eq_true.mp (List.all_eq_true.mp tyC_ok ci (List.mem_range.mpr h)) k (List.mem_range.mpr hk)
  simp only [Bool.and_eq_true, decide_eq_true_eq] at h1
  exact ⟨h1.1.1, h1.1.2, h1.2⟩
theorem nmD_at {ci : Nat} (h : ci < 9) : ∀ a, a < nF ci → ∀ b, b < nF ci → a ≠ b → (cT ci a).2.1 ≠ (cT ci b).2.1 := by
  intro a ha b hb
  have h1 := List.all_eq_true.mp (List.all_eq_true.mp (List.all_eq_true.mp nmD_ok ci (List.mem_range.mpr h)) a (List.mem_range.mpr ha)) b (List.mem_range.mpr hb)
  exact of_decide_eq_true h1
theorem ins_at {ci : Nat} (h : ci < 9) : Cond.instantiable (ownN ci) (nF ci) ∈ lwG ∧ Cond.initialized (ownN ci) ∈ lwG := by
  have h1 := List.all_eq_true.mp ins_ok ci (List.mem_range.mpr h)
  simp only [Bool.and_eq_true, decide_eq_true_eq] at h1
  exact ⟨lwG_at _ h1.1 rfl, lwG_at _ h1.2 rfl⟩
theorem cr_at {o i ci : Nat} (h : cr o i = some ci) : Cond.classLink (ownN o) i (ownN ci) ∈ lwG ∧ ci < 9 := by
  unfold cr at h
  obtain ⟨e, he, e2⟩ := Option.map_eq_some_iff.mp h
  have hm := List.mem_of_find?_eq_some he
  have hp := List.find?_some he
  have ho := List.all_eq_true.mp crL_ok e hm
  obtain ⟨a, b, c, d⟩ := e
  simp only [Bool.and_eq_true, beq_iff_eq] at hp
  simp only [Bool.and_eq_true, decide_eq_true_eq] at ho
  obtain ⟨rfl, rfl⟩ := hp
  subst e2
  exact ⟨lwG_at _ ho.1 rfl, ho.2⟩
theorem kI_at {o i : Nat} {v : Int32} (h : kI o i = some v) : Cond.constant (ownN o) i v ∈ lwG := by
  unfold kI at h
  obtain ⟨e, he, e2⟩ := Option.map_eq_some_iff.mp h
  have hm := List.mem_of_find?_eq_some he
  have hp := List.find?_some he
  have ho := of_decide_eq_true (List.all_eq_true.mp kIL_ok e hm)
  obtain ⟨a, b, c, d⟩ := e
  simp only [Bool.and_eq_true, beq_iff_eq] at hp
  obtain ⟨rfl, rfl⟩ := hp
  subst e2
  exact lwG_at _ ho rfl
theorem kL_at {o i : Nat} {v : Int64} (h : kL o i = some v) : Cond.constantLong (ownN o) i v ∈ lwG := by
  unfold kL at h
  obtain ⟨e, he, e2⟩ := Option.map_eq_some_iff.mp h
  have hm := List.mem_of_find?_eq_some he
  have hp := List.find?_some he
  have ho := of_decide_eq_true (List.all_eq_true.mp kLL_ok e hm)
  obtain ⟨a, b, c, d⟩ := e
  simp only [Bool.and_eq_true, beq_iff_eq] at hp
  obtain ⟨rfl, rfl⟩ := hp
  subst e2
  exact lwG_at _ ho rfl
theorem kS_at {o i q : Nat} (h : kS o i = some q) : o = 3 ∧ q < 10 ∧ sIx[q]? = some i := by
  unfold kS at h
  obtain ⟨e, he, e2⟩ := Option.map_eq_some_iff.mp h
  have hm := List.mem_of_find?_eq_some he
  have hp := List.find?_some he
  have ho := List.all_eq_true.mp kSL_ok e hm
  obtain ⟨a, b, c, d⟩ := e
  simp only [Bool.and_eq_true, beq_iff_eq] at hp
  simp only [Bool.and_eq_true, decide_eq_true_eq] at ho
  obtain ⟨rfl, rfl⟩ := hp
  subst e2
  exact ⟨ho.1.1, ho.1.2, ho.2⟩
set_option maxRecDepth 100000 in
theorem str_ok : (mrL.all fun e => !(e.2.2.1 == 0) || decide (ow e.2.2.2.1 < 9) || decide (ownN (ow e.2.2.2.1) = "java/lang/String")) = true := by decide +kernel
theorem str_own {o i j : Nat} (h : mr o i = some (0, j)) (hj : ¬ ow j < 9) : "java/lang/String" = ownN (ow j) := by
  unfold mr at h
  obtain ⟨e, he, e2⟩ := Option.map_eq_some_iff.mp h
  have hm := List.mem_of_find?_eq_some he
  have ho := List.all_eq_true.mp str_ok e hm
  obtain ⟨a, b, c, d, p⟩ := e
  simp only [Prod.mk.injEq] at e2
  obtain ⟨rfl, rfl⟩ := e2
  simp only [beq_self_eq_true, Bool.not_true, Bool.false_or, Bool.or_eq_true, decide_eq_true_eq] at ho
  rcases ho with ho | ho
  · exact absurd ho hj
  · exact ho.symm
end
section
/-! what a memory says of the machine's heap, and how it is kept -/
abbrev Fix : Type := va_G × (Nat → ClassId) × Nat × (Nat → Nat) × (Nat → Nat) × Option Nat × Nat × Nat × (Nat → Int32)
def fD (E : Fix) : va_G := E.1
def fcy (E : Fix) : Nat → ClassId := E.2.1
def fb (E : Fix) : Nat := E.2.2.1
def fK (E : Fix) : Nat → Nat := E.2.2.2.1
def fV (E : Fix) : Nat → Nat := E.2.2.2.2.1
def fsi (E : Fix) : Option Nat := E.2.2.2.2.2.1
def fx (E : Fix) : Nat := E.2.2.2.2.2.2.1
def fxl (E : Fix) : Nat := E.2.2.2.2.2.2.2.1
def fxs (E : Fix) : Nat → Int32 := E.2.2.2.2.2.2.2.2
def fA (E : Fix) : Nat → Prop := fun q => fb E ≤ q
def sLen : List Nat := sBy.map List.length
def fv (G : Mem) (ci a k : Nat) : Value := if isR ci k = true then va_rf (mR G ci k a) else .int (mI G ci k a)
def av (G : Mem) (a i : Nat) : Value := if mK G a < 23 then .int (mE G a i) else va_rf (mQ G a i)
def holdP (E : Fix) (G : Mem) (H : Heap) : Prop := ∀ a, (mK G a < 9 → fb E ≤ a ∧ t_OB a ((fD E).1 (mK G a)) (nF (mK G a)) ((fD E).2 (mK G a)) H (fv G (mK G a) a)) ∧ (20 ≤ mK G a → mK G a ≤ 24 → fb E ≤ a ∧ H[a]? = some (arrV (fcy E (mK G a)) (mN G a) (av G a)))
def lnk (E : Fix) (G : Mem) : Prop := (∀ a, mK G a = 25 → a = fx E ∧ mN G a = fxl E ∧ ∀ i, mE G a i = fxs E i) ∧ (∀ a, mI G 33 0 a = 1 → ∃ i, i < 10 ∧ a = fK E i ∧ mR G 30 0 a = some (fV E i) ∧ mI G 30 1 a = 0)
  ∧ (∀ a, mK G a = 26 → ∃ i, i < 10 ∧ a = fV E i ∧ mN G a = sLen.getD i 0 ∧ ∀ k, mE G a k = (sBy.getD i []).getD k 0) ∧ (∀ i, i < 10 → mR G 31 i 0 = some (fK E i)) ∧ mR G 32 1 0 = fsi E
def tysOf (cy : Nat → ClassId) : List (ClassId × FieldType) := [(cy 20, .int), (cy 21, .byte), (cy 22, .boolean), (cy 23, .object RX4), (cy 24, .object RX6)]
def know (E : Fix) (U : State) : Prop := va_K (fD E) vwCl (tysOf (fcy E)) U ∧ va_AO RX4 U ∧ va_AO RX6 U ∧ (∀ o i y, Cond.methodLinkNest o i y "VarietyCircuit" ∈ lw_tbl → va_Nw (.methodLinkNest o i y "VarietyCircuit") U) ∧ ∀ i, i < 10 → vk_R RX3 (sIx.getD i 0) (sTx.getD i "") (fK E i) U
def frz (E : Fix) (U : State) (H : Heap) : Prop := vk_S 10 sLen sBy (fK E) (fV E) (fA E) U H ∧ va_Z "java/lang/String" "COMPACT_STRINGS" "Z" (.int 1) (fA E) U H ∧ va_Z "jdk/internal/util/Preconditions" "SIOOBE_FORMATTER" "Ljava/util/function/BiFunction;" (va_rf (fsi E)) (fA E) U H
  ∧ va_X (fx E) (fxl E) (fxs E) U H ∧ fx E < fb E ∧ fx E < H.size
theorem know.warm {E : Fix} {s U : State} (hW : s.WarmedH U.vm) (h : know E s) : know E U :=
  ⟨va_K.moved hW.alike h.1, va_AO.moved hW.alike h.2.1, va_AO.moved hW.alike h.2.2.1, fun o i y hm => va_Nw.warmM hW (h.2.2.2.1 o i y hm), fun i hi => vk_R.warm hW (h.2.2.2.2 i hi)⟩
theorem frz.moved {E : Fix} {u U : State} {H : Heap} (hvm : u.vm.Alike U.vm) (h : frz E u H) : frz E U H :=
  ⟨h.1.moved hvm, h.2.1.moved hvm, h.2.2.1.moved hvm, va_X.moved hvm h.2.2.2.1, h.2.2.2.2⟩
theorem frz.kept {E : Fix} {U : State} {H H1 : Heap} (h : frz E U H) (hz : H.size ≤ H1.size) (hq : ∀ a : Nat, a < H.size → ¬ fA E a → H1[a]? = H[a]?) : frz E U H1 :=
  ⟨h.1.kept hq, h.2.1.kept hq, h.2.2.1.kept hq, va_X.kept h.2.2.2.1 (hq _ h.2.2.2.2.2 (Nat.not_le.mpr h.2.2.2.2.1)), h.2.2.2.2.1, Nat.lt_of_lt_of_le h.2.2.2.2.2 hz⟩
theorem holdP.lt {E : Fix} {G : Mem} {H : Heap} (h : holdP E G H) {a : Nat} (hk : mK G a < 9 ∨ (20 ≤ mK G a ∧ mK G a ≤ 24)) : a < H.size := by
  rcases hk with hk | ⟨h1, h2⟩
  · obtain ⟨-, cell, q, -⟩ := (h a).1 hk
    exact (Array.getElem?_eq_some_iff.mp q).1
  · exact (Array.getElem?_eq_some_iff.mp ((h a).2 h1 h2).2).1
theorem fv_congr {G G' : Mem} {ci a : Nat} (h1 : ∀ k, mI G' ci k a = mI G ci k a) (h2 : ∀ k, mR G' ci k a = mR G ci k a) : fv G' ci a = fv G ci a := by
  funext k
  simp only [fv, h1 k, h2 k]
theorem av_congr {G G' : Mem} {a : Nat} (h0 : mK G' a = mK G a) (h1 : ∀ k, mE G' a k = mE G a k) (h2 : ∀ k, mQ G' a k = mQ G a k) : av G' a = av G a := by
  funext k
  simp only [av, h0, h1 k, h2 k]
/-- one cell is written, the others stand -/
theorem holdP.upd {E : Fix} {G G' : Mem} {H H' : Heap} {a : Nat} (h : holdP E G H) (hK : ∀ b, mK G' b = mK G b) (hN : ∀ b, mN G' b = mN G b)
    (hI : ∀ b, b ≠ a → ∀ c k, mI G' c k b = mI G c k b) (hR : ∀ b, b ≠ a → ∀ c k, mR G' c k b = mR G c k b) (hE : ∀ b, b ≠ a → ∀ k, mE G' b k = mE G b k) (hQ : ∀ b, b ≠ a → ∀ k, mQ G' b k = mQ G b k)
    (hH : ∀ q, q ≠ a → H'[q]? = H[q]?) (ha : (mK G a < 9 → fb E ≤ a ∧ t_OB a ((fD E).1 (mK G a)) (nF (mK G a)) ((fD E).2 (mK G a)) H' (fv G' (mK G a) a)) ∧ (20 ≤ mK G a → mK G a ≤ 24 → fb E ≤ a ∧ H'[a]? = some (arrV (fcy E (mK G a)) (mN G a) (av G' a)))) : holdP E G' H' := by
  intro b
  rw [hK b, hN b]
  by_cases hb : b = a
  · subst hb
    exact ha
  · rw [fv_congr (hI b hb (mK G b)) (hR b hb (mK G b)), av_congr (hK b) (hE b hb) (hQ b hb)]
    refine ⟨fun q => ⟨((h b).1 q).1, ((h b).1 q).2.kept (hH b hb)⟩, fun q1 q2 => ⟨((h b).2 q1 q2).1, ?_⟩⟩
    rw [hH b hb]
    exact ((h b).2 q1 q2).2
/-- a new cell comes, the others stand -/
theorem holdP.new {E : Fix} {G G' : Mem} {H H' : Heap} {a : Nat} (h : holdP E G H) (ha : a = H.size) (hK : ∀ b, b ≠ a → mK G' b = mK G b) (hN : ∀ b, b ≠ a → mN G' b = mN G b)
    (hI : ∀ b, b ≠ a → ∀ c k, mI G' c k b = mI G c k b) (hR : ∀ b, b ≠ a → ∀ c k, mR G' c k b = mR G c k b) (hE : ∀ b, b ≠ a → ∀ k, mE G' b k = mE G b k) (hQ : ∀ b, b ≠ a → ∀ k, mQ G' b k = mQ G b k)
    (hH : ∀ q, q < H.size → H'[q]? = H[q]?) (hn : (mK G' a < 9 → fb E ≤ a ∧ t_OB a ((fD E).1 (mK G' a)) (nF (mK G' a)) ((fD E).2 (mK G' a)) H' (fv G' (mK G' a) a)) ∧ (20 ≤ mK G' a → mK G' a ≤ 24 → fb E ≤ a ∧ H'[a]? = some (arrV (fcy E (mK G' a)) (mN G' a) (av G' a)))) : holdP E G' H' := by
  intro b
  by_cases hb : b = a
  · subst hb
    exact hn
  · rw [hK b hb, hN b hb, fv_congr (hI b hb (mK G b)) (hR b hb (mK G b)), av_congr (hK b hb) (hE b hb) (hQ b hb)]
    refine ⟨fun q => ⟨((h b).1 q).1, ((h b).1 q).2.kept (hH b (h.lt (Or.inl q)))⟩, fun q1 q2 => ⟨((h b).2 q1 q2).1, ?_⟩⟩
    rw [hH b (h.lt (Or.inr ⟨q1, q2⟩))]
    exact ((h b).2 q1 q2).2
theorem lnk.upd {E : Fix} {G G' : Mem} {a : Nat} (h : lnk E G) (ha : mK G a < 25) (hK : ∀ b, mK G' b = mK G b) (hN : ∀ b, mN G' b = mN G b)
    (hI : ∀ b c k, 9 ≤ c → mI G' c k b = mI G c k b) (hR : ∀ b c k, 9 ≤ c → mR G' c k b = mR G c k b) (hE : ∀ b, b ≠ a → ∀ k, mE G' b k = mE G b k) : lnk E G' := by
  obtain ⟨h1, h2, h3, h4, h5⟩ := h
  have ne : ∀ b, 25 ≤ mK G b → b ≠ a := fun b hb e => by subst e; omega
  refine ⟨fun b hb => ?_, fun b hb => ?_, fun b hb => ?_, fun i hi => ?_, ?_⟩
  · rw [hK] at hb
    obtain ⟨q1, q2, q3⟩ := h1 b hb
    exact ⟨q1, by rw [hN]; exact q2, fun i => by rw [hE b (ne b (by omega))]; exact q3 i⟩
  · rw [hI _ _ _ (by decide)] at hb
    obtain ⟨i, q1, q2, q3, q4⟩ := h2 b hb
    exact ⟨i, q1, q2, by rw [hR _ _ _ (by decide)]; exact q3, by rw [hI _ _ _ (by decide)]; exact q4⟩
  · rw [hK] at hb
    obtain ⟨i, q1, q2, q3, q4⟩ := h3 b hb
    exact ⟨i, q1, q2, by rw [hN]; exact q3, fun k => by rw [hE b (ne b (by omega))]; exact q4 k⟩
  · rw [hR _ _ _ (by decide)]; exact h4 i hi
  · rw [hR _ _ _ (by decide)]; exact h5
theorem lnk.new {E : Fix} {G G' : Mem} {a : Nat} (h : lnk E G) (ha : ¬ a = 0) (hn : mK G' a < 25) (hK : ∀ b, b ≠ a → mK G' b = mK G b) (hN : ∀ b, b ≠ a → mN G' b = mN G b)
    (hI : ∀ b, b ≠ a → ∀ c k, mI G' c k b = mI G c k b) (hR : ∀ b, b ≠ a → ∀ c k, mR G' c k b = mR G c k b) (hE : ∀ b, b ≠ a → ∀ k, mE G' b k = mE G b k)
    (hT : mI G' 33 0 a = 1 → mI G 33 0 a = 1 ∧ mR G' 30 0 a = mR G 30 0 a ∧ mI G' 30 1 a = mI G 30 1 a) : lnk E G' := by
  obtain ⟨h1, h2, h3, h4, h5⟩ := h
  have ne : ∀ b, 25 ≤ mK G' b → b ≠ a := fun b hb e => by subst e; omega
  refine ⟨fun b hb => ?_, fun b hb => ?_, fun b hb => ?_, fun i hi => ?_, ?_⟩
  · have hne := ne b (by omega)
    rw [hK b hne] at hb
    obtain ⟨q1, q2, q3⟩ := h1 b hb
    exact ⟨q1, by rw [hN b hne]; exact q2, fun i => by rw [hE b hne]; exact q3 i⟩
  · by_cases hne : b = a
    · subst hne
      obtain ⟨t1, t2, t3⟩ := hT hb
      obtain ⟨i, q1, q2, q3, q4⟩ := h2 b t1
      exact ⟨i, q1, q2, t2.trans q3, t3.trans q4⟩
    · rw [hI b hne] at hb
      obtain ⟨i, q1, q2, q3, q4⟩ := h2 b hb
      exact ⟨i, q1, q2, by rw [hR b hne]; exact q3, by rw [hI b hne]; exact q4⟩
  · have hne := ne b (by omega)
    rw [hK b hne] at hb
    obtain ⟨i, q1, q2, q3, q4⟩ := h3 b hb
    exact ⟨i, q1, q2, by rw [hN b hne]; exact q3, fun k => by rw [hE b hne]; exact q4 k⟩
  · rw [hR _ (fun e => ha e.symm)]; exact h4 i hi
  · rw [hR _ (fun e => ha e.symm)]; exact h5
/-! locals -/
def LOK (ls : Array Slot) (nL : Nat) (L : Lo) : Prop := ls.size = nL ∧ lv_wf ls ∧ ∀ k v, lgo L k = some v → ls[k]? = some (.val v)
def lz (L : Lo) : List (Nat × Value) := (List.range L.length).filterMap fun k => (lgo L k).map fun v => (k, v)
theorem lgo_lt : ∀ (L : Lo) (k : Nat) (v : Value), lgo L k = some v → k < L.length
  | [], k, v, h => by cases h
  | o :: L, 0, v, h => by simp
  | o :: L, k + 1, v, h => by
    have := lgo_lt L k v h
    simp; omega
theorem mem_lz {L : Lo} {k : Nat} {v : Value} : (k, v) ∈ lz L ↔ lgo L k = some v := by
  unfold lz
  rw [List.mem_filterMap]
  refine ⟨fun ⟨q, hq, h⟩ => ?_, fun h => ⟨k, List.mem_range.mpr (lgo_lt L k v h), by rw [h]; rfl⟩⟩
  obtain ⟨w, h1, h2⟩ := Option.map_eq_some_iff.mp h
  cases h2
  exact h1
theorem LOK.has {ls : Array Slot} {nL : Nat} {L : Lo} (h : LOK ls nL L) : lv_has ls nL (lz L) := ⟨h.1, h.2.1, fun q hq => h.2.2 q.1 q.2 (mem_lz.mp hq)⟩
theorem lgo_set : ∀ (L : Lo) (i : Nat) (o : Option Value) (k : Nat) (v : Value), lgo (lset L i o) k = some v → (k = i ∧ o = some v) ∨ (k ≠ i ∧ lgo L k = some v)
  | [], i, o, k, v, h => by cases h
  | p :: L, 0, o, 0, v, h => Or.inl ⟨rfl, h⟩
  | p :: L, 0, o, k + 1, v, h => Or.inr ⟨by omega, h⟩
  | p :: L, i + 1, o, 0, v, h => Or.inr ⟨by omega, h⟩
  | p :: L, i + 1, o, k + 1, v, h => by
    rcases lgo_set L i o k v h with ⟨a, b⟩ | ⟨a, b⟩
    · exact Or.inl ⟨by omega, b⟩
    · exact Or.inr ⟨by omega, b⟩
theorem cat_isL (v : Value) : v.category = 2 ↔ isL v = true := by cases v <;> simp [Value.category, isL]
theorem cat_1 {v : Value} (h : isL v = false) : v.category = 1 := by cases v <;> simp_all [Value.category, isL]
theorem isL_rf (r : Option Nat) : isL (va_rf r) = false := by cases r <;> rfl
theorem rOf_rf (r : Option Nat) : rOf (va_rf r) = some r := by cases r <;> rfl
theorem rOf_s {v : Value} {r : Option Nat} (h : rOf v = some r) : v = va_rf r := by cases v <;> simp_all [rOf] <;> subst h <;> rfl
theorem LOK.set1 {ls' : Array Slot} {nL : Nat} {L : Lo} {i : Nat} {v : Value} (h : lv_has ls' nL ((i, v) :: (lz L).filter (fun q => !(q.1 == i) && !(q.1 + 1 == i && q.2.category == 2)))) (hn : noL L i) : LOK ls' nL (lset L i (some v)) := by
  refine ⟨h.1, h.2.1, fun k w hk => ?_⟩
  rcases lgo_set _ _ _ _ _ hk with ⟨rfl, e⟩ | ⟨hne, hk9⟩
  · cases e
    exact h.2.2 (k, v) List.mem_cons_self
  · refine h.2.2 (k, w) (List.mem_cons_of_mem _ (List.mem_filter.mpr ⟨mem_lz.mpr hk9, ?_⟩))
    simp only [Bool.and_eq_true, Bool.not_eq_true', beq_eq_false_iff_ne, ne_eq, Bool.and_eq_false_iff]
    refine ⟨hne, ?_⟩
    by_cases e : k + 1 = i
    · right
      subst e
      simp only [noL, hk9] at hn
      intro q
      rw [cat_isL] at q
      rw [q] at hn; cases hn
    · exact Or.inl e
theorem LOK.set2 {ls' : Array Slot} {nL : Nat} {L : Lo} {i : Nat} {v : Value} (h : lv_has ls' nL ((i, v) :: (lz L).filter (fun q => !(q.1 == i) && (!(q.1 == i + 1) && !(q.1 + 1 == i && q.2.category == 2))))) (hn : noL L i) : LOK ls' nL (lset (lset L i (some v)) (i + 1) none) := by
  refine ⟨h.1, h.2.1, fun k w hk => ?_⟩
  rcases lgo_set _ _ _ _ _ hk with ⟨rfl, e⟩ | ⟨hne2, hk⟩
  · cases e
  rcases lgo_set _ _ _ _ _ hk with ⟨rfl, e⟩ | ⟨hne, hk9⟩
  · cases e
    exact h.2.2 (k, v) List.mem_cons_self
  · refine h.2.2 (k, w) (List.mem_cons_of_mem _ (List.mem_filter.mpr ⟨mem_lz.mpr hk9, ?_⟩))
    simp only [Bool.and_eq_true, Bool.not_eq_true', beq_eq_false_iff_ne, ne_eq, Bool.and_eq_false_iff]
    refine ⟨hne, hne2, ?_⟩
    by_cases e : k + 1 = i
    · right
      subst e
      simp only [noL, hk9] at hn
      intro q
      rw [cat_isL] at q
      rw [q] at hn; cases hn
    · exact Or.inl e
theorem lgo_app : ∀ (A B : Lo) (k : Nat) (v : Value), lgo (A ++ B) k = some v → lgo A k = some v ∨ (A.length ≤ k ∧ lgo B (k - A.length) = some v)
  | [], B, k, v, h => Or.inr ⟨Nat.zero_le _, by simpa using h⟩
  | o :: A, B, 0, v, h => Or.inl h
  | o :: A, B, k + 1, v, h => by
    rcases lgo_app A B k v h with q | ⟨q1, q2⟩
    · exact Or.inl q
    · exact Or.inr ⟨by simp; omega, by simpa using q2⟩
theorem lgo_rep : ∀ (n k : Nat) (v : Value), ¬ lgo (List.replicate n none) k = some v
  | 0, k, v, h => by cases h
  | n + 1, 0, v, h => by cases h
  | n + 1, k + 1, v, h => lgo_rep n k v h
theorem entL_args : ∀ (vs : List Value) (i k : Nat) (v : Value), lgo (entL vs) k = some v → (i + k, v) ∈ lv_args i vs
  | [], i, k, v, h => by cases h
  | w :: vs, i, 0, v, h => by
    cases h
    exact List.mem_cons_self
  | w :: vs, i, k + 1, v, h => by
    unfold lv_args
    apply List.mem_cons_of_mem
    unfold entL at h
    by_cases hw : isL w = true
    · rw [if_pos hw] at h
      rw [if_pos ((cat_isL w).mpr hw)]
      match k, h with
      | 0, h => cases h
      | k + 1, h =>
        have := entL_args vs (i + 2) k v h
        rwa [show i + 2 + k = i + (k + 1 + 1) by omega] at this
    · rw [if_neg hw] at h
      rw [if_neg (fun q => hw ((cat_isL w).mp q))]
      have := entL_args vs (i + 1) k v h
      rwa [show i + 1 + k = i + (k + 1) by omega] at this
theorem entL_len (vs : List Value) : (lg_sl vs).length = (entL vs).length := by
  induction vs with
  | nil => rfl
  | cons v vs ih =>
    have e : lg_sl (v :: vs) = (if v.category = 2 then [.val v, .second] else [.val v]) ++ lg_sl vs := by simp [lg_sl]
    rw [e, entL]
    by_cases hv : isL v = true
    · simp [hv, (cat_isL v).mpr hv, ih]
    · have : ¬ v.category = 2 := fun q => hv ((cat_isL v).mp q)
      simp [hv, this, ih]
theorem LOK.entry {vs : List Value} {n : Nat} (h : (entL vs).length ≤ n) : LOK ((lg_sl vs ++ List.replicate (n - (lg_sl vs).length) Slot.unset).toArray) n (ent vs n) := by
  have h1 := lv_entry vs (n := n) (by rw [entL_len]; exact h)
  refine ⟨h1.1, h1.2.1, fun k v hk => ?_⟩
  rcases lgo_app _ _ _ _ hk with q | ⟨-, q⟩
  · have := entL_args vs 0 k v q
    rw [Nat.zero_add] at this
    exact h1.2.2 (k, v) this
  · exact absurd q (lgo_rep _ _ _)
theorem popI_s {S : List Value} {k : Int32 → List Value → Res} {r} (h : popI S k = some r) : ∃ x T, S = .int x :: T ∧ k x T = some r := by
  unfold popI at h; split at h
  · exact ⟨_, _, rfl, h⟩
  · cases h
theorem popJ_s {S : List Value} {k : Int64 → List Value → Res} {r} (h : popJ S k = some r) : ∃ x T, S = .long x :: T ∧ k x T = some r := by
  unfold popJ at h; split at h
  · exact ⟨_, _, rfl, h⟩
  · cases h
theorem popA_s {S : List Value} {k : Nat → List Value → Res} {r} (h : popA S k = some r) : ∃ x T, S = .ref x :: T ∧ k x T = some r := by
  unfold popA at h; split at h
  · exact ⟨_, _, rfl, h⟩
  · cases h
theorem popR_s {S : List Value} {k : Option Nat → List Value → Res} {r} (h : popR S k = some r) : ∃ x T, S = va_rf x :: T ∧ k x T = some r := by
  unfold popR at h; split at h
  · split at h
    · rename_i hr
      exact ⟨_, _, by rw [rOf_s hr], h⟩
    · cases h
  · cases h
theorem ldI_s {o : Option Value} {k : Int32 → Res} {r} (h : ldI o k = some r) : ∃ x, o = some (.int x) ∧ k x = some r := by
  unfold ldI at h; split at h
  · exact ⟨_, rfl, h⟩
  · cases h
theorem ldJ_s {o : Option Value} {k : Int64 → Res} {r} (h : ldJ o k = some r) : ∃ x, o = some (.long x) ∧ k x = some r := by
  unfold ldJ at h; split at h
  · exact ⟨_, rfl, h⟩
  · cases h
theorem ldR_s {o : Option Value} {k : Option Nat → Res} {r} (h : ldR o k = some r) : ∃ x, o = some (va_rf x) ∧ k x = some r := by
  unfold ldR at h; split at h
  · split at h
    · rename_i hr
      exact ⟨_, by rw [rOf_s hr], h⟩
    · cases h
  · cases h
end
section
/-! the machine's rows for fields, arrays and new cells, over a memory -/
def Std (E : Fix) (p : Program) (s : State) (m : MethodId) (args : Array Value) (meth : Method) (c : Code) (j : Nat) : Prop :=
  p.tables.exec = Jvm.exec ∧ c.code = cd j ∧ meth.sig.returnType = mrt j ∧ c.maxLocals = mxL j ∧ s.vm.findClass (ownN (ow j)) = some m.cls ∧ (∀ w ∈ lwG, w.before args s = true) ∧ know E s ∧ frz E s s.heap ∧ fb E ≤ s.heap.size ∧ meth.locks = false ∧ (isIni j = true → meth.name = "<init>")
def WA (E : Fix) (p : Program) (l : Launch) (e : Env) (R : Room) (s : State) (m : MethodId) (args : Array Value) (below : List Frame) (meth : Method) (c : Code) (nL : Nat) (Q : State → Prop) : Kt := fun pc L S G z cl sl =>
  ∀ (H : Heap) (locs : List Loc) (ls : Array Slot), H.size = z → holdP E G H → lnk E G → va_S (fA E) s.heap H locs → LOK ls nL L → W p l e R s m args below meth c H locs cl sl Q (F0 m pc ls S)
section Snd
variable {E : Fix} {p : Program} {l : Launch} {e : Env} {R : Room} {s : State} {m : MethodId} {args : Array Value} {below : List Frame} {meth : Method} {c : Code} {Q : State → Prop} {j : Nat} {H : Heap} {locs : List Loc} {cells slots : Nat} {pc : Nat} {ls : Array Slot} {T : List Value} {G : Mem}
theorem g_get (X : Std E p s m args meth c j) {i ci k a : Nat} (hd : decode (cd j) pc = .ok (.getfield i, 3)) (hf : fr (ow j) i = some (ci, k)) (hc : ci < 9) (hk : k < nF ci) (ha : mK G a = ci) (hh : holdP E G H)
    (kk : W p l e R s m args below meth c H locs cells slots Q (F0 m (pc + 3) ls (fv G ci a k :: T))) : W p l e R s m args below meth c H locs cells slots Q (F0 m pc ls (.ref a :: T)) := by
  obtain ⟨hx, hb, hr, hml, hown, hts, hkn, hfz, hfb, hlk, hin⟩ := X
  subst ha
  obtain ⟨-, cell, q1, q2, q3, q4⟩ := (hh a).1 hc
  obtain ⟨hS, hfc, kC, hkC, hkind⟩ := hkn.1.1 (mK G a) _ (vwCl_at _ hc)
  obtain ⟨cf, kf, fi, f, hi, hsl⟩ := hS k hk
  refine W.getf hx hb hown (hts _ (fr_word hf hc)) hi (u_facts hfc hkC (u_lays hts (lays_in hc) hk) hi).1 q1 (by rw [q3]; exact fun h => by cases h) (v := fv G (mK G a) a k) ?_ rfl rfl hd kk
  rw [hsl, q4 k hk]
theorem g_put (X : Std E p s m args meth c j) {i ci k a : Nat} {v : Value} (hd : decode (cd j) pc = .ok (.putfield i, 3)) (hf : fr (ow j) i = some (ci, k)) (hc : ci < 9) (hk : k < nF ci) (hfn : fnl j ci k = true) (ha : mK G a = ci) (hn : narrow (tyC ci k) v = v) (hfit : fits (tyC ci k) v = true) (hh : holdP E G H) (hSS : va_S (fA E) s.heap H locs)
    (kk : ∀ (H' : Heap) (locs' : List Loc), t_OB a ((fD E).1 ci) (nF ci) ((fD E).2 ci) H' (updV (fv G ci a) k v) → H'.size = H.size → (∀ q, q ≠ a → H'[q]? = H[q]?) → va_S (fA E) s.heap H' locs' → W p l e R s m args below meth c H' locs' cells slots Q (F0 m (pc + 3) ls T)) :
    W p l e R s m args below meth c H locs cells slots Q (F0 m pc ls (v :: .ref a :: T)) := by
  obtain ⟨hx, hb, hr, hml, hown, hts, hkn, hfz, hfb, hlk, hin⟩ := X
  subst ha
  obtain ⟨haA, cell, q1, q2, q3, q4⟩ := (hh a).1 hc
  have hap := va_apart (own := ownN (ow j)) hts (lays_in hc) (tyC (mK G a)) (fun k hk => (ty_at hc hk).1) (nmD_at hc) hkn.1 (vwCl_at _ hc)
  obtain ⟨hS, hfc, kC, hkC, hkind⟩ := hkn.1.1 (mK G a) _ (vwCl_at _ hc)
  obtain ⟨cf, kf, fi, f, hi, hsl⟩ := hS k hk
  have hst := (u_facts hfc hkC (u_lays hts (lays_in hc) hk) hi).1
  have hlink := hts _ (fr_word hf hc)
  have fin : ∀ H' : Heap, H'[a]? = some (cell.setSlot f.slot v) → H'.size = H.size → (∀ q, q ≠ a → H'[q]? = H[q]?) → W p l e R s m args below meth c H' (locs ++ [⟨a, f.slot⟩]) cells slots Q (F0 m (pc + 3) ls T) := by
    intro H' e1 e2 e3
    refine kk H' _ ⟨_, e1, q2, q3, ?_⟩ e2 e3 (hSS.put e2 e3 haA)
    rw [hsl]
    exact t_set q4 hap hk v
  by_cases hfin : (cT (mK G a) k).2.2.2 = true
  · have hlay := hts _ (lays_in hc _ (u_in_lay hk))
    unfold u_lay at hlay
    rw [if_pos hfin] at hlay
    have hfn2 : isIni j = true ∧ ow j = mK G a := by
      unfold fnl at hfn
      rw [hfin] at hfn
      simpa using hfn
    have hcf : m.cls = cf := by
      obtain ⟨_, _, c', _, _, _, -, -, hf', -, -, -, hown2, -⟩ := Cond.laysFinal_spec hlay
      have e1 : c' = cf := by have := hi.symm.trans hf'; simp at this; exact this.1.symm
      rw [(ty_at hc hk).2.1, ← hfn2.2] at hown2
      rw [← e1]; exact Option.some.inj (hown.symm.trans hown2)
    have h6 := u_fits hfc hkC hkind (Or.inr hlay) hi (ty_at hc hk).1 hn hfit
    exact W.putFinK hx hb hown hlink hi hst hcf (hin hfn2.1) (by rw [q2]; exact h6) q1 q3 (by rw [hsl]; exact k2_hasslot (q4 k hk)) rfl rfl hd fin
  · have hlay := hts _ (lays_in hc _ (u_in_lay hk))
    unfold u_lay at hlay
    rw [if_neg hfin] at hlay
    have h6 := u_store hfc hkC hkind hlay hi (ty_at hc hk).1 hn hfit
    exact W.putK hx hb (f := f) ⟨hown, hlink, ⟨_, _, _, hi⟩, hst⟩ (by rw [q2]; exact h6) q1 q3 (by rw [hsl]; exact k2_hasslot (q4 k hk)) rfl rfl hd fin
/-- arrays: what the tables say of their classes -/
theorem k_ar (X : Std E p s m args meth c j) : (ArrOfT s (fcy E 20) .int ∧ va_RA s (fcy E 20) .int) ∧ (ArrOfT s (fcy E 21) .byte ∧ va_RA s (fcy E 21) .byte) ∧ (ArrOfT s (fcy E 22) .boolean ∧ va_RA s (fcy E 22) .boolean) ∧ (ArrOfT s (fcy E 23) (.object RX4) ∧ va_RA s (fcy E 23) (.object RX4)) ∧ (ArrOfT s (fcy E 24) (.object RX6) ∧ va_RA s (fcy E 24) (.object RX6)) := by
  have h := X.2.2.2.2.2.2.1.1.2
  exact ⟨h 0 _ rfl, h 1 _ rfl, h 2 _ rfl, h 3 _ rfl, h 4 _ rfl⟩
theorem vp_lt {i : Int32} {n : Nat} (h : vp_in i n) : i.toNatClampNeg < n := Nat.not_le.mp fun q => h (Or.inr q)
theorem av_i {a : Nat} (h : mK G a < 23) : av G a = fun i => .int (mE G a i) := by
  funext i; simp only [av, if_pos h]
theorem av_q {a : Nat} (h : ¬ mK G a < 23) : av G a = fun i => va_rf (mQ G a i) := by
  funext i; simp only [av, if_neg h]
theorem g_iald (X : Std E p s m args meth c j) {a : Nat} {i : Int32} (hd : decode (cd j) pc = .ok (.iaload, 1)) (ha : mK G a = 20) (hin : vp_in i (mN G a)) (hh : holdP E G H)
    (kk : W p l e R s m args below meth c H locs cells slots Q (F0 m (pc + 1) ls (.int (mE G a i.toNatClampNeg) :: T))) : W p l e R s m args below meth c H locs cells slots Q (F0 m pc ls (.int i :: .ref a :: T)) := by
  have hka := (k_ar X).1
  obtain ⟨-, hc⟩ := (hh a).2 (by omega) (by omega)
  rw [av_i (by omega), ha] at hc
  exact W.iald (v := .int (mE G a i.toNatClampNeg)) X.1 X.2.1 hc (hka.1 _ _) (fun q => by cases q) (by rw [arrV_size]; exact hin) (by rw [arrV_read _ _ (vp_lt hin)]) rfl rfl hd kk
theorem g_bald (X : Std E p s m args meth c j) {a : Nat} {i : Int32} (hd : decode (cd j) pc = .ok (.baload, 1)) (ha : mK G a = 21 ∨ mK G a = 22) (hin : vp_in i (mN G a)) (hh : holdP E G H)
    (kk : W p l e R s m args below meth c H locs cells slots Q (F0 m (pc + 1) ls (.int (mE G a i.toNatClampNeg) :: T))) : W p l e R s m args below meth c H locs cells slots Q (F0 m pc ls (.int i :: .ref a :: T)) := by
  obtain ⟨-, hc⟩ := (hh a).2 (by omega) (by omega)
  rw [av_i (by omega)] at hc
  rcases ha with ha | ha
  · rw [ha] at hc
    exact W.bald (v := .int (mE G a i.toNatClampNeg)) X.1 X.2.1 hc ((k_ar X).2.1.1 _ _) (fun q => by cases q) (by rw [arrV_size]; exact hin) (by rw [arrV_read _ _ (vp_lt hin)]) rfl rfl hd kk
  · rw [ha] at hc
    exact W.zald (v := .int (mE G a i.toNatClampNeg)) X.1 X.2.1 hc ((k_ar X).2.2.1.1 _ _) (fun q => by cases q) (by rw [arrV_size]; exact hin) (by rw [arrV_read _ _ (vp_lt hin)]) rfl rfl hd kk
theorem g_aald (X : Std E p s m args meth c j) {a : Nat} {i : Int32} (hd : decode (cd j) pc = .ok (.aaload, 1)) (ha : mK G a = 23 ∨ mK G a = 24) (hin : vp_in i (mN G a)) (hh : holdP E G H)
    (kk : W p l e R s m args below meth c H locs cells slots Q (F0 m (pc + 1) ls (va_rf (mQ G a i.toNatClampNeg) :: T))) : W p l e R s m args below meth c H locs cells slots Q (F0 m pc ls (.int i :: .ref a :: T)) := by
  obtain ⟨-, hc⟩ := (hh a).2 (by omega) (by omega)
  rw [av_q (by omega)] at hc
  rcases ha with ha | ha
  · rw [ha] at hc
    exact W.aald (v := va_rf (mQ G a i.toNatClampNeg)) (ty := .object RX4) X.1 X.2.1 hc ((k_ar X).2.2.2.1.1 _ _) rfl (fun q => by cases q) (by rw [arrV_size]; exact hin) (by rw [arrV_read _ _ (vp_lt hin)]) rfl rfl hd kk
  · rw [ha] at hc
    exact W.aald (v := va_rf (mQ G a i.toNatClampNeg)) (ty := .object RX6) X.1 X.2.1 hc ((k_ar X).2.2.2.2.1 _ _) rfl (fun q => by cases q) (by rw [arrV_size]; exact hin) (by rw [arrV_read _ _ (vp_lt hin)]) rfl rfl hd kk
theorem g_alen (X : Std E p s m args meth c j) {a : Nat} (hd : decode (cd j) pc = .ok (.arraylength, 1)) (ha : 20 ≤ mK G a ∧ mK G a ≤ 24) (hh : holdP E G H)
    (kk : W p l e R s m args below meth c H locs cells slots Q (F0 m (pc + 1) ls (.int (Int32.ofNat (mN G a)) :: T))) : W p l e R s m args below meth c H locs cells slots Q (F0 m pc ls (.ref a :: T)) := by
  obtain ⟨-, hc⟩ := (hh a).2 ha.1 ha.2
  have hty : ∃ ty, ArrOfT s (fcy E (mK G a)) ty := by
    obtain ⟨h0, h1, h2, h3, h4⟩ := k_ar X
    rcases (show mK G a = 20 ∨ mK G a = 21 ∨ mK G a = 22 ∨ mK G a = 23 ∨ mK G a = 24 by omega) with q | q | q | q | q <;> rw [q]
    · exact ⟨_, h0.1⟩
    · exact ⟨_, h1.1⟩
    · exact ⟨_, h2.1⟩
    · exact ⟨_, h3.1⟩
    · exact ⟨_, h4.1⟩
  obtain ⟨ty, hty⟩ := hty
  exact W.alen X.1 X.2.1 hc (hty _ _) (by rw [arrV_size]) rfl rfl hd kk
theorem g_iast (X : Std E p s m args meth c j) {a : Nat} {i x : Int32} (hd : decode (cd j) pc = .ok (.iastore, 1)) (ha : mK G a = 20) (hin : vp_in i (mN G a)) (hh : holdP E G H) (hSS : va_S (fA E) s.heap H locs)
    (kk : ∀ (H' : Heap) (locs' : List Loc), holdP E (pE G a i.toNatClampNeg x) H' → H'.size = H.size → va_S (fA E) s.heap H' locs' → W p l e R s m args below meth c H' locs' cells slots Q (F0 m (pc + 1) ls T)) :
    W p l e R s m args below meth c H locs cells slots Q (F0 m pc ls (.int x :: .int i :: .ref a :: T)) := by
  obtain ⟨haA, hc⟩ := (hh a).2 (by omega) (by omega)
  have hc0 := hc
  rw [av_i (by omega)] at hc
  have hc2 := hc
  rw [ha] at hc2
  refine W.iast X.1 X.2.1 hc2 ((k_ar X).1.1 _ _) (fun q => by cases q) (by rw [arrV_size]; exact hin) rfl rfl hd fun H' e1 e2 e3 => ?_
  refine kk H' _ (hh.upd (a := a) (fun _ => rfl) (fun _ => rfl) (fun _ _ _ _ => rfl) (fun _ _ _ _ => rfl) (fun b hb k => ?_) (fun _ _ _ => rfl) e3 ⟨fun q => absurd q (by omega), fun _ _ => ⟨haA, ?_⟩⟩) e2 (hSS.put e2 e3 haA)
  · simp only [memS, hb, false_and, if_false]
  · rw [e1, ha, arrV_store]
    congr 2
    funext q
    have hk : mK (pE G a i.toNatClampNeg x) a < 23 := by simp only [memS]; omega
    rw [av_i hk]
    by_cases hq : q = i.toNatClampNeg
    · subst hq; simp [updV, memS]
    · simp [updV, memS, hq]
theorem g_bast (X : Std E p s m args meth c j) {a : Nat} {i x : Int32} (hd : decode (cd j) pc = .ok (.bastore, 1)) (ha : mK G a = 21 ∨ mK G a = 22) (hin : vp_in i (mN G a)) (hh : holdP E G H) (hSS : va_S (fA E) s.heap H locs)
    (kk : ∀ (H' : Heap) (locs' : List Loc), holdP E (pE G a i.toNatClampNeg (if mK G a = 22 then x &&& 1 else x.toInt8.toInt32)) H' → H'.size = H.size → va_S (fA E) s.heap H' locs' → W p l e R s m args below meth c H' locs' cells slots Q (F0 m (pc + 1) ls T)) :
    W p l e R s m args below meth c H locs cells slots Q (F0 m pc ls (.int x :: .int i :: .ref a :: T)) := by
  obtain ⟨haA, hc⟩ := (hh a).2 (by omega) (by omega)
  rw [av_i (by omega)] at hc
  have fin : ∀ (v : Int32) (H' : Heap), H'[a]? = some ((arrV (fcy E (mK G a)) (mN G a) (fun i => .int (mE G a i))).setSlot i.toNatClampNeg (.int v)) → H'.size = H.size → (∀ q, q ≠ a → H'[q]? = H[q]?) → holdP E (pE G a i.toNatClampNeg v) H' := by
    intro v H' e1 e2 e3
    refine hh.upd (a := a) (fun _ => rfl) (fun _ => rfl) (fun _ _ _ _ => rfl) (fun _ _ _ _ => rfl) (fun b hb k => ?_) (fun _ _ _ => rfl) e3 ⟨fun q => absurd q (by omega), fun _ _ => ⟨haA, ?_⟩⟩
    · simp only [memS, hb, false_and, if_false]
    · rw [e1, arrV_store]
      congr 2
      funext q
      have hk : mK (pE G a i.toNatClampNeg v) a < 23 := by simp only [memS]; omega
      rw [av_i hk]
      by_cases hq : q = i.toNatClampNeg
      · subst hq; simp [updV, memS]
      · simp [updV, memS, hq]
  rcases ha with ha | ha
  · have hc2 := hc
    rw [ha] at hc2
    rw [if_neg (by omega)] at kk
    refine W.bast X.1 X.2.1 hc2 ((k_ar X).2.1.1 _ _) (fun q => by cases q) (by rw [arrV_size]; exact hin) rfl rfl hd fun H' e1 e2 e3 => ?_
    exact kk H' _ (fin _ H' (by rw [ha]; exact e1) e2 e3) e2 (hSS.put e2 e3 haA)
  · have hc2 := hc
    rw [ha] at hc2
    rw [if_pos ha] at kk
    refine W.zast X.1 X.2.1 hc2 ((k_ar X).2.2.1.1 _ _) (fun q => by cases q) (by rw [arrV_size]; exact hin) rfl rfl hd fun H' e1 e2 e3 => ?_
    exact kk H' _ (fin _ H' (by rw [ha]; exact e1) e2 e3) e2 (hSS.put e2 e3 haA)
theorem g_aast (X : Std E p s m args meth c j) {a : Nat} {i : Int32} {r : Option Nat} (hd : decode (cd j) pc = .ok (.aastore, 1)) (ha : (mK G a = 23 ∧ ∀ b, r = some b → mK G b = 4) ∨ (mK G a = 24 ∧ ∀ b, r = some b → mK G b = 6)) (hin : vp_in i (mN G a)) (hh : holdP E G H) (hSS : va_S (fA E) s.heap H locs)
    (kk : ∀ (H' : Heap) (locs' : List Loc), holdP E (pQ G a i.toNatClampNeg r) H' → H'.size = H.size → va_S (fA E) s.heap H' locs' → W p l e R s m args below meth c H' locs' cells slots Q (F0 m (pc + 1) ls T)) :
    W p l e R s m args below meth c H locs cells slots Q (F0 m pc ls (va_rf r :: .int i :: .ref a :: T)) := by
  have hk : 23 ≤ mK G a ∧ mK G a ≤ 24 := by omega
  obtain ⟨haA, hc⟩ := (hh a).2 (by omega) (by omega)
  rw [av_q (by omega)] at hc
  have fin : ∀ (H' : Heap), H'[a]? = some ((arrV (fcy E (mK G a)) (mN G a) (fun i => va_rf (mQ G a i))).setSlot i.toNatClampNeg (va_rf r)) → H'.size = H.size → (∀ q, q ≠ a → H'[q]? = H[q]?) → holdP E (pQ G a i.toNatClampNeg r) H' := by
    intro H' e1 e2 e3
    refine hh.upd (a := a) (fun _ => rfl) (fun _ => rfl) (fun _ _ _ _ => rfl) (fun _ _ _ _ => rfl) (fun _ _ _ => rfl) (fun b hb k => ?_) e3 ⟨fun q => absurd q (by omega), fun _ _ => ⟨haA, ?_⟩⟩
    · simp only [memS, hb, false_and, if_false]
    · rw [e1, arrV_store]
      congr 2
      funext q
      have hk : ¬ mK (pQ G a i.toNatClampNeg r) a < 23 := by simp only [memS]; omega
      rw [av_q hk]
      by_cases hq : q = i.toNatClampNeg
      · subst hq; simp [updV, memS]
      · simp [updV, memS, hq]
  have key : ∀ (C : String) (ci : Nat), ci < 9 → C = ownN ci → ArrOfT s (fcy E (mK G a)) (.object C) → va_RA s (fcy E (mK G a)) (.object C) → (∀ b, r = some b → mK G b = ci) → W p l e R s m args below meth c H locs cells slots Q (F0 m pc ls (va_rf r :: .int i :: .ref a :: T)) := by
    intro C ci hci hC h1 h2 h3
    cases r with
    | none =>
      refine va_WaastN (C := C) X.1 X.2.1 hc (h1 _ _) (fun h => by cases h) (by rw [arrV_size]; exact hin) rfl rfl hd fun H1 e z oq => ?_
      exact kk H1 _ (fin H1 e z oq) z (hSS.put z oq haA)
    | some v =>
      have hv := h3 v rfl
      obtain ⟨kA, comp, k1, k2, k3, -⟩ := h2
      obtain ⟨-, cellV, g1, g2, g3, -⟩ := (hh v).1 (by omega)
      have hcls := (X.2.2.2.2.2.2.1.1.1 ci _ (vwCl_at ci hci)).2
      have hcomp : comp = (fD E).1 ci := by rw [hC] at k3; exact Option.some.inj (k3.symm.trans hcls.1)
      subst hcomp
      obtain ⟨kC, hkC, -⟩ := hcls.2
      rw [hv] at g2
      refine W.aast X.1 X.2.1 hc (fun q h => by cases h) (fun h => by cases h) k1 k2 rfl hkC ⟨fun q => hin (Or.inl q), by rw [arrV_size]; exact vp_lt hin⟩ g1 (fun q h => by rw [g3] at h; cases h) (by rw [g2]; exact hkC) (by rw [g2]; exact va_assign hcls) rfl rfl hd fun H1 e z oq => ?_
      exact kk H1 _ (fin H1 e z oq) z (hSS.put z oq haA)
  obtain ⟨-, -, -, h3, h4⟩ := k_ar X
  rcases ha with ⟨ha, hb⟩ | ⟨ha, hb⟩
  · exact key RX4 4 (by omega) rfl (by rw [ha]; exact h3.1) (by rw [ha]; exact h3.2) hb
  · exact key RX6 6 (by omega) rfl (by rw [ha]; exact h4.1) (by rw [ha]; exact h4.2) hb
theorem va_S.grow {A : Nat → Prop} {H0 H H' : Heap} {locs : List Loc} (h : va_S A H0 H locs) (z : H'.size = H.size + 1) (o : ∀ q, q < H.size → H'[q]? = H[q]?) : va_S A H0 H' locs :=
  ⟨by rw [z]; exact Nat.le_succ_of_le h.1, fun q h1 h2 => (o q (Nat.lt_of_lt_of_le h1 h.1)).trans (h.2.1 q h1 h2), h.2.2⟩
theorem g_new (X : Std E p s m args meth c j) {i ci : Nat} (hd : decode (cd j) pc = .ok (.new i, 3)) (hf : cr (ow j) i = some ci) (hh : holdP E G H) (hSS : va_S (fA E) s.heap H locs) (hcells : cells + 1 ≤ R.cells) (hslots : slots + nF ci ≤ R.slots)
    (kk : ∀ (H' : Heap), holdP E (nO G H.size ci) H' → H'.size = H.size + 1 → va_S (fA E) s.heap H' locs → W p l e R s m args below meth c H' locs (cells + 1) (slots + nF ci) Q (F0 m (pc + 3) ls (.ref H.size :: T))) :
    W p l e R s m args below meth c H locs cells slots Q (F0 m pc ls T) := by
  obtain ⟨hcl, hc⟩ := cr_at hf
  obtain ⟨hx, hb, hr, hml, hown, hts, hkn, hfz, hfb, hlk, hin⟩ := X
  have hKn := hkn.1.1 ci _ (vwCl_at ci hc)
  refine W.newcK hx hb hown (hts _ hcl) (hts _ (ins_at hc).1) (hts _ (ins_at hc).2) rfl hd hcells hslots hKn.2.1 rfl fun H1 kC hkC e1 z1 o1 => ?_
  have hbo := u_born (tyC ci) hts (lays_in hc) hKn hkC e1 (fun k hk => (ty_at hc hk).1)
  refine kk H1 (hh.new (a := H.size) rfl (fun b hb => ?_) (fun _ _ => rfl) (fun b hb _ _ => ?_) (fun b hb _ _ => ?_) (fun _ _ _ => rfl) (fun _ _ _ => rfl) o1 ⟨fun q => ?_, fun q => ?_⟩) z1 (hSS.grow z1 o1)
  · simp only [memS, hb, if_false]
  · simp only [memS, hb, if_false]
  · simp only [memS, hb, if_false]
  · have hk : mK (nO G H.size ci) H.size = ci := by simp only [memS, if_true]
    rw [hk]
    refine ⟨Nat.le_trans hfb hSS.1, hbo.to fun k hk2 => ?_⟩
    rw [(ty_at hc hk2).2.2]
    simp only [fv, memS, if_true]
    rfl
  · have hk : mK (nO G H.size ci) H.size = ci := by simp only [memS, if_true]
    rw [hk] at q
    omega
theorem g_newA (X : Std E p s m args meth c j) {kd N : Nat} {cA : ClassId} {H1 : Heap} (hk : 20 ≤ kd ∧ kd ≤ 24) (hcA : cA = fcy E kd) (hh : holdP E G H) (hSS : va_S (fA E) s.heap H locs) (e1 : H1[H.size]? = some (arrV cA N (fun _ => if kd < 23 then .int 0 else .null))) (o1 : ∀ q, q < H.size → H1[q]? = H[q]?) : holdP E (nA G H.size kd N) H1 := by
  have hk0 : mK (nA G H.size kd N) H.size = kd := by simp only [memS, if_true]
  have hfb := X.2.2.2.2.2.2.2.2.1
  refine hh.new (a := H.size) rfl (fun b hb => ?_) (fun b hb => ?_) (fun _ _ _ _ => rfl) (fun _ _ _ _ => rfl) (fun b hb _ => ?_) (fun b hb _ => ?_) o1 ⟨fun q => ?_, fun q1 q2 => ⟨Nat.le_trans hfb hSS.1, ?_⟩⟩
  · simp only [memS, hb, if_false]
  · simp only [memS, hb, if_false]
  · simp only [memS, hb, if_false]
  · simp only [memS, hb, if_false]
  · rw [hk0] at q; omega
  · rw [hk0, e1, hcA]
    have hN : mN (nA G H.size kd N) H.size = N := by simp only [memS, if_true]
    rw [hN]
    congr 2
    funext q
    simp only [av, hk0, memS, if_true]
    rfl
end Snd
end
section
/-! one instruction that neither calls nor returns, on the machine -/
section Snd
variable {E : Fix} {p : Program} {l : Launch} {e : Env} {R : Room} {s : State} {m : MethodId} {args : Array Value} {below : List Frame} {meth : Method} {c : Code} {Q : State → Prop} {j : Nat}
theorem jto_ok {pc : Nat} {off : Int} (h : jok pc off) : (pc : Int) + off = (jto pc off : Nat) := by
  unfold jto jok at *
  omega
theorem cats {v : Value} (h : isL v = false) : v.category = 1 := cat_1 h
theorem nar_ref {ci k : Nat} (h : isR ci k = true) (r : Option Nat) : narrow (tyC ci k) (va_rf r) = va_rf r ∧ fits (tyC ci k) (va_rf r) = true := by
  unfold isR at h
  generalize tyC ci k = ty at h ⊢
  cases ty <;> simp at h <;> cases r <;> exact ⟨rfl, rfl⟩
set_option maxHeartbeats 4000000 in
theorem snd_next (X : Std E p s m args meth c j) (hRc : mcq j ≤ R.cells) (hRs : msq j ≤ R.slots) {K : Kt} (hK : ∀ pc L S G z cl sl, K pc L S G z cl sl → WA E p l e R s m args below meth c (mxL j) Q pc L S G z cl sl)
    {il : Instr × Nat} {pc : Nat} {L : Lo} {S : List Value} {G : Mem} {z cl sl : Nat} (hd : decode (cd j) pc = .ok il) {ps pc' L' S' G' z' cl' sl'} (h : inext j il pc L S G z cl sl = some (ps, pc', L', S', G', z', cl', sl')) (hc : cnd ps (K pc' L' S' G' z' cl' sl')) :
    WA E p l e R s m args below meth c (mxL j) Q pc L S G z cl sl := by
  have hx := X.1
  have hb := X.2.1
  have hown := X.2.2.2.2.1
  have hts := X.2.2.2.2.2.1
  have hkn := X.2.2.2.2.2.2.1
  have hfz := X.2.2.2.2.2.2.2.1
  have hfb := X.2.2.2.2.2.2.2.2.1
  intro H locs ls hz hh hl hS hL
  unfold inext at h
  split at h
  -- iconst bipush sipush lconst aconst_null
  · cases h; exact lv_iconst hx hb hd rfl (hK _ _ _ _ _ _ _ hc H locs ls hz hh hl hS hL)
  · cases h; exact lv_bipush hx hb hd rfl (hK _ _ _ _ _ _ _ hc H locs ls hz hh hl hS hL)
  · cases h; exact lv_sipush hx hb hd rfl (hK _ _ _ _ _ _ _ hc H locs ls hz hh hl hS hL)
  · cases h; exact lv_lconst hx hb hd rfl (hK _ _ _ _ _ _ _ hc H locs ls hz hh hl hS hL)
  · cases h; exact lv_null hx hb hd (hK _ _ _ _ _ _ _ hc H locs ls hz hh hl hS hL)
  -- ldc
  · split at h
    · rename_i hk
      cases h; exact lv_ldc hx hb hown (hts _ (kI_at hk)) hd (hK _ _ _ _ _ _ _ hc H locs ls hz hh hl hS hL)
    · split at h
      · rename_i q hk
        obtain ⟨e1, e2, e3⟩ := kS_at hk
        have hm := hl.2.2.2.1 q e2
        have hR := hkn.2.2.2.2 q e2
        rw [List.getD_eq_getElem?_getD, e3] at hR
        rw [e1] at hown
        cases h
        have hc := hK _ _ _ _ _ _ _ hc H locs ls hz hh hl hS hL
        rw [hm] at hc
        exact va_ldcS hx hb hown hR hd hc
      · cases h
  · split at h
    · rename_i hk
      cases h; exact lv_ldcw hx hb hown (hts _ (kI_at hk)) hd (hK _ _ _ _ _ _ _ hc H locs ls hz hh hl hS hL)
    · cases h
  · split at h
    · rename_i hk
      cases h; exact lv_ldc2 hx hb hown (hts _ (kL_at hk)) hd (hK _ _ _ _ _ _ _ hc H locs ls hz hh hl hS hL)
    · cases h
  -- loads
  · obtain ⟨x, hg, hP⟩ := ldI_s h
    cases hP; exact lv_iload_n hx hb hd rfl (hL.2.2 _ _ hg) (hK _ _ _ _ _ _ _ hc H locs ls hz hh hl hS hL)
  · obtain ⟨x, hg, hP⟩ := ldI_s h
    cases hP; exact lv_iload hx hb hd (hL.2.2 _ _ hg) (hK _ _ _ _ _ _ _ hc H locs ls hz hh hl hS hL)
  · obtain ⟨x, hg, hP⟩ := ldJ_s h
    cases hP; exact lv_lload_n hx hb hd rfl (hL.2.2 _ _ hg) (hK _ _ _ _ _ _ _ hc H locs ls hz hh hl hS hL)
  · obtain ⟨r, hg, hP⟩ := ldR_s h
    cases hP
    have hc := hK _ _ _ _ _ _ _ hc H locs ls hz hh hl hS hL
    cases r with
    | none => exact lv_aload_nN hx hb hd rfl (hL.2.2 _ _ hg) hc
    | some a => exact lv_aload_n hx hb hd rfl (hL.2.2 _ _ hg) hc
  · obtain ⟨r, hg, hP⟩ := ldR_s h
    cases hP
    have hc := hK _ _ _ _ _ _ _ hc H locs ls hz hh hl hS hL
    cases r with
    | none => exact lv_aloadN hx hb hd (hL.2.2 _ _ hg) hc
    | some a => exact lv_aload hx hb hd (hL.2.2 _ _ hg) hc
  -- stores
  · obtain ⟨x, T, rfl, hP⟩ := popI_s h
    cases hP
    obtain ⟨h1, h2, hc⟩ := hc
    exact lv_istore_n hx hb hd rfl hL.has h1 rfl (fun ls' hl' => hK _ _ _ _ _ _ _ hc H locs ls' hz hh hl hS (LOK.set1 hl' h2))
  · obtain ⟨x, T, rfl, hP⟩ := popI_s h
    cases hP
    obtain ⟨h1, h2, hc⟩ := hc
    exact lv_istore hx hb hd hL.has h1 rfl (fun ls' hl' => hK _ _ _ _ _ _ _ hc H locs ls' hz hh hl hS (LOK.set1 hl' h2))
  · obtain ⟨r, T, rfl, hP⟩ := popR_s h
    cases hP
    obtain ⟨h1, h2, hc⟩ := hc
    cases r with
    | none => exact lv_astore_nN hx hb hd rfl hL.has h1 rfl (fun ls' hl' => hK _ _ _ _ _ _ _ hc H locs ls' hz hh hl hS (LOK.set1 hl' h2))
    | some a => exact lv_astore_n hx hb hd rfl hL.has h1 rfl (fun ls' hl' => hK _ _ _ _ _ _ _ hc H locs ls' hz hh hl hS (LOK.set1 hl' h2))
  · obtain ⟨r, T, rfl, hP⟩ := popR_s h
    cases hP
    obtain ⟨h1, h2, hc⟩ := hc
    cases r with
    | none => exact lv_astoreN hx hb hd hL.has h1 rfl (fun ls' hl' => hK _ _ _ _ _ _ _ hc H locs ls' hz hh hl hS (LOK.set1 hl' h2))
    | some a => exact lv_astore hx hb hd hL.has h1 rfl (fun ls' hl' => hK _ _ _ _ _ _ _ hc H locs ls' hz hh hl hS (LOK.set1 hl' h2))
  · obtain ⟨x, T, rfl, hP⟩ := popJ_s h
    cases hP
    obtain ⟨h1, h2, hc⟩ := hc
    exact lv_lstore_n hx hb hd rfl hL.has h1 rfl (fun ls' hl' => hK _ _ _ _ _ _ _ hc H locs ls' hz hh hl hS (LOK.set2 hl' h2))
  · obtain ⟨x, hg, hP⟩ := ldI_s h
    cases hP
    obtain ⟨h1, h2, hc⟩ := hc
    obtain ⟨q, hq⟩ := List.getElem?_of_mem (mem_lz.mpr hg)
    exact lv_iinc hx hb hd hL.has hq rfl h1 rfl (fun ls' hl' => hK _ _ _ _ _ _ _ hc H locs ls' hz hh hl hS (LOK.set1 hl' h2))
  -- arithmetic: iadd isub imul idiv iand ior ixor ineg ishl ishr iushr i2b i2c i2l lor lshl lcmp
  · obtain ⟨y, T, rfl, hP⟩ := popI_s h
    obtain ⟨x, T2, rfl, hQ⟩ := popI_s hP
    cases hQ; exact lv_iadd hx hb hd (hK _ _ _ _ _ _ _ hc H locs ls hz hh hl hS hL)
  · obtain ⟨y, T, rfl, hP⟩ := popI_s h
    obtain ⟨x, T2, rfl, hQ⟩ := popI_s hP
    cases hQ; exact lv_isub hx hb hd (hK _ _ _ _ _ _ _ hc H locs ls hz hh hl hS hL)
  · obtain ⟨y, T, rfl, hP⟩ := popI_s h
    obtain ⟨x, T2, rfl, hQ⟩ := popI_s hP
    cases hQ; exact lv_imul hx hb hd (hK _ _ _ _ _ _ _ hc H locs ls hz hh hl hS hL)
  · obtain ⟨y, T, rfl, hP⟩ := popI_s h
    obtain ⟨x, T2, rfl, hQ⟩ := popI_s hP
    cases hQ; exact lv_idiv hx hb hd hc.1 (hK _ _ _ _ _ _ _ hc.2 H locs ls hz hh hl hS hL)
  · obtain ⟨y, T, rfl, hP⟩ := popI_s h
    obtain ⟨x, T2, rfl, hQ⟩ := popI_s hP
    cases hQ; exact lv_iand hx hb hd (hK _ _ _ _ _ _ _ hc H locs ls hz hh hl hS hL)
  · obtain ⟨y, T, rfl, hP⟩ := popI_s h
    obtain ⟨x, T2, rfl, hQ⟩ := popI_s hP
    cases hQ; exact lv_ior hx hb hd (hK _ _ _ _ _ _ _ hc H locs ls hz hh hl hS hL)
  · obtain ⟨y, T, rfl, hP⟩ := popI_s h
    obtain ⟨x, T2, rfl, hQ⟩ := popI_s hP
    cases hQ; exact lv_ixor hx hb hd (hK _ _ _ _ _ _ _ hc H locs ls hz hh hl hS hL)
  · obtain ⟨x, T, rfl, hP⟩ := popI_s h
    cases hP; exact lv_ineg hx hb hd (hK _ _ _ _ _ _ _ hc H locs ls hz hh hl hS hL)
  · obtain ⟨y, T, rfl, hP⟩ := popI_s h
    obtain ⟨x, T2, rfl, hQ⟩ := popI_s hP
    cases hQ; exact lv_ishl hx hb hd (hK _ _ _ _ _ _ _ hc H locs ls hz hh hl hS hL)
  · obtain ⟨y, T, rfl, hP⟩ := popI_s h
    obtain ⟨x, T2, rfl, hQ⟩ := popI_s hP
    cases hQ; exact lv_ishr hx hb hd (hK _ _ _ _ _ _ _ hc H locs ls hz hh hl hS hL)
  · obtain ⟨y, T, rfl, hP⟩ := popI_s h
    obtain ⟨x, T2, rfl, hQ⟩ := popI_s hP
    cases hQ; exact lv_iushr hx hb hd rfl (hK _ _ _ _ _ _ _ hc H locs ls hz hh hl hS hL)
  · obtain ⟨x, T, rfl, hP⟩ := popI_s h
    cases hP; exact lv_i2b hx hb hd rfl (hK _ _ _ _ _ _ _ hc H locs ls hz hh hl hS hL)
  · obtain ⟨x, T, rfl, hP⟩ := popI_s h
    cases hP; exact lv_i2c hx hb hd rfl (hK _ _ _ _ _ _ _ hc H locs ls hz hh hl hS hL)
  · obtain ⟨x, T, rfl, hP⟩ := popI_s h
    cases hP; exact lv_i2l hx hb hd rfl (hK _ _ _ _ _ _ _ hc H locs ls hz hh hl hS hL)
  · obtain ⟨y, T, rfl, hP⟩ := popJ_s h
    obtain ⟨x, T2, rfl, hQ⟩ := popJ_s hP
    cases hQ; exact lv_lor hx hb hd (hK _ _ _ _ _ _ _ hc H locs ls hz hh hl hS hL)
  · obtain ⟨y, T, rfl, hP⟩ := popI_s h
    obtain ⟨x, T2, rfl, hQ⟩ := popJ_s hP
    cases hQ; exact lv_lshl hx hb hd rfl (hK _ _ _ _ _ _ _ hc H locs ls hz hh hl hS hL)
  · obtain ⟨y, T, rfl, hP⟩ := popJ_s h
    obtain ⟨x, T2, rfl, hQ⟩ := popJ_s hP
    cases hQ; exact W.lcmp hx hb hd (hK _ _ _ _ _ _ _ hc H locs ls hz hh hl hS hL)
  -- dup dup2 pop
  · split at h
    · cases h; exact lv_dup hx hb hd (cat_1 hc.1) (hK _ _ _ _ _ _ _ hc.2 H locs ls hz hh hl hS hL)
    · cases h
  · split at h
    · cases h; exact lv_dup2_11 hx hb hd (cat_1 hc.1) (cat_1 hc.2.1) (hK _ _ _ _ _ _ _ hc.2.2 H locs ls hz hh hl hS hL)
    · cases h
  · split at h
    · cases h; exact lv_pop hx hb hd (cat_1 hc.1) (hK _ _ _ _ _ _ _ hc.2 H locs ls hz hh hl hS hL)
    · cases h
  -- goto ifs
  · cases h; exact lv_goto hx hb hd (jto_ok hc.1) (hK _ _ _ _ _ _ _ hc.2 H locs ls hz hh hl hS hL)
  · rename_i cc off
    obtain ⟨x, T, rfl, hP⟩ := popI_s h
    cases hP
    have hj := jto_ok hc.1
    have hc := hK _ _ _ _ _ _ _ hc.2 H locs ls hz hh hl hS hL
    cases cc with
    | eq => exact lv_if_eq hx hb hd hj (fun q => by simpa [cIf, q] using hc) (fun q => by simpa [cIf, q] using hc)
    | ne => exact lv_if_ne hx hb hd hj (fun q => by simpa [cIf, q] using hc) (fun q => by simpa [cIf, q] using hc)
    | lt => exact lv_if_lt hx hb hd hj (fun q => by simpa only [cIf, q, decide_true, decide_false, if_true, Bool.false_eq_true, if_false] using hc) (fun q => by simpa only [cIf, q, decide_true, decide_false, if_true, Bool.false_eq_true, if_false] using hc)
    | ge => exact lv_if_ge hx hb hd hj (fun q => by simpa only [cIf, q, decide_true, decide_false, if_true, Bool.false_eq_true, if_false] using hc) (fun q => by simpa only [cIf, q, decide_true, decide_false, if_true, Bool.false_eq_true, if_false] using hc)
    | gt => exact lv_if_gt hx hb hd hj (fun q => by simpa only [cIf, q, decide_true, decide_false, if_true, Bool.false_eq_true, if_false] using hc) (fun q => by simpa only [cIf, q, decide_true, decide_false, if_true, Bool.false_eq_true, if_false] using hc)
    | le => exact lv_if_le hx hb hd hj (fun q => by simpa only [cIf, q, decide_true, decide_false, if_true, Bool.false_eq_true, if_false] using hc) (fun q => by simpa only [cIf, q, decide_true, decide_false, if_true, Bool.false_eq_true, if_false] using hc)
  · rename_i cc off
    obtain ⟨y, T, rfl, hP⟩ := popI_s h
    obtain ⟨x, T2, rfl, hQ⟩ := popI_s hP
    cases hQ
    have hj := jto_ok hc.1
    have hc := hK _ _ _ _ _ _ _ hc.2 H locs ls hz hh hl hS hL
    cases cc with
    | eq => exact lv_icmp_eq hx hb hd hj (fun q => by simpa only [cIf, q, decide_true, decide_false, if_true, Bool.false_eq_true, if_false] using hc) (fun q => by simpa only [cIf, q, decide_true, decide_false, if_true, Bool.false_eq_true, if_false] using hc)
    | ne => exact lv_icmp_ne hx hb hd hj (fun q => by simpa only [cIf, q, not_true, not_false_iff, decide_true, decide_false, if_true, Bool.false_eq_true, if_false] using hc) (fun q => by simpa only [cIf, q, not_true, not_false_iff, decide_true, decide_false, if_true, Bool.false_eq_true, if_false] using hc)
    | lt => exact lv_icmp_lt hx hb hd hj (fun q => by simpa only [cIf, q, decide_true, decide_false, if_true, Bool.false_eq_true, if_false] using hc) (fun q => by simpa only [cIf, q, decide_true, decide_false, if_true, Bool.false_eq_true, if_false] using hc)
    | ge => exact lv_icmp_ge hx hb hd hj (fun q => by simpa only [cIf, q, decide_true, decide_false, if_true, Bool.false_eq_true, if_false] using hc) (fun q => by simpa only [cIf, q, decide_true, decide_false, if_true, Bool.false_eq_true, if_false] using hc)
    | gt => exact lv_icmp_gt hx hb hd hj (fun q => by simpa only [cIf, q, decide_true, decide_false, if_true, Bool.false_eq_true, if_false] using hc) (fun q => by simpa only [cIf, q, decide_true, decide_false, if_true, Bool.false_eq_true, if_false] using hc)
    | le => exact lv_icmp_le hx hb hd hj (fun q => by simpa only [cIf, q, decide_true, decide_false, if_true, Bool.false_eq_true, if_false] using hc) (fun q => by simpa only [cIf, q, decide_true, decide_false, if_true, Bool.false_eq_true, if_false] using hc)
  · obtain ⟨r, T, rfl, hP⟩ := popR_s h
    cases hP
    have hj := jto_ok hc.1
    have hc := hK _ _ _ _ _ _ _ hc.2 H locs ls hz hh hl hS hL
    cases r with
    | none => exact lv_ifnullN hx hb hd hj hc
    | some a => exact lv_ifnull hx hb hd hc
  · obtain ⟨r, T, rfl, hP⟩ := popR_s h
    cases hP
    have hj := jto_ok hc.1
    have hc := hK _ _ _ _ _ _ _ hc.2 H locs ls hz hh hl hS hL
    cases r with
    | none => exact lv_ifnonnullN hx hb hd hc
    | some a => exact lv_ifnonnull hx hb hd hj hc
  · obtain ⟨y, T, rfl, hP⟩ := popR_s h
    obtain ⟨x, T2, rfl, hQ⟩ := popR_s hP
    cases hQ
    have hj := jto_ok hc.1
    have hc := hK _ _ _ _ _ _ _ hc.2 H locs ls hz hh hl hS hL
    exact lv_acmp_eq hx hb hd hj (fun q => by rw [if_pos q] at hc; exact hc) (fun q => by rw [if_neg q] at hc; exact hc)
  · obtain ⟨y, T, rfl, hP⟩ := popR_s h
    obtain ⟨x, T2, rfl, hQ⟩ := popR_s hP
    cases hQ
    have hj := jto_ok hc.1
    have hc := hK _ _ _ _ _ _ _ hc.2 H locs ls hz hh hl hS hL
    exact lv_acmp_ne hx hb hd hj (fun q => by rw [if_neg q] at hc; exact hc) (fun q => by rw [if_pos q] at hc; exact hc)
  · rename_i dflt lo hi offs len
    obtain ⟨x, T, rfl, hP⟩ := popI_s h
    cases hP
    obtain ⟨h1, h2, hc⟩ := hc
    have hj := jto_ok h2
    have hc := hK _ _ _ _ _ _ _ hc H locs ls hz hh hl hS hL
    by_cases hq : x.toInt < lo ∨ hi < x.toInt
    · simp only [tsw, if_pos hq] at hj hc
      exact lv_tableOut hx hb hd hq hj hc
    · simp only [tsw, if_neg hq] at hj hc
      rcases h1 with h1 | h1 | h1
      · exact absurd (Or.inl h1) hq
      · exact absurd (Or.inr h1) hq
      · obtain ⟨off, ho⟩ := Option.isSome_iff_exists.mp h1
        rw [ho] at hj hc
        exact lv_tableIn hx hb hd (fun q => hq (Or.inl q)) (fun q => hq (Or.inr q)) ho hj hc
  -- getfield
  · split at h
    · rename_i ci k hf
      obtain ⟨a, T, rfl, hP⟩ := popA_s h
      by_cases hci : ci < 9
      · rw [if_pos hci] at hP
        split at hP
        · rename_i hk
          cases hP
          exact g_get X hd hf hci hk hc.1 hh (hK _ _ _ _ _ _ _ hc.2 H locs ls hz hh hl hS hL)
        · cases hP
      · rw [if_neg hci] at hP
        split at hP
        · rename_i hci
          subst hci
          split at hP
          · rename_i hk
            subst hk
            cases hP
            obtain ⟨i, i1, rfl, i3, i4⟩ := hl.2.1 a hc.1
            have hc := hK _ _ _ _ _ _ _ hc.2 H locs ls hz hh hl hS hL
            rw [i3] at hc
            exact vk_getf hx hb (hfz.1.1 i i1).2.2.1 hS hown (hts _ (fr_str hf)) (fun _ q => q) hd hc
          · split at hP
            · rename_i hk
              subst hk
              cases hP
              obtain ⟨i, i1, rfl, i3, i4⟩ := hl.2.1 a hc.1
              have hc := hK _ _ _ _ _ _ _ hc.2 H locs ls hz hh hl hS hL
              rw [i4] at hc
              exact vk_getf hx hb (hfz.1.1 i i1).2.1 hS hown (hts _ (fr_str hf)) (fun _ q => q) hd hc
            · cases hP
        · cases hP
    · cases h
  -- getstatic
  · split at h
    · rename_i hf
      cases h
      exact va_gets hx hb hfz.2.1 hS hown (hts _ (fr_sta hf)) (fun _ q => q) hd (hK _ _ _ _ _ _ _ hc H locs ls hz hh hl hS hL)
    · rename_i hf
      cases h
      have hc := hK _ _ _ _ _ _ _ hc H locs ls hz hh hl hS hL
      rw [hl.2.2.2.2] at hc
      exact va_gets hx hb hfz.2.2.1 hS hown (hts _ (fr_sta hf)) (fun _ q => q) hd hc
    · cases h
  -- putfield
  · split at h
    · rename_i ci k hf
      split at h
      · rename_i hck
        obtain ⟨hci, hk, hfn⟩ := hck
        split at h
        · rename_i hr
          obtain ⟨r, T, rfl, hP⟩ := popR_s h
          obtain ⟨a, T2, rfl, hQ⟩ := popA_s hP
          cases hQ
          obtain ⟨ha, hc⟩ := hc
          refine g_put X hd hf hci hk hfn ha (nar_ref hr r).1 (nar_ref hr r).2 hh hS fun H' locs' o1 o2 o3 o4 => hK _ _ _ _ _ _ _ hc H' locs' ls (o2.trans hz) (hh.upd (a := a) (fun _ => rfl) (fun _ => rfl) (fun _ _ _ _ => rfl) (fun b hb _ _ => ?_) (fun _ _ _ => rfl) (fun _ _ _ => rfl) o3 ⟨fun q => ⟨((hh a).1 q).1, ?_⟩, fun q => absurd q (by omega)⟩) (hl.upd (a := a) (by omega) (fun _ => rfl) (fun _ => rfl) (fun _ _ _ _ => rfl) (fun b c2 _ hc2 => ?_) (fun _ _ _ => rfl)) o4 hL
          · simp only [memS, hb, and_false, if_false]
          · rw [ha]
            refine o1.to fun k' hk' => ?_
            by_cases hkk : k' = k
            · subst hkk
              simp only [updV, fv, hr, if_true, memS, and_self]
            · simp only [updV, fv, hkk, memS, and_false, false_and, if_false]
          · simp only [memS, show ¬ c2 = ci by omega, false_and, if_false]
        · rename_i hr
          obtain ⟨v, T3, rfl, hR⟩ := popI_s h
          obtain ⟨a, T4, rfl, hS⟩ := popA_s hR
          cases hS
          obtain ⟨ha, hfo, hc⟩ := hc
          refine g_put X hd hf hci hk hfn ha hfo.1 hfo.2 hh hS fun H' locs' o1 o2 o3 o4 => hK _ _ _ _ _ _ _ hc H' locs' ls (o2.trans hz) (hh.upd (a := a) (fun _ => rfl) (fun _ => rfl) (fun b hb _ _ => ?_) (fun _ _ _ _ => rfl) (fun _ _ _ => rfl) (fun _ _ _ => rfl) o3 ⟨fun q => ⟨((hh a).1 q).1, ?_⟩, fun q => absurd q (by omega)⟩) (hl.upd (a := a) (by omega) (fun _ => rfl) (fun _ => rfl) (fun b c2 _ hc2 => ?_) (fun _ _ _ _ => rfl) (fun _ _ _ => rfl)) o4 hL
          · simp only [memS, hb, and_false, if_false]
          · rw [ha]
            refine o1.to fun k' hk' => ?_
            by_cases hkk : k' = k
            · subst hkk
              simp only [updV, fv, hr, if_true, memS, and_self]
              rfl
            · simp only [updV, fv, hkk, memS, and_false, false_and, if_false]
          · simp only [memS, show ¬ c2 = ci by omega, false_and, if_false]
      · cases h
    · cases h
  -- arrays: iaload baload aaload iastore bastore aastore arraylength
  · obtain ⟨i, T, rfl, hP⟩ := popI_s h
    obtain ⟨a, T2, rfl, hQ⟩ := popA_s hP
    cases hQ
    obtain ⟨ha, hin, hc⟩ := hc
    have hc := hK _ _ _ _ _ _ _ hc H locs ls hz hh hl hS hL
    rcases ha with ha | ha
    · exact g_iald X hd ha hin hh hc
    · obtain ⟨q1, q2, q3⟩ := hl.1 a ha
      subst q1
      rw [q2] at hin
      rw [q3] at hc
      exact va_sld hx hb hfz.2.2.2.1 hfz.2.2.2.2.2 (Nat.not_le.mpr hfz.2.2.2.2.1) hS hin hd hc
  · obtain ⟨i, T, rfl, hP⟩ := popI_s h
    obtain ⟨a, T2, rfl, hQ⟩ := popA_s hP
    cases hQ
    obtain ⟨ha, hin, hc⟩ := hc
    have hc := hK _ _ _ _ _ _ _ hc H locs ls hz hh hl hS hL
    rcases ha with ha | ha | ha
    · exact g_bald X hd (Or.inl ha) hin hh hc
    · exact g_bald X hd (Or.inr ha) hin hh hc
    · obtain ⟨q, q0, rfl, q2, q3⟩ := hl.2.2.1 a ha
      rw [q2] at hin
      exact va_tb hx hb (hfz.1.1 q q0).2.2.2 hS hin (by rw [q3]) hd hc
  · obtain ⟨i, T, rfl, hP⟩ := popI_s h
    obtain ⟨a, T2, rfl, hQ⟩ := popA_s hP
    cases hQ
    exact g_aald X hd hc.1 hc.2.1 hh (hK _ _ _ _ _ _ _ hc.2.2 H locs ls hz hh hl hS hL)
  · obtain ⟨x, T, rfl, hP⟩ := popI_s h
    obtain ⟨i, T2, rfl, hQ⟩ := popI_s hP
    obtain ⟨a, T3, rfl, hR⟩ := popA_s hQ
    cases hR
    obtain ⟨ha, hin, hc⟩ := hc
    refine g_iast X hd ha hin hh hS fun H' locs' o1 o2 o4 => hK _ _ _ _ _ _ _ hc H' locs' ls (o2.trans hz) o1 (hl.upd (a := a) (by omega) (fun _ => rfl) (fun _ => rfl) (fun _ _ _ _ => rfl) (fun _ _ _ _ => rfl) (fun b hb _ => ?_)) o4 hL
    simp only [memS, hb, false_and, if_false]
  · obtain ⟨x, T, rfl, hP⟩ := popI_s h
    obtain ⟨i, T2, rfl, hQ⟩ := popI_s hP
    obtain ⟨a, T3, rfl, hR⟩ := popA_s hQ
    cases hR
    obtain ⟨ha, hin, hc⟩ := hc
    refine g_bast X hd ha hin hh hS fun H' locs' o1 o2 o4 => hK _ _ _ _ _ _ _ hc H' locs' ls (o2.trans hz) o1 (hl.upd (a := a) (by omega) (fun _ => rfl) (fun _ => rfl) (fun _ _ _ _ => rfl) (fun _ _ _ _ => rfl) (fun b hb _ => ?_)) o4 hL
    simp only [memS, hb, false_and, if_false]
  · obtain ⟨r, T, rfl, hP⟩ := popR_s h
    obtain ⟨i, T2, rfl, hQ⟩ := popI_s hP
    obtain ⟨a, T3, rfl, hR⟩ := popA_s hQ
    cases hR
    obtain ⟨ha, hin, hc⟩ := hc
    exact g_aast X hd ha hin hh hS fun H' locs' o1 o2 o4 => hK _ _ _ _ _ _ _ hc H' locs' ls (o2.trans hz) o1 (hl.upd (a := a) (by omega) (fun _ => rfl) (fun _ => rfl) (fun _ _ _ _ => rfl) (fun _ _ _ _ => rfl) (fun _ _ _ => rfl)) o4 hL
  · obtain ⟨a, T, rfl, hP⟩ := popA_s h
    cases hP
    obtain ⟨ha, hc⟩ := hc
    have hc := hK _ _ _ _ _ _ _ hc H locs ls hz hh hl hS hL
    rcases (show mK G a ≤ 24 ∨ mK G a = 25 ∨ mK G a = 26 by omega) with q | q | q
    · exact g_alen X hd ⟨ha.1, q⟩ hh hc
    · obtain ⟨q1, q2, q3⟩ := hl.1 a q
      subst q1
      rw [q2] at hc
      exact va_slen hx hb hfz.2.2.2.1 hfz.2.2.2.2.2 (Nat.not_le.mpr hfz.2.2.2.2.1) hS hd hc
    · obtain ⟨i, i1, rfl, i3, i4⟩ := hl.2.2.1 a q
      rw [i3] at hc
      exact va_tlen hx hb (hfz.1.1 i i1).2.2.2 hS rfl hd hc
  -- newarray anewarray new
  · rename_i at_
    split at h
    · rename_i kd hkd
      obtain ⟨n, T, rfl, hP⟩ := popI_s h
      cases hP
      obtain ⟨h1, h2, h3, h4, hc⟩ := hc
      have hz0 : ¬ H.size = 0 := by have := hfz.2.2.2.2.1; have := hS.1; omega
      have fin : ∀ (ty : FieldType) (kd : Nat), 20 ≤ kd → kd < 23 → newarray.typeOf at_ = ty → defaultValue ty = .int 0 → Cond.arrayClass ty ∈ lwG → componentBytes ty ≤ 8 → va_RA s (fcy E kd) ty → (∀ nm, ty ≠ .object nm) → K (pc + 2) L (.ref z :: T) (nA G z kd n.toNatClampNeg) (z + 1) (cl + 1) (sl + n.toNatClampNeg) → W p l e R s m args below meth c H locs cl sl Q (F0 m pc ls (.int n :: T)) := by
        intro ty kd k1 k2 hty hdf hw hby hra hno hc
        subst hz
        refine va_newaK hx hb (by rw [hty]; exact hts _ hw) rfl hd rfl h1 rfl (by rw [hty]; exact Nat.le_trans (Nat.mul_le_mul h2 hby) (by decide)) (Nat.le_trans h3 hRc) (Nat.le_trans h4 hRs) rfl fun H' cA e1 z1 o1 har hfc => ?_
        have hcA : cA = fcy E kd := by
          rw [hty] at hfc
          unfold va_RA at hra
          split at hra
          · exact absurd rfl (hno _)
          · exact Option.some.inj (hfc.symm.trans hra)
        rw [hty, hdf] at e1
        refine hK _ _ _ _ _ _ _ hc H' locs ls z1 (g_newA X ⟨k1, by omega⟩ hcA hh hS (by rw [if_pos k2]; exact e1) o1) (hl.new (a := H.size) hz0 (by simp only [memS, if_true]; omega) (fun b hb => ?_) (fun b hb => ?_) (fun _ _ _ _ => rfl) (fun _ _ _ _ => rfl) (fun b hb _ => ?_) (fun q => ⟨q, rfl, rfl⟩)) (hS.grow z1 o1) hL <;> simp only [memS, hb, if_false]
      obtain ⟨q0, q1, q2, -, -⟩ := k_ar X
      cases at_ <;> simp only [akP] at hkd <;> cases hkd
      · exact fin .boolean 22 (by omega) (by omega) rfl rfl arr_ok.2.2 (by decide) q2.2 (fun _ q => by cases q) hc
      · exact fin .byte 21 (by omega) (by omega) rfl rfl arr_ok.2.1 (by decide) q1.2 (fun _ q => by cases q) hc
      · exact fin .int 20 (by omega) (by omega) rfl rfl arr_ok.1 (by decide) q0.2 (fun _ q => by cases q) hc
    · cases h
  · split at h
    · rename_i ci hci
      split at h
      · rename_i kd hkd
        obtain ⟨n, T, rfl, hP⟩ := popI_s h
        cases hP
        obtain ⟨h1, h2, h3, h4, hc⟩ := hc
        have hz0 : ¬ H.size = 0 := by have := hfz.2.2.2.2.1; have := hS.1; omega
        have fin : ∀ (C : String) (kd : Nat), 23 ≤ kd → kd ≤ 24 → ownN ci = C → va_AO C s → va_RA s (fcy E kd) (.object C) → K (pc + 3) L (.ref z :: T) (nA G z kd n.toNatClampNeg) (z + 1) (cl + 1) (sl + n.toNatClampNeg) → W p l e R s m args below meth c H locs cl sl Q (F0 m pc ls (.int n :: T)) := by
          intro C kd k1 k2 hC hao hra hc
          subst hz
          refine W.anew hx hb hown (hts _ (cr_at hci).1) (by rw [hC]; exact va_AO.use hao) rfl hd rfl h1 (Nat.le_trans (Nat.mul_le_mul_right 4 h2) (by decide)) (Nat.le_trans h3 hRc) (Nat.le_trans h4 hRs) fun cA kA comp f1 f2 f3 f4 => ?_
          generalize hH1 : H.push ({ cls := cA, slots := Array.replicate n.toNatClampNeg .null, vm := .none } : Cell) = H1
          have z1 : H1.size = H.size + 1 := by rw [← hH1, Array.size_push]
          have e1 : H1[H.size]? = some (arrV cA n.toNatClampNeg (fun _ => .null)) := by rw [← hH1, Array.getElem?_push_size, ← arrV_new]
          have o1 : ∀ q : Nat, q < H.size → H1[q]? = H[q]? := fun q hq => by rw [← hH1, Array.getElem?_push, if_neg (Nat.ne_of_lt hq)]
          have hcA : cA = fcy E kd := by
            rw [hC] at f1
            obtain ⟨_, _, -, -, -, r4⟩ := hra
            exact Option.some.inj (f1.symm.trans r4)
          refine hK _ _ _ _ _ _ _ hc H1 locs ls z1 (g_newA X ⟨by omega, k2⟩ hcA hh hS (by rw [if_neg (by omega)]; exact e1) o1) (hl.new (a := H.size) hz0 (by simp only [memS, if_true]; omega) (fun b hb => ?_) (fun b hb => ?_) (fun _ _ _ _ => rfl) (fun _ _ _ _ => rfl) (fun b hb _ => ?_) (fun q => ⟨q, rfl, rfl⟩)) (hS.grow z1 o1) hL <;> simp only [memS, hb, if_false]
        obtain ⟨-, -, -, q3, q4⟩ := k_ar X
        unfold akO at hkd
        split at hkd
        · cases hkd
          exact fin RX4 23 (by omega) (by omega) rfl hkn.2.1 q3.2 hc
        · cases hkd
          exact fin RX6 24 (by omega) (by omega) rfl hkn.2.2.1 q4.2 hc
        · cases hkd
      · cases h
    · cases h
  · split at h
    · rename_i ci hci
      split at h
      · cases h
        obtain ⟨h3, h4, hc⟩ := hc
        subst hz
        have hz0 : ¬ H.size = 0 := by have := hfz.2.2.2.2.1; have := hS.1; omega
        refine g_new X hd hci hh hS (Nat.le_trans h3 hRc) (Nat.le_trans h4 hRs) fun H' o1 z1 o4 => hK _ _ _ _ _ _ _ hc H' locs ls z1 o1 (hl.new (a := H.size) hz0 (by simp only [memS, if_true]; omega) (fun b hb => ?_) (fun _ _ => rfl) (fun b hb _ _ => ?_) (fun b hb _ _ => ?_) (fun _ _ _ => rfl) (fun q => by simp only [memS, if_true] at q; exact absurd q (by decide))) o4 hL <;> simp only [memS, hb, if_false]
      · cases h
    · cases h
  · cases h
end Snd
end
section
/-! calls and returns on the machine; every method at every depth -/
def wsJ (j : Nat) : List Cond := Cond.code (my j) (cd j) (mxL j) (mrt j) :: lwG
def rmJ (d j : Nat) : Room := { frames := d, cells := mcq j, slots := msq j, locals := 36 * d }
def PreJ (E : Fix) (as : List Value) (G : Mem) (z : Nat) : Array Value → State → Prop := va_Pc as (fun U => U.heap.size = z ∧ fb E ≤ U.heap.size ∧ holdP E G U.heap ∧ lnk E G ∧ know E U ∧ frz E U U.heap)
def PostJ (E : Fix) (Q : Rt) : Array Value → State → Outcome → State → Prop := fun _ st o t => (∃ r G' z', o = .returned r ∧ Q r G' z' ∧ t.heap.size = z' ∧ holdP E G' t.heap ∧ lnk E G') ∧ va_F (fA E) st t
def MetJ (E : Fix) (l : Launch) (d j : Nat) (as : List Value) (G : Mem) (z : Nat) (Q : Rt) : Prop := Met l (my j) (wsJ j) (rmJ d j) (PreJ E as G z) (PostJ E Q) (mcq j) (msq j) (fA E)
theorem good_ws {j : Nat} (h : j < 137) : GoodIn lwG (wsJ j) := by
  intro w hw
  rcases List.mem_cons.mp hw with rfl | hw
  · exact ⟨code_in j h, good_of_word (List.mem_filter.mp (code_in j h)).2⟩
  · exact ⟨hw, good_of_word (List.mem_filter.mp hw).2⟩
def rOK (j : Nat) (il : Instr × Nat) (v : Option Value) : Prop :=
  (il = (.ireturn, 1) ∧ ∃ ty x, mrt j = some ty ∧ v = some (.int x) ∧ narrow ty (.int x) = .int x) ∨ (il = (.lreturn, 1) ∧ mrt j = some .long ∧ ∃ x, v = some (.long x)) ∨ (il = (.areturn, 1) ∧ ∃ nm r, mrt j = some (.object nm) ∧ v = some (va_rf r)) ∨ (il = (.return_, 1) ∧ mrt j = none ∧ v = none)
section Snd
variable {E : Fix} {p : Program} {l : Launch} {e : Env} {R : Room} {s : State} {m : MethodId} {args : Array Value} {below : List Frame} {meth : Method} {c : Code} {Q : State → Prop} {j : Nat}
theorem PreJ.blind {as : List Value} {G : Mem} {z : Nat} : FrameBlind (PreJ E as G z) := by
  intro a U g mk h
  obtain ⟨h1, h2, h3, h4, h5, h6, h7⟩ := h
  exact ⟨h1, h2, h3, h4, h5, know.warm (s := U) (U := U.calling g mk a) (State.WarmedH.refl U) h6, frz.moved (u := U) (U := U.calling g mk a) (Vm.Alike.refl U.vm) h7⟩
theorem PreJ.at {H : Heap} {locs : List Loc} {as : List Value} {G : Mem} {z : Nat} (X : Std E p s m args meth c j) (hz : H.size = z) (hh : holdP E G H) (hl : lnk E G) (hS : va_S (fA E) s.heap H locs) : ∀ U : State, U.heap = H → s.WarmedH U.vm → PreJ E as G z as.toArray U := by
  intro U hU hW
  have hfz := X.2.2.2.2.2.2.2.1
  refine ⟨rfl, by rw [hU]; exact hz, by rw [hU]; exact Nat.le_trans X.2.2.2.2.2.2.2.2.1 hS.1, by rw [hU]; exact hh, hl, know.warm hW X.2.2.2.2.2.2.1, ?_⟩
  rw [hU]
  exact frz.moved hW.alike (hfz.kept hS.1 hS.2.1)
theorem call_go {H : Heap} {locs : List Loc} {cells slots mc ms pc : Nat} {ls : Array Slot} {st0 rest : List Value} {a : Array Value} {Q' : Rt} (hr : va_Run p l e R s m args below meth c H locs cells slots mc ms (F0 m pc ls st0) rest (PostJ E Q' a) (fA E)) (hS : va_S (fA E) s.heap H locs)
    (kk : ∀ r G' z' (H1 : Heap) (locs1 : List Loc), Q' r G' z' → H1.size = z' → holdP E G' H1 → lnk E G' → va_S (fA E) s.heap H1 locs1 → W p l e R s m args below meth c H1 locs1 (cells + mc) (slots + ms) Q (F0 m (pc + 3) ls (r.toList ++ rest))) : W p l e R s m args below meth c H locs cells slots Q (F0 m pc ls st0) := by
  intro T hT X
  obtain ⟨v, st₀, t, T', L, h0, X', hL, e1, e2, ⟨⟨r, G', z', hv, hp, hsz, hh, hl⟩, hz, hk⟩, st⟩ := hr T hT X
  cases hv
  rw [h0] at hz hk
  obtain ⟨t2, a1, b1⟩ := kk v G' z' T'.heap (locs ++ L) hp (by rw [e1]; exact hsz) (by rw [e1]; exact hh) hl
    ⟨Nat.le_trans hS.1 (by rw [e1]; exact hz), fun q h1 h2 => by rw [e1, hk q (Nat.lt_of_lt_of_le h1 hS.1) h2]; exact hS.2.1 q h1 h2, fun q hq => by
      rcases List.mem_append.mp hq with h | h
      · exact hS.2.2 q h
      · exact hL q h⟩ T' rfl X'
  exact ⟨t2, st t2 a1, b1⟩
theorem cat_sum : ∀ (T : List Value), T.length ≤ 4 → (T.map fun v => v.category).sum ≤ 8 := by
  intro T hT
  have : ∀ (T : List Value), (T.map fun v => v.category).sum ≤ 2 * T.length := by
    intro T
    induction T with
    | nil => simp
    | cons v T ih =>
      have hv : v.category ≤ 2 := by cases v <;> simp [Value.category]
      simp only [List.map_cons, List.sum_cons, List.length_cons]
      omega
  have := this T
  omega
theorem callB_j (X : Std E p s m args meth c j) {d : Nat} (hRf : d + 1 ≤ R.frames) (hRl : 36 * (d + 1) ≤ R.locals) {i j2 : Nat} (hj : j2 < 137) (hl : Cond.methodLink (ownN (ow j)) i (my j2) ∈ lwG) (hi : Cond.initialized (my j2).cls ∈ lwG) :
    CallB R s args (ownN (ow j)) i (my j2) (cd j2) (mxL j2) (mrt j2) (wsJ j2) (rmJ d j2) (mcq j2) (msq j2) (npq j2) := by
  have hts := X.2.2.2.2.2.1
  have hn := nm_at hj
  exact callB_of (npq j2) hts (good_ws hj) rfl rfl rfl (hts _ hi) (hts _ hl) hn.2.1 ⟨hRf, by show 8 + (mxL j2 + 11) + 36 * d ≤ R.locals; have := hn.2.2.2.1; omega⟩
set_option maxHeartbeats 4000000 in
theorem snd_step (X : Std E p s m args meth c j) {d : Nat} (hRc : mcq j ≤ R.cells) (hRs : msq j ≤ R.slots) (hRf : d + 1 ≤ R.frames) (hRl : 36 * (d + 1) ≤ R.locals)
    (IH : ∀ j as G z Q, j < 137 → (entL as).length ≤ mxL j → CALL d j as G z Q → MetJ E l d j as G z Q) {K : Kt} (hK : ∀ pc L S G z cl sl, K pc L S G z cl sl → WA E p l e R s m args below meth c (mxL j) Q pc L S G z cl sl) {Rr : Rt}
    (hRet : ∀ (il : Instr × Nat) (v : Option Value) (pc : Nat) (H : Heap) (locs : List Loc) (ls : Array Slot) (G : Mem) (z cl sl : Nat), decode (cd j) pc = .ok il → rOK j il v → Rr v G z → cl ≤ mcq j → sl ≤ msq j → H.size = z → holdP E G H → lnk E G → va_S (fA E) s.heap H locs → W p l e R s m args below meth c H locs cl sl Q (F0 m pc ls v.toList))
    {il : Instr × Nat} {pc : Nat} {L : Lo} {S : List Value} {G : Mem} {z cl sl : Nat} (hd : decode (cd j) pc = .ok il) (h : istep (CALL d) j il pc L S G z cl sl K Rr) :
    WA E p l e R s m args below meth c (mxL j) Q pc L S G z cl sl := by
  have hx := X.1
  have hb := X.2.1
  have hml := X.2.2.2.1
  have hown := X.2.2.2.2.1
  have hts := X.2.2.2.2.2.1
  have hkn := X.2.2.2.2.2.2.1
  have hfz := X.2.2.2.2.2.2.2.1
  unfold istep at h
  split at h
  -- invokevirtual
  · split at h
    · rename_i i j2 hm
      split at h
      · rename_i b T hdr
        intro H locs ls hz hh hl hS hL
        obtain ⟨hk, ⟨hr4, hen⟩, hcc, hss, hcall⟩ := h
        obtain ⟨hj, w1, w2, w3, w4⟩ := mr_0 hm
        have hn := nm_at hj
        have hlen : npq j2 < S.length := by
          rcases Nat.lt_or_ge (npq j2) S.length with q | q
          · exact q
          · rw [List.drop_eq_nil_of_le q] at hdr; cases hdr
        have hst : S = ((S.take (npq j2)).reverse).reverse ++ .ref b :: T := by rw [List.reverse_reverse, ← hdr, List.take_append_drop]
        have hrec : ∃ cell : Cell, H[b]? = some cell ∧ cell.vm.isStatics = false ∧ s.vm.findClass (my j2).cls = some cell.cls := by
          rw [hn.2.2.1]
          unfold rcv at hk
          by_cases ho : ow j2 < 9
          · rw [if_pos ho] at hk
            obtain ⟨-, cell, g1, g2, g3, -⟩ := (hh b).1 (by omega)
            refine ⟨cell, g1, by rw [g3]; rfl, ?_⟩
            rw [g2, hk]
            exact (hkn.1.1 _ _ (vwCl_at _ ho)).2.1
          · rw [if_neg ho] at hk
            obtain ⟨q, q0, rfl, -⟩ := hl.2.1 b hk
            have := vk_recv hfz.1 q0 hS
            rw [← str_own hm ho]
            exact this
        refine call_go (va_runV (As := (S.take (npq j2)).reverse) (rest := T) (cc := cd j) (nL := mxL j) (Ts := lwG) ⟨hx, hb, hml, hown, hts⟩ (IH j2 _ G z _ hj hen hcall) ⟨callB_j X hRf hRl hj w1 w3, hts _ w2, hts _ w4⟩ ⟨PreJ.blind, hrec, PreJ.at X hz hh hl hS⟩ rfl (by simp; omega) hL.1 hst (lv_room (cat_sum T hr4)) hd ⟨Nat.le_trans hcc hRc, Nat.le_trans hss hRs⟩) hS fun r G' z' H1 locs1 q1 q2 q3 q4 q5 => hK _ _ _ _ _ _ _ q1 H1 locs1 ls q2 q3 q4 q5 hL
      · exact absurd h id
    · exact absurd h id
  -- invokestatic
  · split at h
    · rename_i i j2 hm
      intro H locs ls hz hh hl hS hL
      obtain ⟨hlen, ⟨hr4, hen⟩, hcc, hss, hcall⟩ := h
      obtain ⟨hj, w1, w2, w3⟩ := mr_1 hm
      have hst : S = ((S.take (npq j2)).reverse).reverse ++ S.drop (npq j2) := by rw [List.reverse_reverse, List.take_append_drop]
      refine call_go (va_runS (As := (S.take (npq j2)).reverse) (rest := S.drop (npq j2)) (cc := cd j) (nL := mxL j) (Ts := lwG) ⟨hx, hb, hml, hown, hts⟩ (IH j2 _ G z _ hj hen hcall) ⟨callB_j X hRf hRl hj w1 w3, hts _ w2⟩ ⟨PreJ.blind, PreJ.at X hz hh hl hS⟩ rfl (by simp; omega) hL.1 hst (lv_room (cat_sum _ hr4)) hd ⟨Nat.le_trans hcc hRc, Nat.le_trans hss hRs⟩) hS fun r G' z' H1 locs1 q1 q2 q3 q4 q5 => hK _ _ _ _ _ _ _ q1 H1 locs1 ls q2 q3 q4 q5 hL
    · rename_i i j2 hm
      intro H locs ls hz hh hl hS hL
      obtain ⟨hlen, ⟨hr4, hen⟩, hcc, hss, hcall⟩ := h
      obtain ⟨hj, w1, w2, w3⟩ := mr_3 hm
      have hn := nm_at hj
      have hst : S = ((S.take (npq j2)).reverse).reverse ++ S.drop (npq j2) := by rw [List.reverse_reverse, List.take_append_drop]
      refine call_go (va_runSN (As := (S.take (npq j2)).reverse) (rest := S.drop (npq j2)) (cc := cd j) (nL := mxL j) (Ts := lwG) ⟨hx, hb, hml, hown, hts⟩ (IH j2 _ G z _ hj hen hcall) ⟨va_cnB (npq j2) hts (good_ws hj) rfl rfl rfl (hkn.2.2.2.1 _ _ _ w1) (hts _ w3) hn.2.1 ⟨hRf, by show 8 + (mxL j2 + 11) + 36 * d ≤ R.locals; have := hn.2.2.2.1; omega⟩, hts _ w2, trivial⟩ ⟨PreJ.blind, PreJ.at X hz hh hl hS⟩ rfl (by simp; omega) hL.1 hst (lv_room (cat_sum _ hr4)) hd ⟨Nat.le_trans hcc hRc, Nat.le_trans hss hRs⟩) hS fun r G' z' H1 locs1 q1 q2 q3 q4 q5 => hK _ _ _ _ _ _ _ q1 H1 locs1 ls q2 q3 q4 q5 hL
    · rename_i hm
      split at h
      · intro H locs ls hz hh hl hS hL
        obtain ⟨h1, h2, h3, hc⟩ := h
        exact va_mmin hx hb (by rw [hml, hL.1]) hown (hts _ (mr_5 hm)) (hts _ math_ok.1.1) (hts _ math_ok.2.2) (hts _ math_ok.1.2) (by omega) (by have := cat_sum _ h1; omega) (by omega) (by omega) hd (hK _ _ _ _ _ _ _ hc H locs ls hz hh hl hS hL)
      · exact absurd h id
    · rename_i hm
      split at h
      · intro H locs ls hz hh hl hS hL
        obtain ⟨h1, h2, h3, hc⟩ := h
        exact va_mabs hx hb (by rw [hml, hL.1]) hown (hts _ (mr_6 hm)) (hts _ math_ok.2.1.1) (hts _ math_ok.2.2) (hts _ math_ok.2.1.2) (by omega) (by have := cat_sum _ h1; omega) (by omega) (by omega) hd (hK _ _ _ _ _ _ _ hc H locs ls hz hh hl hS hL)
      · exact absurd h id
    · exact absurd h id
  -- invokespecial
  · split at h
    · rename_i i j2 hm
      split at h
      · rename_i b T hdr
        intro H locs ls hz hh hl hS hL
        obtain ⟨⟨hr4, hen⟩, hcc, hss, hcall⟩ := h
        obtain ⟨hj, w1, w2, w3, w4, w5⟩ := mr_2 hm
        have hlen : npq j2 < S.length := by
          rcases Nat.lt_or_ge (npq j2) S.length with q | q
          · exact q
          · rw [List.drop_eq_nil_of_le q] at hdr; cases hdr
        have hst : S = ((S.take (npq j2)).reverse).reverse ++ .ref b :: T := by rw [List.reverse_reverse, ← hdr, List.take_append_drop]
        have hB := callB_j X hRf hRl hj w1 w3
        rw [w5] at hB
        refine call_go (va_runI (As := (S.take (npq j2)).reverse) (rest := T) (cc := cd j) (nL := mxL j) (Ts := lwG) ⟨hx, hb, hml, hown, hts⟩ (IH j2 _ G z _ hj hen hcall) ⟨hB, w4, hts _ w2⟩ ⟨PreJ.blind, PreJ.at X hz hh hl hS⟩ rfl (by simp; omega) hL.1 hst (lv_room (cat_sum T hr4)) hd ⟨Nat.le_trans hcc hRc, Nat.le_trans hss hRs⟩) hS fun r G' z' H1 locs1 q1 q2 q3 q4 q5 => hK _ _ _ _ _ _ _ q1 H1 locs1 ls q2 q3 q4 q5 hL
      · exact absurd h id
    · rename_i hm
      split at h
      · intro H locs ls hz hh hl hS hL
        obtain ⟨h1, hc⟩ := h
        refine W.objInit hx hb hown (hts _ (mr_4 hm)) (hts _ obj_ok.1) (hts _ obj_ok.2) rfl (by rw [hml]; exact hL.1) rfl hd (by omega) ?_ (hK _ _ _ _ _ _ _ hc H locs ls hz hh hl hS hL)
        have := lv_room (m := m) (pc := pc) (ls := ls) (rest := []) (cat_sum _ h1)
        show 2 * (F0 m pc ls _).monitorRoom + _ + 12 ≤ R.locals
        have e0 : ∀ st, (F0 m pc ls st).monitorRoom = (F0 m pc ls []).monitorRoom := fun _ => rfl
        rw [e0]
        omega
      · exact absurd h id
    · exact absurd h id
  -- returns
  · split at h
    · rename_i ty v hty
      intro H locs ls hz hh hl hS hL
      exact hRet _ (some (.int v)) pc H locs ls G z cl sl hd (Or.inl ⟨rfl, ty, v, hty, rfl, h.1⟩) h.2.2.2 h.2.1 h.2.2.1 hz hh hl hS
    · exact absurd h id
  · split at h
    · rename_i v hty
      intro H locs ls hz hh hl hS hL
      exact hRet _ (some (.long v)) pc H locs ls G z cl sl hd (Or.inr (Or.inl ⟨rfl, hty, v, rfl⟩)) h.2.2 h.1 h.2.1 hz hh hl hS
    · exact absurd h id
  · split at h
    · rename_i nm v hty
      intro H locs ls hz hh hl hS hL
      obtain ⟨r, hr⟩ := Option.isSome_iff_exists.mp h.1
      have hv := rOf_s hr
      subst hv
      exact hRet _ (some (va_rf r)) pc H locs ls G z cl sl hd (Or.inr (Or.inr (Or.inl ⟨rfl, nm, r, hty, rfl⟩))) h.2.2.2 h.2.1 h.2.2.1 hz hh hl hS
    · exact absurd h id
  · split at h
    · rename_i hty
      intro H locs ls hz hh hl hS hL
      exact hRet _ none pc H locs ls G z cl sl hd (Or.inr (Or.inr (Or.inr ⟨rfl, hty, rfl⟩))) h.2.2 h.1 h.2.1 hz hh hl hS
    · exact absurd h id
  · split at h
    · rename_i hn
      exact snd_next X hRc hRs hK hd hn h
    · exact absurd h id
end Snd
/-- EVERY METHOD: what the abstract machine says of a call, the machine does -/
theorem MET (E : Fix) (l : Launch) : ∀ d j as G z Q, j < 137 → (entL as).length ≤ mxL j → CALL d j as G z Q → MetJ E l d j as G z Q
  | 0 => fun _ _ _ _ _ _ _ h => absurd h id
  | d + 1 => by
    intro j as G z Qr hj hen h
    refine Met.ofW (cc := cd j) (maxL := mxL j) (ret := mrt j) (nm_at hj).1 rfl ?_
    intro p e s m args below meth c s₁ B hml hv
    obtain ⟨rfl, hz, hb0, hh, hl, hkn, hfz⟩ := hv
    have hts : ∀ w ∈ lwG, w.before as.toArray s = true := fun w hw => atoms_spec (ws := wsJ j) B.pre w (List.mem_cons_of_mem _ hw)
    have hown : s.vm.findClass (ownN (ow j)) = some m.cls := by rw [← (nm_at hj).2.2.1]; exact findClass_of_methodNamed B.named
    have hlocks := B.notSynchronized
    have X : Std E p s m as.toArray meth c j := ⟨B.exec, B.bytes, B.returns, hml, hown, hts, hkn, hfz, hb0, hlocks, fun q => (name_of_methodNamed B.named B.method).1.trans ((nm_at hj).2.2.2.2 q)⟩
    rw [lg_entry_eq]
    refine h (WA E p l e (headSpec (wsJ j) (rmJ (d + 1) j)).room s m as.toArray below meth c (mxL j) (MQ below (PostJ E Qr) as.toArray s (mcq j) (msq j) (fA E))) ?_ s.heap [] _ hz hh hl va_S.rf (LOK.entry hen)
    intro pc L S G z cl sl hsem
    unfold isem at hsem
    split at hsem
    · rename_i il hd
      refine snd_step X (R := (headSpec (wsJ j) (rmJ (d + 1) j)).room) (Nat.le_refl _) (Nat.le_refl _) (Nat.le_refl _) (Nat.le_refl _) (MET E l d) (fun _ _ _ _ _ _ _ q => q) ?_ hd hsem
      intro il v pc H locs ls G z cl sl hd ho hr hc hs hz hh hl hS
      have hq : ∀ t : State, t.heap = H → s.WarmedH t.vm → PostJ E Qr as.toArray s (.returned v) t := fun t ht _ => ⟨⟨v, G, z, rfl, hr, by rw [ht]; exact hz, by rw [ht]; exact hh, hl⟩, hS.F ht⟩
      refine W.widen (k := mcq j) (n := msq j) hc hs ?_
      rcases ho with ⟨rfl, ty, x, h1, rfl, h3⟩ | ⟨rfl, h1, x, rfl⟩ | ⟨rfl, nm, r, h1, rfl⟩ | ⟨rfl, h1, rfl⟩
      · exact W.zret B.exec B.bytes (B.returns.trans h1) h3 hq hS.2.2 hd
      · exact W.lret B.exec B.bytes (B.returns.trans h1) hq hS.2.2 hd
      · exact W.aret B.exec B.bytes (B.returns.trans h1) (Or.inl ⟨nm, rfl⟩) (va_rf_or r) hq hS.2.2 hd
      · exact W.vret B.exec B.bytes (B.returns.trans h1) hq hS.2.2 hd
    · exact absurd hsem id
end
section
/-! THE START: the memory with which the law begins; the claim's walk out of a run of the abstract machine -/
def tmS (i : Nat) : Term := Term.string RX3 (sIx.getD i 0)
set_option maxRecDepth 100000 in
theorem str_nar : ((List.range 10).all fun i => decide (Cond.exactly (tmS i) "java/lang/String" ∈ flatC (Jvm.Cond.and given_1 narrow_1)) && decide (Cond.eq (.field (tmS i) "java/lang/String" "coder" "B") (.int 0) ∈ flatC (Jvm.Cond.and given_1 narrow_1)) && decide (Cond.arrayOf (.field (tmS i) "java/lang/String" "value" "[B") .byte ∈ flatC (Jvm.Cond.and given_1 narrow_1))
    && decide (Cond.eq (.length (.field (tmS i) "java/lang/String" "value" "[B")) (.int (Int32.ofNat (sLen.getD i 0))) ∈ flatC (Jvm.Cond.and given_1 narrow_1)) && ((List.range (sLen.getD i 0)).all fun k => decide (Cond.eq (.elem (.field (tmS i) "java/lang/String" "value" "[B") (.int (Int32.ofNat k))) (.int ((sBy.getD i []).getD k 0)) ∈ flatC (Jvm.Cond.and given_1 narrow_1)))
    && ((List.range 10).all fun k => decide (i = k) || decide (Cond.not (Cond.eq (tmS i) (tmS k)) ∈ flatC (Jvm.Cond.and given_1 narrow_1)) || decide (Cond.not (Cond.eq (tmS k) (tmS i)) ∈ flatC (Jvm.Cond.and given_1 narrow_1)))) = true := by decide +kernel
set_option maxRecDepth 100000 in
theorem str_tbl : ((List.range 10).all fun i => decide (Cond.stringRef RX3 (sIx.getD i 0) (sTx.getD i "") ∈ lw_tbl)) = true := by decide +kernel
set_option maxRecDepth 100000 in
theorem sta_tbl : Cond.laysStatic "java/lang/String" "COMPACT_STRINGS" "Z" ∈ lw_tbl ∧ Cond.initialized "java/lang/String" ∈ lw_tbl ∧ Cond.laysStatic "jdk/internal/util/Preconditions" "SIOOBE_FORMATTER" "Ljava/util/function/BiFunction;" ∈ lw_tbl ∧ Cond.initialized "jdk/internal/util/Preconditions" ∈ lw_tbl ∧ Cond.arrayOver (.object RX4) ∈ lw_tbl ∧ Cond.arrayOver (.object RX6) ∈ lw_tbl := by
  refine ⟨?_, ?_, ?_, ?_, ?_, ?_⟩ <;> decide +kernel
set_option maxRecDepth 100000 in
theorem sta_nar : Cond.eq (.static "java/lang/String" "COMPACT_STRINGS" "Z") (.int 1) ∈ flatC (Jvm.Cond.and given_1 narrow_1) ∧ Cond.isRef (.static "jdk/internal/util/Preconditions" "SIOOBE_FORMATTER" "Ljava/util/function/BiFunction;") ∈ flatC (Jvm.Cond.and given_1 narrow_1) := by
  refine ⟨?_, ?_⟩ <;> decide +kernel
theorem getD_out {l : List Int32} {q : Nat} (h : l.length ≤ q) : l.getD q 0 = 0 := by
  rw [List.getD_eq_getElem?_getD, List.getElem?_eq_none h]; rfl
def ixOf (f : Nat → Nat) (a : Nat) : Option Nat := (List.range 10).find? (fun i => f i == a)
theorem ixOf_s {f : Nat → Nat} {a i : Nat} (h : ixOf f a = some i) : i < 10 ∧ f i = a := by
  have h1 := List.mem_of_find?_eq_some h
  have h2 := List.find?_some h
  exact ⟨List.mem_range.mp h1, by simpa using h2⟩
theorem ixOf_e {f : Nat → Nat} {i : Nat} (h : i < 10) : ∃ k, ixOf f (f i) = some k ∧ k < 10 ∧ f k = f i := by
  cases hq : ixOf f (f i) with
  | none =>
    have := List.find?_eq_none.mp hq i (List.mem_range.mpr h)
    simp at this
  | some k => exact ⟨k, rfl, ixOf_s hq⟩
def G0 (b L : Nat) (xs : Nat → Int32) (kS vS : Nat → Nat) (sio : Option Nat) : Mem :=
  ((fun a => if a = b then 25 else if (ixOf vS a).isSome = true then 26 else 99),
   (fun c k a => if c = 33 ∧ k = 0 ∧ (ixOf kS a).isSome = true then 1 else 0),
   (fun c k a => if c = 30 then (ixOf kS a).map vS else if c = 31 then (if k < 10 then some (kS k) else none) else if c = 32 then sio else none),
   (fun a => if a = b then L else sLen.getD ((ixOf vS a).getD 0) 0),
   (fun a k => if a = b then xs k else (sBy.getD ((ixOf vS a).getD 0) []).getD k 0),
   (fun _ _ => none))
/-- the texts stand in the memory -/
def StrOK (G : Mem) (z : Nat) : Prop := ∀ i, i < 10 → ∃ a v, mR G 31 i 0 = some a ∧ a < z ∧ v < z ∧ mI G 33 0 a = 1 ∧ mI G 30 1 a = 0 ∧ mR G 30 0 a = some v ∧ mK G v = 26 ∧ mN G v = sLen.getD i 0 ∧ ∀ k, mE G v k = (sBy.getD i []).getD k 0
/-- what is left to show: a run of the abstract machine -/
def PureGoal : Prop := ∀ (G : Mem) (z b L : Nat) (xs : Nat → Int32), L ≤ 3072 → mK G b = 25 → mN G b = L → (∀ i, mE G b i = xs i) → b < z → StrOK G z → WP 12 137 (fun r _ _ => r = some (.int 1)) 0 [some (.ref b), none, none, none] [] G z 0 0
set_option maxRecDepth 100000 in
set_option maxHeartbeats 4000000 in
theorem start_of (hpure : PureGoal) {p : Program} {e : Env} {s : State} {m : MethodId} {below : List Frame} {meth : Method} {c : Code} (l : Launch) {b L : Nat} {xs : Nat → Int32} (hL : L ≤ 3072) (hx : p.tables.exec = Jvm.exec) (hb : c.code = cd 137) (hr : meth.sig.returnType = mrt 137) (hml : c.maxLocals = mxL 137) (hown : s.vm.findClass (ownN (ow 137)) = some m.cls)
    (hts : ∀ w ∈ lw_tbl, w.before #[Value.ref b] s = true) (hX : va_X b L xs s s.heap) (hbl : b < s.heap.size) (hlocks : meth.locks = false) (hgv : (Jvm.Cond.and given_1 narrow_1).before #[Value.ref b] s = true) {Q : State → Prop}
    (hend : ∀ (pc : Nat) (H : Heap) (locs : List Loc) (ls : Array Slot) (cl sl : Nat), decode (cd 137) pc = .ok (.ireturn, 1) → cl ≤ mcq 137 → sl ≤ msq 137 → (∀ q ∈ locs, s.heap.size ≤ q.base) → W p l e room_1 s m #[Value.ref b] below meth c H locs cl sl Q (F0 m pc ls [.int 1])) :
    W p l e room_1 s m #[Value.ref b] below meth c s.heap [] 0 0 Q (entryFrame m ([Value.ref b] : List Value).toArray 4) := by
  have hflat := flat_of_before _ hgv
  have htg : ∀ w ∈ lwG, w.before #[Value.ref b] s = true := fun w hw => hts w (List.mem_filter.mp hw).1
  -- classes
  have hcls : ∀ ci : Nat, ∃ q : ClassId × (Nat → Nat), ci < 9 → u_Kn s (ownN ci) (cT ci) (nF ci) q.1 q.2 := by
    intro ci
    by_cases hci : ci < 9
    · obtain ⟨cC, iS, h⟩ := u_known (C := ownN ci) (T := cT ci) (N := nF ci) (n := nF ci) htg (lays_in hci) (htg _ (ins_at hci).1)
      exact ⟨(cC, iS), fun _ => h⟩
    · exact ⟨(0, fun _ => 0), fun h => absurd h hci⟩
  obtain ⟨dd, hdd⟩ := Classical.axiomOfChoice hcls
  -- arrays
  have harr : ∀ (ty : FieldType), Cond.arrayClass ty ∈ lwG → (∀ nm, ty ≠ .object nm) → ∃ cA, ArrOfT s cA ty ∧ va_RA s cA ty := by
    intro ty hw hno
    obtain ⟨cA, kA, comp, h1, h2, h3⟩ := Cond.arrayClass_spec (htg _ hw)
    refine ⟨cA, fun N z => ⟨(fun k h => by cases h), kA, h2, comp, h3⟩, ?_⟩
    unfold va_RA
    split
    · exact absurd rfl (hno _)
    · exact h1
  have hobj : ∀ (C : String), Cond.arrayOver (.object C) ∈ lw_tbl → ∃ cA, ArrOfT s cA (.object C) ∧ va_RA s cA (.object C) := by
    intro C hw
    obtain ⟨comp, cA, kA, h1, h2, h3, h4, h5⟩ := Cond.arrayOver_spec (hts _ hw)
    exact ⟨cA, fun N z => ⟨(fun k h => by cases h), kA, h3, comp, h4⟩, kA, comp, h3, h4, h1, h5⟩
  obtain ⟨c20, a20⟩ := harr .int arr_ok.1 (fun _ q => by cases q)
  obtain ⟨c21, a21⟩ := harr .byte arr_ok.2.1 (fun _ q => by cases q)
  obtain ⟨c22, a22⟩ := harr .boolean arr_ok.2.2 (fun _ q => by cases q)
  obtain ⟨c23, a23⟩ := hobj RX4 sta_tbl.2.2.2.2.1
  obtain ⟨c24, a24⟩ := hobj RX6 sta_tbl.2.2.2.2.2
  -- texts
  have hA : ∀ a : Nat, a < s.heap.size → ¬ (fun q : Nat => s.heap.size ≤ q) a := fun a h => Nat.not_le.mpr h
  have hsn : ∀ i, i < 10 → _ := fun i hi => List.all_eq_true.mp str_nar i (List.mem_range.mpr hi)
  simp only [Bool.and_eq_true, decide_eq_true_eq, List.all_eq_true, List.mem_range, Bool.or_eq_true] at hsn
  obtain ⟨kS, vS, hvS, hkS⟩ := vk_Sof (args := #[Value.ref b]) (s := s) (N := 10) (tm := tmS) (len := sLen) (byt := sBy) (A := fun q : Nat => s.heap.size ≤ q) (by decide) (fun i hi => hflat _ (hsn i hi).1.1.1.1.1) (fun i hi => hflat _ (hsn i hi).1.1.1.1.2) (fun i hi => hflat _ (hsn i hi).1.1.1.2) (fun i hi => hflat _ (hsn i hi).1.1.2)
    (fun i hi k hk => hflat _ ((hsn i hi).1.2 k hk)) (fun i k hi hk hne => by
      rcases (hsn i hi).2 k hk with (q | q) | q
      · exact absurd q hne
      · exact Or.inl (hflat _ q)
      · exact Or.inr (hflat _ q)) hA
  have hst := fun i hi => List.all_eq_true.mp str_tbl i (List.mem_range.mpr hi)
  simp only [decide_eq_true_eq] at hst
  -- statics
  have hZ1 := va_Zof (A := fun q : Nat => s.heap.size ≤ q) (hts _ sta_tbl.1) (hts _ sta_tbl.2.1) (va_eqi (hflat _ sta_nar.1)) hA
  obtain ⟨v2, hv2, hr2⟩ := Cond.isRef_spec (hflat _ sta_nar.2)
  obtain ⟨sio, rfl⟩ : ∃ r, v2 = va_rf r := by
    cases v2 with
    | null => exact ⟨none, rfl⟩
    | ref a => exact ⟨some a, rfl⟩
    | _ => cases hr2
  have hZ2 := va_Zof (A := fun q : Nat => s.heap.size ≤ q) (hts _ sta_tbl.2.2.1) (hts _ sta_tbl.2.2.2.1) hv2 hA
  -- the fixed things
  generalize hE : (((fun ci => (dd ci).1, fun ci => (dd ci).2), (fun k => if k = 20 then c20 else if k = 21 then c21 else if k = 22 then c22 else if k = 23 then c23 else c24), s.heap.size, kS, vS, sio, b, L, xs) : Fix) = E
  have hEb : fb E = s.heap.size := by rw [← hE]; rfl
  have hEA : fA E = fun q : Nat => s.heap.size ≤ q := by funext q; unfold fA; rw [hEb]
  have hknow : know E s := by
    refine ⟨⟨fun k q hk => ?_, fun k q hk => ?_⟩, va_AO.of (hts _ sta_tbl.2.2.2.2.1), va_AO.of (hts _ sta_tbl.2.2.2.2.2), fun o i y hm => va_Nw.of rfl (hts _ hm), fun i hi => ?_⟩
    · have hk9 : k < 9 := (List.getElem?_eq_some_iff.mp hk).1
      rw [vwCl_at k hk9] at hk
      cases hk
      rw [← hE]
      exact hdd k hk9
    · rw [← hE] at hk
      match k, hk with
      | 0, hk => cases hk; exact a20
      | 1, hk => cases hk; exact a21
      | 2, hk => cases hk; exact a22
      | 3, hk => cases hk; exact a23
      | 4, hk => cases hk; exact a24
      | k + 5, hk => simp [tysOf] at hk
    · rw [← hE]
      exact vk_R.of (hts _ (hst i hi)) (hkS i hi)
  have hfrz : frz E s s.heap := by
    refine ⟨?_, ?_, ?_, ?_, ?_, ?_⟩ <;> rw [← hE]
    · exact hvS
    · exact hZ1
    · exact hZ2
    · exact hX
    · exact hbl
    · exact hbl
  have X : Std E p s m #[Value.ref b] meth c 137 := ⟨hx, hb, hr, hml, hown, htg, hknow, hfrz, by rw [hEb]; exact Nat.le_refl _, hlocks, fun q => absurd q (by decide)⟩
  -- the bytes of a text aren't the script
  have hvb : ∀ i, i < 10 → ¬ vS i = b := by
    intro i hi hq
    obtain ⟨cell, t1, t2, -⟩ := (hvS.1 i hi).2.2.2
    obtain ⟨scr, x1, x2, -⟩ := hX
    rw [hq, x1] at t1
    cases t1
    obtain ⟨-, k1, g1, comp1, g2⟩ := t2
    obtain ⟨-, k2, g3, comp2, g4⟩ := x2
    cases g1.symm.trans g3
    rw [g2] at g4
    cases g4
  have hsame : ∀ i k, i < 10 → k < 10 → vS i = vS k → sLen.getD i 0 = sLen.getD k 0 ∧ ∀ q, (sBy.getD i []).getD q 0 = (sBy.getD k []).getD q 0 := by
    intro i k hi hk hq
    obtain ⟨cell, t1, -, -, t4, t5, t6, -⟩ := (hvS.1 i hi).2.2.2
    obtain ⟨cell2, u1, -, -, u4, u5, u6, -⟩ := (hvS.1 k hk).2.2.2
    rw [hq, u1] at t1
    cases t1
    have hl8 : ∀ i, i < 10 → sLen.getD i 0 < 8 := by decide
    have hby : ∀ i, i < 10 → (sBy.getD i []).length = sLen.getD i 0 := by decide
    have e1 : sLen.getD i 0 = sLen.getD k 0 := by
      have h1 := hl8 i hi
      have h2 := hl8 k hk
      have h3 : Int32.ofNat (sLen.getD i 0) = Int32.ofNat (sLen.getD k 0) := t5.symm.trans u5
      exact (nI_eq (by omega) (by omega)).mp h3
    refine ⟨e1, fun q => ?_⟩
    by_cases hqq : q < sLen.getD i 0
    · have h1 := t6 q hqq
      have h2 := u6 q (by omega)
      rw [h1] at h2
      exact Value.int.inj (Option.some.inj h2)
    · rw [getD_out (by rw [hby i hi]; omega), getD_out (by rw [hby k hk]; omega)]
  generalize hG : G0 b L xs kS vS sio = G
  have hlnk : lnk E G := by
    rw [← hG, ← hE]
    refine ⟨fun a ha => ?_, fun a ha => ?_, fun a ha => ?_, fun i hi => ?_, rfl⟩
    · have hab : a = b := by
        by_cases hq : a = b
        · exact hq
        · simp only [mK, G0, if_neg hq] at ha
          split at ha <;> omega
      subst hab
      exact ⟨rfl, if_pos rfl, fun i => if_pos rfl⟩
    · have hq : (ixOf kS a).isSome = true := by
        simp only [mI, G0] at ha
        split at ha
        · rename_i hq; exact hq.2.2
        · exact absurd ha (by decide)
      obtain ⟨i, hi⟩ := Option.isSome_iff_exists.mp hq
      obtain ⟨h1, h2⟩ := ixOf_s hi
      refine ⟨i, h1, h2.symm, ?_, rfl⟩
      show (ixOf kS a).map vS = some (vS i)
      rw [hi]; rfl
    · have hab : ¬ a = b := fun hq => by simp only [mK, G0, if_pos hq] at ha; omega
      have hq : (ixOf vS a).isSome = true := by
        simp only [mK, G0, if_neg hab] at ha
        split at ha
        · assumption
        · omega
      obtain ⟨i, hi⟩ := Option.isSome_iff_exists.mp hq
      obtain ⟨h1, h2⟩ := ixOf_s hi
      refine ⟨i, h1, h2.symm, ?_, fun k => ?_⟩
      · simp only [mN, G0, if_neg hab, hi, Option.getD_some]
      · simp only [mE, G0, if_neg hab, hi, Option.getD_some]
    · show (if i < 10 then some (kS i) else none) = some (kS i)
      rw [if_pos hi]
  have hhold : holdP E G s.heap := by
    rw [← hG]
    intro a
    have hk : mK (G0 b L xs kS vS sio) a = 25 ∨ mK (G0 b L xs kS vS sio) a = 26 ∨ mK (G0 b L xs kS vS sio) a = 99 := by
      simp only [mK, G0]
      split
      · exact Or.inl rfl
      · split
        · exact Or.inr (Or.inl rfl)
        · exact Or.inr (Or.inr rfl)
    exact ⟨fun q => by omega, fun q1 q2 => by omega⟩
  have hstr : StrOK G s.heap.size := by
    rw [← hG]
    intro i hi
    obtain ⟨⟨cell1, o1, -⟩, -, -, ⟨cell2, o2, -⟩⟩ := hvS.1 i hi
    obtain ⟨k, k1, k2, k3⟩ := ixOf_e (f := kS) hi
    have hki : k = i := hvS.2 k i k2 hi k3
    subst hki
    obtain ⟨w, w1, w2, w3⟩ := ixOf_e (f := vS) hi
    have hse := hsame w k w2 hi w3
    refine ⟨kS k, vS k, if_pos hi, (Array.getElem?_eq_some_iff.mp o1).1, (Array.getElem?_eq_some_iff.mp o2).1, ?_, rfl, ?_, ?_, ?_, fun q => ?_⟩
    · simp only [mI, G0, k1, Option.isSome_some, and_self, if_true]
    · show (ixOf kS (kS k)).map vS = some (vS k)
      rw [k1]; rfl
    · simp only [mK, G0, if_neg (hvb k hi), w1, Option.isSome_some, if_true]
    · simp only [mN, G0, if_neg (hvb k hi), w1, Option.getD_some]
      exact hse.1
    · simp only [mE, G0, if_neg (hvb k hi), w1, Option.getD_some]
      exact hse.2 q
  have hrun := hpure G s.heap.size b L xs hL (by rw [← hG]; exact if_pos rfl) (by rw [← hG]; exact if_pos rfl) (fun i => by rw [← hG]; exact if_pos rfl) hbl hstr
  rw [lg_entry_eq]
  refine hrun (WA E p l e room_1 s m #[Value.ref b] below meth c (mxL 137) Q) ?_ s.heap [] _ rfl hhold hlnk va_S.rf (LOK.entry (vs := [Value.ref b]) (n := 4) (show 1 ≤ 4 by decide))
  intro pc Lo S G z cl sl hsem
  unfold isem at hsem
  split at hsem
  · rename_i il hd
    refine snd_step X (R := room_1) (d := 12) (by decide) (by decide) (by decide) (by decide) (MET E l 12) (fun _ _ _ _ _ _ _ q => q) ?_ hd hsem
    intro il v pc H locs ls G z cl sl hd ho hr hc hs hz hh hl hS
    subst hr
    rcases ho with ⟨rfl, ty, x, h1, h2, h3⟩ | ⟨-, h1, -⟩ | ⟨-, nm, r, h1, -⟩ | ⟨-, h1, -⟩
    · exact hend pc H locs ls cl sl hd hc hs (fun q hq => by have := hS.2.2 q hq; rw [hEA] at this; exact this)
    · cases h1
    · cases h1
    · cases h1
  · exact absurd hsem id
end
section
theorem pure_goal : PureGoal := sorry
end
section
-- ===== end of PART A; then your names; then what follows =====
/-! THE CLAIM OUT OF ONE WALK OF THE 137'S BODY. Your part is whole_start (and what it stands on); all else here is the same for every law, but numbers. -/
def R_law : String := "VarietyCircuitLaw"
def lw_P (b : Addr) (xs : List Int32) (args : Array Value) (s : State) : Prop := args = #[.ref b] ∧ s.IntsAt b xs ∧ xs.length ≤ 3072 ∧ (Jvm.Cond.and given_1 narrow_1).before args s = true
def lw_Q (_ : Array Value) (s : State) (o : Outcome) (t : State) : Prop := o = .returned (some (.int 1)) ∧ Framed s o t [] 600000 7302249
def lw_Z (below : List Frame) (a : Array Value) (s : State) : State → Prop := fun t => ∃ o, t.status = .running ∧ Ended t below o ∧ lw_Q a s o t
/-- the law's own end, with 1 on the stack, nothing written that was there before, its room as the claim has it -/
theorem lw_ret {p : Program} {l : Launch} {e : Env} {s : State} {m : MethodId} {below : List Frame} {meth : Method} {c : Code} {b : Nat} (hx : p.tables.exec = Jvm.exec) (hb : c.code = code) (hr : meth.sig.returnType = ret) (hlocks : meth.locks = false) {pc : Nat} {H : Heap} {ls : Array Slot} (hdg : decode code pc = .ok (.ireturn, 1)) : W p l e room_1 s m #[Value.ref b] below meth c H [] 600000 7302249 (lw_Z below #[Value.ref b] s) (F0 m pc ls [.int 1]) := by
  intro T hT X
  obtain ⟨fs, hret, hrun, hended, hW, hframe⟩ := X.leave (v := some (.int 1)) (hlocks := hlocks) (fun h => by rw [hr] at h; cases h)
  have hmeth' : T.vm.method? m = some meth := X.method'
  refine ⟨T.setFrames fs, ?_, .returned (some (.int 1)), hrun, hended, rfl, ⟨_, rfl⟩, hW, hframe⟩
  jvm_step X.here [X.here.top, hx, hb, hdg, hmeth', hr, ret, narrow_b1]
  (try refine ⟨rfl, ?_⟩); (try refine ⟨rfl, ?_⟩)
  first | (intro acts; rw [hret _ acts rfl rfl rfl]) | rw [hret _ _ rfl rfl rfl]
  exact Steps.refl _
/-- what holds at the law's entry: the machine, the code, the tables' words (any of lw_tbl by 'hts w (by decide +kernel)'), the script of L ints xs at the cell b, what the Statement gives of the start (any of its parts by flat_of_before) -/
def lw_At (p : Program) (s : State) (m : MethodId) (meth : Method) (c : Code) (b L : Nat) (xs : Nat → Int32) : Prop :=
  p.tables.exec = Jvm.exec ∧ c.code = code ∧ meth.sig.returnType = ret ∧ c.maxLocals = 4 ∧ s.vm.findClass R_law = some m.cls ∧ (∀ w ∈ lw_tbl, w.before #[Value.ref b] s = true) ∧ va_X b L xs s s.heap ∧ b < s.heap.size ∧ meth.locks = false ∧ (Jvm.Cond.and given_1 narrow_1).before #[Value.ref b] s = true
-- ===== YOUR PART BEGINS =====
/-- YOUR PART: from the entry, for every script of at most 3072 ints, the law comes to its end with true -/
theorem whole_start {p : Program} {e : Env} {s : State} {m : MethodId} {below : List Frame} {meth : Method} {c : Code} (l : Launch) {b L : Nat} {xs : Nat → Int32} (hL : L ≤ 3072) (C0 : lw_At p s m meth c b L xs) : W p l e room_1 s m #[Value.ref b] below meth c s.heap [] 0 0 (lw_Z below #[Value.ref b] s) (entryFrame m ([Value.ref b] : List Value).toArray 4) := by
  obtain ⟨hx, hb, hr, hml, hown, hts, hX, hbl, hlocks, hgv⟩ := C0
  refine start_of pure_goal l hL hx hb hr hml hown hts hX hbl hlocks hgv fun pc H locs ls cl sl hd hc hs hlo => ?_
  refine va_forget hlo ?_
  refine W.widen (k := 600000) (n := 7302249) hc hs ?_
  exact lw_ret hx hb hr hlocks hd
-- ===== YOUR PART ENDS =====
set_option maxHeartbeats 4000000 in
theorem lw_walk (l : Launch) (b : Addr) (xs : List Int32) : MetFree l x (headSpec (Jvm.Cond.code x code maxLocals ret :: tables_1) room_1) (lw_P b xs) (fun _ _ _ _ _ => True) lw_Q := by
  refine MetFree.of_bodyS (code := code) (maxLocals := maxLocals) (ret := ret) (by decide) ?_ ?_
  · intro args s m h hn
    obtain ⟨meth, c, h1, h2, h3, h4, h5, h6, -, -⟩ := Cond.code_spec hn (atoms_spec (ws := Jvm.Cond.code x code maxLocals ret :: tables_1) h _ List.mem_cons_self)
    exact ⟨meth, c, h1, h2, h3, h4, h5, h6⟩
  · intro p e s m args below meth c s₁ B hml0 hP _
    obtain ⟨rfl, hx, hbd, hgv⟩ := hP
    obtain ⟨scr, harrAt, hlist, hof, hsmall⟩ := hx
    obtain ⟨hcb, hkn, -, -⟩ := State.arrayAt?_spec harrAt
    have hown : s.vm.findClass R_law = some m.cls := findClass_of_methodNamed B.named
    have hts0 : ∀ c ∈ (Jvm.Cond.code x code maxLocals ret :: tables_1), c.before #[Value.ref b] s = true := atoms_spec (ws := Jvm.Cond.code x code maxLocals ret :: tables_1) B.pre
    have hts : ∀ w ∈ lw_tbl, w.before #[Value.ref b] s = true := k2_hts_sels lw_privs (fun w hw => hts0 w (List.mem_cons_of_mem _ hw)) lw_privs_ok
    have hml : c.maxLocals = 4 := B.maxLocals_eq (hts0 _ List.mem_cons_self)
    have X₀ : Stand p l e room_1 s m #[Value.ref b] below meth c s₁ [] 0 0 := Stand.of_body B
    have hh0 : s₁.heap = s.heap := by rw [B.state]; rfl
    have hsz : scr.slots.size = xs.length := by rw [← Array.length_toList, hlist, List.length_map]
    have hval : ∀ j : Nat, j < xs.length → scr.slots[j]? = some (.int (xs.getD j 0)) := fun j hj => by
      rw [← Array.getElem?_toList, hlist]
      simp [hj]
    have hbl : b < s.heap.size := (Array.getElem?_eq_some_iff.mp hcb).1
    have hX : va_X b xs.length (fun j => xs.getD j 0) s s.heap := ⟨scr, hcb, hof, hkn, hsz, hval⟩
    have K : W p l e room_1 s m #[Value.ref b] below meth c s₁.heap [] 0 0 (lw_Z below #[Value.ref b] s) (entryFrame m ([Value.ref b] : List Value).toArray 4) := by
      rw [hh0]
      exact whole_start l hbd ⟨B.exec, B.bytes, B.returns, hml, hown, hts, hX, hbl, B.notSynchronized, hgv⟩
    obtain ⟨t, a1, o, b1, b2, b3⟩ := K s₁ rfl X₀
    exact ⟨t, o, a1, b1, b2, b3⟩
theorem lw_pre_spec {args : Array Value} {s : State} (h : (Jvm.Cond.and given_1 narrow_1).before args s = true) (hr : rest_1_c.before args s = true) : ∃ (b : Addr) (xs : List Int32), lw_P b xs args s := by
  have hs := flat_of_before _ h
  have hq := flat_of_before _ hr
  have hc : (Cond.count 1).before args s = true := hs _ (by decide +kernel)
  have harr : (Cond.arrayOf (.arg 0) .int).before args s = true := hs _ (by decide +kernel)
  have hle : (Cond.le (.length (.arg 0)) (.int 3072)).before args s = true := hs _ (by decide +kernel)
  have hlen : (Cond.isInt (.length (.arg 0))).before args s = true := hq _ (by decide +kernel)
  have hall : (Cond.all (.arg 0) (.isInt (.elem (.arg 0) (.index 0)))).before args s = true := hq _ (by decide +kernel)
  obtain ⟨b, xs, hb, hx⟩ := State.ints_of_pre rfl harr hlen hall
  have hsm : xs.length < 2 ^ 31 := hx.choose_spec.2.2.2
  have hev : (Term.length (.arg 0)).eval args s none [] s = some (.int xs.length.toInt32) := hx.length_eval hb
  have hv := Cond.le_ints hev (show (Term.int 3072).eval args s none [] s = some (.int 3072) from rfl)
  have hd : xs.length.toInt32 ≤ 3072 := by
    simpa [Cond.before, Cond.holds, hv] using hle
  have hN : xs.length ≤ 3072 := (Int32.ofNat_le_ofNat hsm (by decide)).mp (show Int32.ofNat xs.length ≤ Int32.ofNat 3072 from hd)
  exact ⟨b, xs, Cond.one_arg hc (show args[0]? = some (.ref b) from hb), hx, hN, h⟩
theorem lw_comes (l : Launch) : Comes l x (Jvm.Cond.code x code maxLocals ret :: tables_1) room_1 (fun tb e args s => Calls_1 tb e args s ∧ rest_1 tb e args s ∧ Pre_1 tb e args s)
    (fun _ _ args s o t => lw_Q args s o t) := by
  intro p e ha hc hk s m args below hf hfit hheap happ hpre
  obtain ⟨b, xs, hP⟩ := lw_pre_spec hpre.2.2 hpre.2.1
  obtain ⟨k, o, h1, h2, h3, hQ⟩ := lw_walk l b xs p e ha hc hk s m args below hf ((Spec.applies_iff_loose hf).mp happ).1 hP trivial
  exact ⟨k, o, h1, h2, h3, hQ⟩
theorem lw_frame {s t : State} {o : Outcome} {args : Array Value} (h : Framed s o t [] 600000 7302249) :
    Framed s o t (fieldLocs frame_1_writes args s ++ arrayLocs frame_1_arrays args s ++ staticLocs frame_1_statics s) 600000 7302249 := h
theorem lw_limb (L : Cond) (hL : ∀ (args : Array Value) (s t : State), L.after args s (.returned (some (.int 1))) t = true) :
    ArmFor flags0 classFile x code maxLocals ret World_1 tables_1 room_1 Calls_1 rest_1 Pre_1
      (fun tb e a s o t => postC L tb e a s o t ∧ Framed s o t (fieldLocs frame_1_writes a s ++ arrayLocs frame_1_arrays a s ++ staticLocs frame_1_statics s) 600000 7302249) := by
  intro l _ _ _ p e ha hc hk s m args below hf hfit hheap happ hpre
  obtain ⟨k, o, h1, h2, h3, rfl, hF⟩ := lw_comes l p e ha hc hk s m args below hf hfit hheap happ hpre
  exact ⟨k, _, h1, h2, h3, hL args s _, lw_frame hF⟩
theorem i_vc : Claimed_1_1 ∧ Claimed_1_2 := ⟨lw_limb limb_1_1 (fun args s t => by simp [limb_1_1, Cond.after, Cond.holds, Cond.value]), lw_limb limb_1_2 (fun args s t => Cond.after_iff.mpr (by
  first | (rw [show limb_1_2 = Cond.eq .result (.int 1) from rfl, Cond.eq_ints (x := 1) (y := 1) rfl rfl]; simp; done) | (simp [limb_1_2, Cond.value, Term.eval]; done)))⟩
end
