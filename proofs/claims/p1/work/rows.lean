section
-- ===== PART A: goes FIRST, ahead of the names: the tables' words, and 'selects' of the private methods out of them =====
/-- a private method of a class that the tables say can be made, by its rows of tables_1 -/
def lw_okq (q : MethodName × Nat) : Prop := (q.1.cls ≠ "java/lang/invoke/MethodHandle" ∧ q.1.cls ≠ "java/lang/invoke/VarHandle") ∧ Cond.instantiable q.1.cls q.2 ∈ tables_1 ∧ Cond.privateMethod q.1 ∈ tables_1 ∧ Cond.instanceMethod q.1 ∈ tables_1
theorem lw_p0 : lw_okq (⟨"Foundrymark", "areLotsSound", "()Z"⟩, 14) := ⟨⟨by decide +kernel, by decide +kernel⟩, List.mem_of_getElem? (i := 44) (by decide +kernel), List.mem_of_getElem? (i := 142) (by decide +kernel), List.mem_of_getElem? (i := 143) (by decide +kernel)⟩
theorem lw_p1 : lw_okq (⟨"Foundrymark", "piecesIn", "(LFoundrymark$Lot;Z)I"⟩, 14) := ⟨⟨by decide +kernel, by decide +kernel⟩, List.mem_of_getElem? (i := 44) (by decide +kernel), List.mem_of_getElem? (i := 146) (by decide +kernel), List.mem_of_getElem? (i := 147) (by decide +kernel)⟩
theorem lw_p2 : lw_okq (⟨"Foundrymark", "areJobsSound", "()Z"⟩, 14) := ⟨⟨by decide +kernel, by decide +kernel⟩, List.mem_of_getElem? (i := 44) (by decide +kernel), List.mem_of_getElem? (i := 154) (by decide +kernel), List.mem_of_getElem? (i := 155) (by decide +kernel)⟩
theorem lw_p3 : lw_okq (⟨"Foundrymark", "areCostsSound", "()Z"⟩, 14) := ⟨⟨by decide +kernel, by decide +kernel⟩, List.mem_of_getElem? (i := 44) (by decide +kernel), List.mem_of_getElem? (i := 166) (by decide +kernel), List.mem_of_getElem? (i := 167) (by decide +kernel)⟩
theorem lw_p4 : lw_okq (⟨"Foundrymark", "arePromisesSound", "()Z"⟩, 14) := ⟨⟨by decide +kernel, by decide +kernel⟩, List.mem_of_getElem? (i := 44) (by decide +kernel), List.mem_of_getElem? (i := 170) (by decide +kernel), List.mem_of_getElem? (i := 171) (by decide +kernel)⟩
theorem lw_p5 : lw_okq (⟨"Foundrymark", "isBarred", "(LFoundrymark$Lot;)Z"⟩, 14) := ⟨⟨by decide +kernel, by decide +kernel⟩, List.mem_of_getElem? (i := 44) (by decide +kernel), List.mem_of_getElem? (i := 174) (by decide +kernel), List.mem_of_getElem? (i := 175) (by decide +kernel)⟩
theorem lw_p6 : lw_okq (⟨"Foundrymark", "areTracesSound", "()Z"⟩, 14) := ⟨⟨by decide +kernel, by decide +kernel⟩, List.mem_of_getElem? (i := 44) (by decide +kernel), List.mem_of_getElem? (i := 186) (by decide +kernel), List.mem_of_getElem? (i := 187) (by decide +kernel)⟩
theorem lw_p7 : lw_okq (⟨"Foundrymark", "isTraceSound", "(LFoundrymark$Lot;)Z"⟩, 14) := ⟨⟨by decide +kernel, by decide +kernel⟩, List.mem_of_getElem? (i := 44) (by decide +kernel), List.mem_of_getElem? (i := 190) (by decide +kernel), List.mem_of_getElem? (i := 191) (by decide +kernel)⟩
theorem lw_p8 : lw_okq (⟨"java/lang/Throwable", "fillInStackTrace", "(I)Ljava/lang/Throwable;"⟩, 6) := ⟨⟨by decide +kernel, by decide +kernel⟩, List.mem_of_getElem? (i := 248) (by decide +kernel), List.mem_of_getElem? (i := 246) (by decide +kernel), List.mem_of_getElem? (i := 247) (by decide +kernel)⟩
theorem lw_p9 : lw_okq (⟨"Foundrymark", "knownPart", "(I)LFoundrymark$Part;"⟩, 14) := ⟨⟨by decide +kernel, by decide +kernel⟩, List.mem_of_getElem? (i := 44) (by decide +kernel), List.mem_of_getElem? (i := 442) (by decide +kernel), List.mem_of_getElem? (i := 443) (by decide +kernel)⟩
theorem lw_p10 : lw_okq (⟨"Foundrymark", "knownMachine", "(I)LFoundrymark$Machine;"⟩, 14) := ⟨⟨by decide +kernel, by decide +kernel⟩, List.mem_of_getElem? (i := 44) (by decide +kernel), List.mem_of_getElem? (i := 511) (by decide +kernel), List.mem_of_getElem? (i := 512) (by decide +kernel)⟩
theorem lw_p11 : lw_okq (⟨"Foundrymark", "findSupplier", "(I)LFoundrymark$Supplier;"⟩, 14) := ⟨⟨by decide +kernel, by decide +kernel⟩, List.mem_of_getElem? (i := 44) (by decide +kernel), List.mem_of_getElem? (i := 554) (by decide +kernel), List.mem_of_getElem? (i := 555) (by decide +kernel)⟩
theorem lw_p12 : lw_okq (⟨"Foundrymark", "putLot", "(LFoundrymark$Part;IJ)LFoundrymark$Lot;"⟩, 14) := ⟨⟨by decide +kernel, by decide +kernel⟩, List.mem_of_getElem? (i := 44) (by decide +kernel), List.mem_of_getElem? (i := 561) (by decide +kernel), List.mem_of_getElem? (i := 562) (by decide +kernel)⟩
theorem lw_p13 : lw_okq (⟨"Foundrymark$Supplier", "mostBad", "()I"⟩, 3) := ⟨⟨by decide +kernel, by decide +kernel⟩, List.mem_of_getElem? (i := 74) (by decide +kernel), List.mem_of_getElem? (i := 619) (by decide +kernel), List.mem_of_getElem? (i := 620) (by decide +kernel)⟩
theorem lw_p14 : lw_okq (⟨"Foundrymark$Supplier", "nextRule", "(Z)C"⟩, 3) := ⟨⟨by decide +kernel, by decide +kernel⟩, List.mem_of_getElem? (i := 74) (by decide +kernel), List.mem_of_getElem? (i := 623) (by decide +kernel), List.mem_of_getElem? (i := 624) (by decide +kernel)⟩
theorem lw_p15 : lw_okq (⟨"Foundrymark$Supplier", "areAccepted", "(I)Z"⟩, 3) := ⟨⟨by decide +kernel, by decide +kernel⟩, List.mem_of_getElem? (i := 74) (by decide +kernel), List.mem_of_getElem? (i := 627) (by decide +kernel), List.mem_of_getElem? (i := 628) (by decide +kernel)⟩
def lw_privs_1 : List (MethodName × Nat) := [(⟨"Foundrymark", "areLotsSound", "()Z"⟩, 14), (⟨"Foundrymark", "piecesIn", "(LFoundrymark$Lot;Z)I"⟩, 14), (⟨"Foundrymark", "areJobsSound", "()Z"⟩, 14), (⟨"Foundrymark", "areCostsSound", "()Z"⟩, 14), (⟨"Foundrymark", "arePromisesSound", "()Z"⟩, 14), (⟨"Foundrymark", "isBarred", "(LFoundrymark$Lot;)Z"⟩, 14), (⟨"Foundrymark", "areTracesSound", "()Z"⟩, 14), (⟨"Foundrymark", "isTraceSound", "(LFoundrymark$Lot;)Z"⟩, 14), (⟨"java/lang/Throwable", "fillInStackTrace", "(I)Ljava/lang/Throwable;"⟩, 6), (⟨"Foundrymark", "knownPart", "(I)LFoundrymark$Part;"⟩, 14), (⟨"Foundrymark", "knownMachine", "(I)LFoundrymark$Machine;"⟩, 14), (⟨"Foundrymark", "findSupplier", "(I)LFoundrymark$Supplier;"⟩, 14), (⟨"Foundrymark", "putLot", "(LFoundrymark$Part;IJ)LFoundrymark$Lot;"⟩, 14), (⟨"Foundrymark$Supplier", "mostBad", "()I"⟩, 3), (⟨"Foundrymark$Supplier", "nextRule", "(Z)C"⟩, 3), (⟨"Foundrymark$Supplier", "areAccepted", "(I)Z"⟩, 3)]
theorem lw_r1 : ∀ q ∈ lw_privs_1, lw_okq q := List.forall_mem_cons.mpr ⟨lw_p0, List.forall_mem_cons.mpr ⟨lw_p1, List.forall_mem_cons.mpr ⟨lw_p2, List.forall_mem_cons.mpr ⟨lw_p3, List.forall_mem_cons.mpr ⟨lw_p4, List.forall_mem_cons.mpr ⟨lw_p5, List.forall_mem_cons.mpr ⟨lw_p6, List.forall_mem_cons.mpr ⟨lw_p7, List.forall_mem_cons.mpr ⟨lw_p8, List.forall_mem_cons.mpr ⟨lw_p9, List.forall_mem_cons.mpr ⟨lw_p10, List.forall_mem_cons.mpr ⟨lw_p11, List.forall_mem_cons.mpr ⟨lw_p12, List.forall_mem_cons.mpr ⟨lw_p13, List.forall_mem_cons.mpr ⟨lw_p14, List.forall_mem_cons.mpr ⟨lw_p15, fun _ h => absurd h List.not_mem_nil⟩⟩⟩⟩⟩⟩⟩⟩⟩⟩⟩⟩⟩⟩⟩⟩
theorem lw_p16 : lw_okq (⟨"Foundrymark", "knownLot", "(I)LFoundrymark$Lot;"⟩, 14) := ⟨⟨by decide +kernel, by decide +kernel⟩, List.mem_of_getElem? (i := 44) (by decide +kernel), List.mem_of_getElem? (i := 656) (by decide +kernel), List.mem_of_getElem? (i := 657) (by decide +kernel)⟩
theorem lw_p17 : lw_okq (⟨"Foundrymark", "putOnHold", "(LFoundrymark$Lot;)I"⟩, 14) := ⟨⟨by decide +kernel, by decide +kernel⟩, List.mem_of_getElem? (i := 44) (by decide +kernel), List.mem_of_getElem? (i := 661) (by decide +kernel), List.mem_of_getElem? (i := 662) (by decide +kernel)⟩
theorem lw_p18 : lw_okq (⟨"Foundrymark", "hasBarredPieces", "(LFoundrymark$Order;)Z"⟩, 14) := ⟨⟨by decide +kernel, by decide +kernel⟩, List.mem_of_getElem? (i := 44) (by decide +kernel), List.mem_of_getElem? (i := 665) (by decide +kernel), List.mem_of_getElem? (i := 666) (by decide +kernel)⟩
theorem lw_p19 : lw_okq (⟨"Foundrymark", "dropPromise", "(LFoundrymark$Order;)I"⟩, 14) := ⟨⟨by decide +kernel, by decide +kernel⟩, List.mem_of_getElem? (i := 44) (by decide +kernel), List.mem_of_getElem? (i := 669) (by decide +kernel), List.mem_of_getElem? (i := 670) (by decide +kernel)⟩
theorem lw_p20 : lw_okq (⟨"Foundrymark", "knownOrder", "(I)LFoundrymark$Order;"⟩, 14) := ⟨⟨by decide +kernel, by decide +kernel⟩, List.mem_of_getElem? (i := 44) (by decide +kernel), List.mem_of_getElem? (i := 851) (by decide +kernel), List.mem_of_getElem? (i := 852) (by decide +kernel)⟩
theorem lw_p21 : lw_okq (⟨"Foundrymark", "reserveAll", "(LFoundrymark$Order;)Z"⟩, 14) := ⟨⟨by decide +kernel, by decide +kernel⟩, List.mem_of_getElem? (i := 44) (by decide +kernel), List.mem_of_getElem? (i := 857) (by decide +kernel), List.mem_of_getElem? (i := 858) (by decide +kernel)⟩
theorem lw_p22 : lw_okq (⟨"Foundrymark", "reserve", "(LFoundrymark$Order;LFoundrymark$Component;)Z"⟩, 14) := ⟨⟨by decide +kernel, by decide +kernel⟩, List.mem_of_getElem? (i := 44) (by decide +kernel), List.mem_of_getElem? (i := 865) (by decide +kernel), List.mem_of_getElem? (i := 866) (by decide +kernel)⟩
theorem lw_p23 : lw_okq (⟨"Foundrymark", "freePieces", "(LFoundrymark$Lot;)I"⟩, 14) := ⟨⟨by decide +kernel, by decide +kernel⟩, List.mem_of_getElem? (i := 44) (by decide +kernel), List.mem_of_getElem? (i := 869) (by decide +kernel), List.mem_of_getElem? (i := 870) (by decide +kernel)⟩
theorem lw_p24 : lw_okq (⟨"Foundrymark", "takeReserved", "(LFoundrymark$Order;)V"⟩, 14) := ⟨⟨by decide +kernel, by decide +kernel⟩, List.mem_of_getElem? (i := 44) (by decide +kernel), List.mem_of_getElem? (i := 892) (by decide +kernel), List.mem_of_getElem? (i := 893) (by decide +kernel)⟩
theorem lw_p25 : lw_okq (⟨"Foundrymark", "sendOn", "(LFoundrymark$Order;)LFoundrymark$Machine;"⟩, 14) := ⟨⟨by decide +kernel, by decide +kernel⟩, List.mem_of_getElem? (i := 44) (by decide +kernel), List.mem_of_getElem? (i := 900) (by decide +kernel), List.mem_of_getElem? (i := 901) (by decide +kernel)⟩
theorem lw_p26 : lw_okq (⟨"Foundrymark", "chooseMachine", "(LFoundrymark$Operation;)LFoundrymark$Machine;"⟩, 14) := ⟨⟨by decide +kernel, by decide +kernel⟩, List.mem_of_getElem? (i := 44) (by decide +kernel), List.mem_of_getElem? (i := 908) (by decide +kernel), List.mem_of_getElem? (i := 909) (by decide +kernel)⟩
theorem lw_p27 : lw_okq (⟨"Foundrymark", "load", "(LFoundrymark$Machine;)I"⟩, 14) := ⟨⟨by decide +kernel, by decide +kernel⟩, List.mem_of_getElem? (i := 44) (by decide +kernel), List.mem_of_getElem? (i := 912) (by decide +kernel), List.mem_of_getElem? (i := 913) (by decide +kernel)⟩
theorem lw_p28 : lw_okq (⟨"Foundrymark", "countWaiting", "(LFoundrymark$Machine;)I"⟩, 14) := ⟨⟨by decide +kernel, by decide +kernel⟩, List.mem_of_getElem? (i := 44) (by decide +kernel), List.mem_of_getElem? (i := 916) (by decide +kernel), List.mem_of_getElem? (i := 917) (by decide +kernel)⟩
theorem lw_p29 : lw_okq (⟨"Foundrymark", "finish", "(LFoundrymark$Order;)V"⟩, 14) := ⟨⟨by decide +kernel, by decide +kernel⟩, List.mem_of_getElem? (i := 44) (by decide +kernel), List.mem_of_getElem? (i := 920) (by decide +kernel), List.mem_of_getElem? (i := 921) (by decide +kernel)⟩
theorem lw_p30 : lw_okq (⟨"Foundrymark", "noteSources", "(LFoundrymark$Order;LFoundrymark$Lot;)V"⟩, 14) := ⟨⟨by decide +kernel, by decide +kernel⟩, List.mem_of_getElem? (i := 44) (by decide +kernel), List.mem_of_getElem? (i := 924) (by decide +kernel), List.mem_of_getElem? (i := 925) (by decide +kernel)⟩
theorem lw_p31 : lw_okq (⟨"Foundrymark", "beginNext", "(LFoundrymark$Machine;)V"⟩, 14) := ⟨⟨by decide +kernel, by decide +kernel⟩, List.mem_of_getElem? (i := 44) (by decide +kernel), List.mem_of_getElem? (i := 933) (by decide +kernel), List.mem_of_getElem? (i := 934) (by decide +kernel)⟩
def lw_privs_2 : List (MethodName × Nat) := [(⟨"Foundrymark", "knownLot", "(I)LFoundrymark$Lot;"⟩, 14), (⟨"Foundrymark", "putOnHold", "(LFoundrymark$Lot;)I"⟩, 14), (⟨"Foundrymark", "hasBarredPieces", "(LFoundrymark$Order;)Z"⟩, 14), (⟨"Foundrymark", "dropPromise", "(LFoundrymark$Order;)I"⟩, 14), (⟨"Foundrymark", "knownOrder", "(I)LFoundrymark$Order;"⟩, 14), (⟨"Foundrymark", "reserveAll", "(LFoundrymark$Order;)Z"⟩, 14), (⟨"Foundrymark", "reserve", "(LFoundrymark$Order;LFoundrymark$Component;)Z"⟩, 14), (⟨"Foundrymark", "freePieces", "(LFoundrymark$Lot;)I"⟩, 14), (⟨"Foundrymark", "takeReserved", "(LFoundrymark$Order;)V"⟩, 14), (⟨"Foundrymark", "sendOn", "(LFoundrymark$Order;)LFoundrymark$Machine;"⟩, 14), (⟨"Foundrymark", "chooseMachine", "(LFoundrymark$Operation;)LFoundrymark$Machine;"⟩, 14), (⟨"Foundrymark", "load", "(LFoundrymark$Machine;)I"⟩, 14), (⟨"Foundrymark", "countWaiting", "(LFoundrymark$Machine;)I"⟩, 14), (⟨"Foundrymark", "finish", "(LFoundrymark$Order;)V"⟩, 14), (⟨"Foundrymark", "noteSources", "(LFoundrymark$Order;LFoundrymark$Lot;)V"⟩, 14), (⟨"Foundrymark", "beginNext", "(LFoundrymark$Machine;)V"⟩, 14)]
theorem lw_r2 : ∀ q ∈ lw_privs_2, lw_okq q := List.forall_mem_cons.mpr ⟨lw_p16, List.forall_mem_cons.mpr ⟨lw_p17, List.forall_mem_cons.mpr ⟨lw_p18, List.forall_mem_cons.mpr ⟨lw_p19, List.forall_mem_cons.mpr ⟨lw_p20, List.forall_mem_cons.mpr ⟨lw_p21, List.forall_mem_cons.mpr ⟨lw_p22, List.forall_mem_cons.mpr ⟨lw_p23, List.forall_mem_cons.mpr ⟨lw_p24, List.forall_mem_cons.mpr ⟨lw_p25, List.forall_mem_cons.mpr ⟨lw_p26, List.forall_mem_cons.mpr ⟨lw_p27, List.forall_mem_cons.mpr ⟨lw_p28, List.forall_mem_cons.mpr ⟨lw_p29, List.forall_mem_cons.mpr ⟨lw_p30, List.forall_mem_cons.mpr ⟨lw_p31, fun _ h => absurd h List.not_mem_nil⟩⟩⟩⟩⟩⟩⟩⟩⟩⟩⟩⟩⟩⟩⟩⟩
theorem lw_p32 : lw_okq (⟨"Foundrymark", "firstWaiting", "(LFoundrymark$Machine;)LFoundrymark$Order;"⟩, 14) := ⟨⟨by decide +kernel, by decide +kernel⟩, List.mem_of_getElem? (i := 44) (by decide +kernel), List.mem_of_getElem? (i := 937) (by decide +kernel), List.mem_of_getElem? (i := 938) (by decide +kernel)⟩
theorem lw_p33 : lw_okq (⟨"Foundrymark", "passTime", "()V"⟩, 14) := ⟨⟨by decide +kernel, by decide +kernel⟩, List.mem_of_getElem? (i := 44) (by decide +kernel), List.mem_of_getElem? (i := 966) (by decide +kernel), List.mem_of_getElem? (i := 967) (by decide +kernel)⟩
theorem lw_p34 : lw_okq (⟨"Foundrymark", "endWork", "(LFoundrymark$Machine;)V"⟩, 14) := ⟨⟨by decide +kernel, by decide +kernel⟩, List.mem_of_getElem? (i := 44) (by decide +kernel), List.mem_of_getElem? (i := 970) (by decide +kernel), List.mem_of_getElem? (i := 971) (by decide +kernel)⟩
theorem lw_p35 : lw_okq (⟨"Foundrymark", "freePiecesOf", "(LFoundrymark$Part;)I"⟩, 14) := ⟨⟨by decide +kernel, by decide +kernel⟩, List.mem_of_getElem? (i := 44) (by decide +kernel), List.mem_of_getElem? (i := 986) (by decide +kernel), List.mem_of_getElem? (i := 987) (by decide +kernel)⟩
theorem lw_p36 : lw_okq (⟨"Foundrymark", "takeForDelivery", "(LFoundrymark$Order;)V"⟩, 14) := ⟨⟨by decide +kernel, by decide +kernel⟩, List.mem_of_getElem? (i := 44) (by decide +kernel), List.mem_of_getElem? (i := 990) (by decide +kernel), List.mem_of_getElem? (i := 991) (by decide +kernel)⟩
theorem lw_p37 : lw_okq (⟨"Foundrymark", "deliverOf", "(LFoundrymark$Lot;ILFoundrymark$Order;)I"⟩, 14) := ⟨⟨by decide +kernel, by decide +kernel⟩, List.mem_of_getElem? (i := 44) (by decide +kernel), List.mem_of_getElem? (i := 994) (by decide +kernel), List.mem_of_getElem? (i := 995) (by decide +kernel)⟩
theorem lw_p38 : lw_okq (⟨"Foundrymark", "noteOrderOnLots", "(LFoundrymark$Order;)V"⟩, 14) := ⟨⟨by decide +kernel, by decide +kernel⟩, List.mem_of_getElem? (i := 44) (by decide +kernel), List.mem_of_getElem? (i := 998) (by decide +kernel), List.mem_of_getElem? (i := 999) (by decide +kernel)⟩
theorem lw_p39 : lw_okq (⟨"java/util/ArrayList", "add", "(Ljava/lang/Object;[Ljava/lang/Object;I)V"⟩, 3) := ⟨⟨by decide +kernel, by decide +kernel⟩, List.mem_of_getElem? (i := 1143) (by decide +kernel), List.mem_of_getElem? (i := 1176) (by decide +kernel), List.mem_of_getElem? (i := 1177) (by decide +kernel)⟩
theorem lw_p40 : lw_okq (⟨"java/util/ArrayList", "grow", "()[Ljava/lang/Object;"⟩, 3) := ⟨⟨by decide +kernel, by decide +kernel⟩, List.mem_of_getElem? (i := 1143) (by decide +kernel), List.mem_of_getElem? (i := 1180) (by decide +kernel), List.mem_of_getElem? (i := 1181) (by decide +kernel)⟩
theorem lw_p41 : lw_okq (⟨"java/util/ArrayList", "grow", "(I)[Ljava/lang/Object;"⟩, 3) := ⟨⟨by decide +kernel, by decide +kernel⟩, List.mem_of_getElem? (i := 1143) (by decide +kernel), List.mem_of_getElem? (i := 1184) (by decide +kernel), List.mem_of_getElem? (i := 1185) (by decide +kernel)⟩
theorem lw_p42 : lw_okq (⟨"FoundrymarkModel", "fails", "(I)Z"⟩, 9) := ⟨⟨by decide +kernel, by decide +kernel⟩, List.mem_of_getElem? (i := 1137) (by decide +kernel), List.mem_of_getElem? (i := 1286) (by decide +kernel), List.mem_of_getElem? (i := 1287) (by decide +kernel)⟩
theorem lw_p43 : lw_okq (⟨"FoundrymarkModel", "isPart", "(I)Z"⟩, 9) := ⟨⟨by decide +kernel, by decide +kernel⟩, List.mem_of_getElem? (i := 1137) (by decide +kernel), List.mem_of_getElem? (i := 1386) (by decide +kernel), List.mem_of_getElem? (i := 1387) (by decide +kernel)⟩
theorem lw_p44 : lw_okq (⟨"FoundrymarkModel", "isMachine", "(I)Z"⟩, 9) := ⟨⟨by decide +kernel, by decide +kernel⟩, List.mem_of_getElem? (i := 1137) (by decide +kernel), List.mem_of_getElem? (i := 1408) (by decide +kernel), List.mem_of_getElem? (i := 1409) (by decide +kernel)⟩
theorem lw_p45 : lw_okq (⟨"FoundrymarkModel", "lot", "(IIJ)LFoundrymarkModel$Lot;"⟩, 9) := ⟨⟨by decide +kernel, by decide +kernel⟩, List.mem_of_getElem? (i := 1137) (by decide +kernel), List.mem_of_getElem? (i := 1416) (by decide +kernel), List.mem_of_getElem? (i := 1417) (by decide +kernel)⟩
theorem lw_p46 : lw_okq (⟨"FoundrymarkModel", "failsLot", "(I)Z"⟩, 9) := ⟨⟨by decide +kernel, by decide +kernel⟩, List.mem_of_getElem? (i := 1137) (by decide +kernel), List.mem_of_getElem? (i := 1484) (by decide +kernel), List.mem_of_getElem? (i := 1485) (by decide +kernel)⟩
theorem lw_p47 : lw_okq (⟨"FoundrymarkModel", "lose", "()I"⟩, 9) := ⟨⟨by decide +kernel, by decide +kernel⟩, List.mem_of_getElem? (i := 1137) (by decide +kernel), List.mem_of_getElem? (i := 1488) (by decide +kernel), List.mem_of_getElem? (i := 1489) (by decide +kernel)⟩
def lw_privs_3 : List (MethodName × Nat) := [(⟨"Foundrymark", "firstWaiting", "(LFoundrymark$Machine;)LFoundrymark$Order;"⟩, 14), (⟨"Foundrymark", "passTime", "()V"⟩, 14), (⟨"Foundrymark", "endWork", "(LFoundrymark$Machine;)V"⟩, 14), (⟨"Foundrymark", "freePiecesOf", "(LFoundrymark$Part;)I"⟩, 14), (⟨"Foundrymark", "takeForDelivery", "(LFoundrymark$Order;)V"⟩, 14), (⟨"Foundrymark", "deliverOf", "(LFoundrymark$Lot;ILFoundrymark$Order;)I"⟩, 14), (⟨"Foundrymark", "noteOrderOnLots", "(LFoundrymark$Order;)V"⟩, 14), (⟨"java/util/ArrayList", "add", "(Ljava/lang/Object;[Ljava/lang/Object;I)V"⟩, 3), (⟨"java/util/ArrayList", "grow", "()[Ljava/lang/Object;"⟩, 3), (⟨"java/util/ArrayList", "grow", "(I)[Ljava/lang/Object;"⟩, 3), (⟨"FoundrymarkModel", "fails", "(I)Z"⟩, 9), (⟨"FoundrymarkModel", "isPart", "(I)Z"⟩, 9), (⟨"FoundrymarkModel", "isMachine", "(I)Z"⟩, 9), (⟨"FoundrymarkModel", "lot", "(IIJ)LFoundrymarkModel$Lot;"⟩, 9), (⟨"FoundrymarkModel", "failsLot", "(I)Z"⟩, 9), (⟨"FoundrymarkModel", "lose", "()I"⟩, 9)]
theorem lw_r3 : ∀ q ∈ lw_privs_3, lw_okq q := List.forall_mem_cons.mpr ⟨lw_p32, List.forall_mem_cons.mpr ⟨lw_p33, List.forall_mem_cons.mpr ⟨lw_p34, List.forall_mem_cons.mpr ⟨lw_p35, List.forall_mem_cons.mpr ⟨lw_p36, List.forall_mem_cons.mpr ⟨lw_p37, List.forall_mem_cons.mpr ⟨lw_p38, List.forall_mem_cons.mpr ⟨lw_p39, List.forall_mem_cons.mpr ⟨lw_p40, List.forall_mem_cons.mpr ⟨lw_p41, List.forall_mem_cons.mpr ⟨lw_p42, List.forall_mem_cons.mpr ⟨lw_p43, List.forall_mem_cons.mpr ⟨lw_p44, List.forall_mem_cons.mpr ⟨lw_p45, List.forall_mem_cons.mpr ⟨lw_p46, List.forall_mem_cons.mpr ⟨lw_p47, fun _ h => absurd h List.not_mem_nil⟩⟩⟩⟩⟩⟩⟩⟩⟩⟩⟩⟩⟩⟩⟩⟩
theorem lw_p48 : lw_okq (⟨"FoundrymarkModel", "free", "(LFoundrymarkModel$Order;)I"⟩, 9) := ⟨⟨by decide +kernel, by decide +kernel⟩, List.mem_of_getElem? (i := 1137) (by decide +kernel), List.mem_of_getElem? (i := 1561) (by decide +kernel), List.mem_of_getElem? (i := 1562) (by decide +kernel)⟩
theorem lw_p49 : lw_okq (⟨"FoundrymarkModel", "failsOrder", "(I)Z"⟩, 9) := ⟨⟨by decide +kernel, by decide +kernel⟩, List.mem_of_getElem? (i := 1137) (by decide +kernel), List.mem_of_getElem? (i := 1680) (by decide +kernel), List.mem_of_getElem? (i := 1681) (by decide +kernel)⟩
theorem lw_p50 : lw_okq (⟨"FoundrymarkModel", "reserve", "(LFoundrymarkModel$Order;)Z"⟩, 9) := ⟨⟨by decide +kernel, by decide +kernel⟩, List.mem_of_getElem? (i := 1137) (by decide +kernel), List.mem_of_getElem? (i := 1684) (by decide +kernel), List.mem_of_getElem? (i := 1685) (by decide +kernel)⟩
theorem lw_p51 : lw_okq (⟨"FoundrymarkModel", "goOn", "(LFoundrymarkModel$Order;)V"⟩, 9) := ⟨⟨by decide +kernel, by decide +kernel⟩, List.mem_of_getElem? (i := 1137) (by decide +kernel), List.mem_of_getElem? (i := 1725) (by decide +kernel), List.mem_of_getElem? (i := 1726) (by decide +kernel)⟩
theorem lw_p52 : lw_okq (⟨"FoundrymarkModel", "jobs", "(I)I"⟩, 9) := ⟨⟨by decide +kernel, by decide +kernel⟩, List.mem_of_getElem? (i := 1137) (by decide +kernel), List.mem_of_getElem? (i := 1729) (by decide +kernel), List.mem_of_getElem? (i := 1730) (by decide +kernel)⟩
theorem lw_p53 : lw_okq (⟨"FoundrymarkModel", "waits", "(I)I"⟩, 9) := ⟨⟨by decide +kernel, by decide +kernel⟩, List.mem_of_getElem? (i := 1137) (by decide +kernel), List.mem_of_getElem? (i := 1733) (by decide +kernel), List.mem_of_getElem? (i := 1734) (by decide +kernel)⟩
theorem lw_p54 : lw_okq (⟨"FoundrymarkModel", "begin", "()V"⟩, 9) := ⟨⟨by decide +kernel, by decide +kernel⟩, List.mem_of_getElem? (i := 1137) (by decide +kernel), List.mem_of_getElem? (i := 1752) (by decide +kernel), List.mem_of_getElem? (i := 1753) (by decide +kernel)⟩
theorem lw_p55 : lw_okq (⟨"FoundrymarkModel", "end", "()V"⟩, 9) := ⟨⟨by decide +kernel, by decide +kernel⟩, List.mem_of_getElem? (i := 1137) (by decide +kernel), List.mem_of_getElem? (i := 1764) (by decide +kernel), List.mem_of_getElem? (i := 1765) (by decide +kernel)⟩
theorem lw_p56 : lw_okq (⟨"FoundrymarkModel", "sources", "(LFoundrymarkModel$Order;)Ljava/util/ArrayList;"⟩, 9) := ⟨⟨by decide +kernel, by decide +kernel⟩, List.mem_of_getElem? (i := 1137) (by decide +kernel), List.mem_of_getElem? (i := 1772) (by decide +kernel), List.mem_of_getElem? (i := 1773) (by decide +kernel)⟩
theorem lw_p57 : lw_okq (⟨"FoundrymarkModel", "failsMachine", "(I)Z"⟩, 9) := ⟨⟨by decide +kernel, by decide +kernel⟩, List.mem_of_getElem? (i := 1137) (by decide +kernel), List.mem_of_getElem? (i := 1792) (by decide +kernel), List.mem_of_getElem? (i := 1793) (by decide +kernel)⟩
def lw_privs_4 : List (MethodName × Nat) := [(⟨"FoundrymarkModel", "free", "(LFoundrymarkModel$Order;)I"⟩, 9), (⟨"FoundrymarkModel", "failsOrder", "(I)Z"⟩, 9), (⟨"FoundrymarkModel", "reserve", "(LFoundrymarkModel$Order;)Z"⟩, 9), (⟨"FoundrymarkModel", "goOn", "(LFoundrymarkModel$Order;)V"⟩, 9), (⟨"FoundrymarkModel", "jobs", "(I)I"⟩, 9), (⟨"FoundrymarkModel", "waits", "(I)I"⟩, 9), (⟨"FoundrymarkModel", "begin", "()V"⟩, 9), (⟨"FoundrymarkModel", "end", "()V"⟩, 9), (⟨"FoundrymarkModel", "sources", "(LFoundrymarkModel$Order;)Ljava/util/ArrayList;"⟩, 9), (⟨"FoundrymarkModel", "failsMachine", "(I)Z"⟩, 9)]
theorem lw_r4 : ∀ q ∈ lw_privs_4, lw_okq q := List.forall_mem_cons.mpr ⟨lw_p48, List.forall_mem_cons.mpr ⟨lw_p49, List.forall_mem_cons.mpr ⟨lw_p50, List.forall_mem_cons.mpr ⟨lw_p51, List.forall_mem_cons.mpr ⟨lw_p52, List.forall_mem_cons.mpr ⟨lw_p53, List.forall_mem_cons.mpr ⟨lw_p54, List.forall_mem_cons.mpr ⟨lw_p55, List.forall_mem_cons.mpr ⟨lw_p56, List.forall_mem_cons.mpr ⟨lw_p57, fun _ h => absurd h List.not_mem_nil⟩⟩⟩⟩⟩⟩⟩⟩⟩⟩
def lw_privs : List (MethodName × Nat) := lw_privs_1 ++ (lw_privs_2 ++ (lw_privs_3 ++ (lw_privs_4)))
def lw_tbl : List Cond := k2_sels lw_privs ++ tables_1
theorem lw_privs_ok : ∀ q ∈ lw_privs, lw_okq q := by
  show ∀ q ∈ lw_privs_1 ++ (lw_privs_2 ++ (lw_privs_3 ++ (lw_privs_4))), lw_okq q
  exact List.forall_mem_append.mpr ⟨lw_r1, List.forall_mem_append.mpr ⟨lw_r2, List.forall_mem_append.mpr ⟨lw_r3, lw_r4⟩⟩⟩
/-- the streams that the claim lets the run draw from -/
abbrev lw_cs : List Choice := [Jvm.Choice.named "NaN.bits"]
theorem lw_bits : nanBits ∈ lw_cs := by first | decide | exact List.mem_cons_self | simp [lw_cs, nanBits]
-- ===== end of PART A; then your names; then what follows =====
end
section
/-! ===== BEGIN words of one list among another's, by their places ===== -/
theorem goodIn_r {big : List Cond} (ws : List Cond) (ps : List Nat) (hp : ws = ps.filterMap (fun i => big[i]?)) (h : ws.all goodWord = true) : GoodIn big ws := by
  intro w hw
  have h1 := List.all_eq_true.mp h w hw
  rw [hp] at hw
  obtain ⟨i, -, hi⟩ := List.mem_filterMap.mp hw
  have hm : w ∈ big := by first | exact List.mem_of_getElem? hi | exact List.getElem?_mem hi
  exact ⟨hm, good_of_word h1⟩
theorem goodIn_app {big a b : List Cond} (ha : GoodIn big a) (hb : GoodIn big b) : GoodIn big (a ++ b) := fun w h => (List.mem_append.mp h).elim (ha w) (hb w)
theorem goodIn_ca {big a b : List Cond} {c : Cond} (ha : GoodIn big (c :: a)) (hb : GoodIn big b) : GoodIn big (c :: (a ++ b)) := fun w h => (List.mem_cons.mp h).elim (fun e => ha w (List.mem_cons.mpr (Or.inl e))) (fun h => (List.mem_append.mp h).elim (fun h => ha w (List.mem_cons.mpr (Or.inr h))) (hb w))
theorem goodIn_sub {big ws : List Cond} (hm : ∀ w ∈ ws, w ∈ big) (h : ws.all goodWord = true) : GoodIn big ws := fun w hw => ⟨hm w hw, good_of_word (List.all_eq_true.mp h w hw)⟩
/-! ===== END ===== -/

/-! ===== BEGIN exceptions that leave a method, and their catching by the caller (launches without stack traces) ===== -/
section VXA
/-! The laws vx_back, vx_callV, vx_callS, vx_callSW, vx_throw0, vx_throwS follow proofs of the library, with one case more: JvmDerived/Free/Laws.lean (Back.of_free), Shelf42/LK1.lean (callV, callS), Shelf/KitTraced.lean (throwNew0V, throwNewS). -/
/-- where a method has thrown q: the class by its name, the cell, what was written, the world -/
def vx_T (XC : String → State → State → Prop) (st : State) (q : Addr) (t : State) (mc ms : Nat) (free : Addr → Prop) : Prop :=
  ∃ (E : String) (ce : Cell) (L : List Loc), XC E st t ∧ t.heap[q]? = some ce ∧ ce.vm = .none ∧ st.vm.findClass E = some ce.cls ∧ st.WarmedH t.vm ∧ st.sameButNew ({ t with vm := st.vm } : State) L mc ms ∧ ∀ z ∈ L, free z.base
def vx_Q (Qc : Array Value → State → Outcome → State → Prop) (XC : String → State → State → Prop) (mc ms : Nat) (free : Addr → Prop) : Array Value → State → Outcome → State → Prop := fun a st o t =>
  (Qc a st o t ∧ ∃ L, FrameEnd st o t L mc ms ∧ ∀ q ∈ L, free q.base) ∨ ∃ q, o = .threw q ∧ vx_T XC st q t mc ms free
/-- a callee that returns or throws -/
def vx_Met (l : Launch) (y : MethodName) (ws : List Cond) (rm : Room) (Pc : Array Value → State → Prop) (Qc : Array Value → State → Outcome → State → Prop) (XC : String → State → State → Prop) (mc ms : Nat) (free : Addr → Prop) : Prop :=
  MetFree l y (headSpec ws rm) Pc (fun _ _ _ _ _ => True) (vx_Q Qc XC mc ms free)
def vx_Post (XC : String → State → State → Prop) (mc ms : Nat) (free : Addr → Prop) : Pt → Array Value → Addr → Pt → Prop := fun A a q B =>
  ∃ (g : JFrame) (mk : MethodId) (t : State) (L : List Loc) (E : String) (ce : Cell), B.U.heap = t.heap ∧ B.U.vm = t.vm ∧ XC E (A.U.calling g mk a) t ∧ t.heap[q]? = some ce ∧ ce.vm = .none ∧ A.U.vm.findClass E = some ce.cls ∧ B.locs = A.locs ++ L ∧ (∀ z ∈ L, free z.base) ∧ B.cells = A.cells + mc ∧ B.slots = A.slots + ms
def vx_Back (l : Launch) (R : Room) (p : Program) (e : Env) (below : List Frame) (s : State) (sargs : Array Value) (y : MethodName) (len W9 : Nat)
    (Pre : Pt → Array Value → Prop) (Post : Pt → Array Value → Option Value → Pt → Prop) (PostX : Pt → Array Value → Addr → Pt → Prop) : Prop :=
  ∀ (m : MethodId) (meth : Method) (c : Code) (A : Pt) (g : JFrame) (ig : Instr) (mk : MethodId) (a : Array Value),
    Stand p l e R s m sargs below meth c A.U A.locs A.cells A.slots → g.method = m → g.locals.size = c.maxLocals → decode c.code g.pc = .ok (ig, len) →
    2 * g.monitorRoom + (g.stack.map fun v => v.category).sum ≤ W9 → A.U.methodNamed? y = some mk → Pre A a →
    (∃ (v : Option Value) (B : Pt), Stand p l e R s m sargs below meth c B.U B.locs B.cells B.slots ∧ Post A a v B ∧
      Steps p.tables e below (doInvoke e (A.U.setTop g) [] mk a).1 (B.U.setTop { g with pc := g.pc + len, stack := v.toList ++ g.stack })) ∨
    (∃ (q : Addr) (B : Pt), Stand p l e R s m sargs below meth c B.U B.locs B.cells B.slots ∧ PostX A a q B ∧
      Steps p.tables e below (doInvoke e (A.U.setTop g) [] mk a).1 ((B.U.setTop g).pushFrame (.throwing q)))
section Payer
variable {l : Launch} {R : Room} {p : Program} {e : Env} {below : List Frame} {s : State} {sargs : Array Value} {y : MethodName} {len W9 : Nat}
theorem vx_back {ws : List Cond} {rm : Room} {Pc : Array Value → State → Prop} {Qc : Array Value → State → Outcome → State → Prop} {XC : String → State → State → Prop} {mc ms : Nat} {free : Addr → Prop} {bytes : ByteArray} {maxL : Nat} {ret : Option FieldType}
    (hM : vx_Met l y ws rm Pc Qc XC mc ms free) (hblind : FrameBlind Pc) (hrc : rm.cells = mc) (hrs : rm.slots = ms)
    (hframes : rm.frames + 1 ≤ R.frames) (hlocals : W9 + (maxL + 11) + rm.locals ≤ R.locals)
    (hws : ∀ w ∈ ws, ∀ a' U, s.WarmedH U.vm → w.before a' U = true) (hcode : Cond.code y bytes maxL ret ∈ ws) (hinit : ∀ a' U, s.WarmedH U.vm → (Cond.initialized y.cls).before a' U = true) :
    vx_Back l R p e below s sargs y len W9 (PreOf R mc ms Pc) (PostOf Qc mc ms free) (vx_Post XC mc ms free) := by
  intro m meth c A g ig mk a X hg hsize hdg hW hn hp
  have h1 : (headSpec ws rm).pre.before a A.U = true := atoms_intro fun w hw => hws w hw _ _ X.warmed
  have h2 : (Cond.code y bytes maxL ret).before a A.U = true := hws _ hcode _ _ X.warmed
  have h3 : (Cond.initialized y.cls).before a A.U = true := hinit _ _ X.warmed
  have h4 : A.cells + (headSpec ws rm).room.cells ≤ R.cells := by rw [show (headSpec ws rm).room.cells = mc from hrc]; exact hp.1
  have h5 : A.slots + (headSpec ws rm).room.slots ≤ R.slots := by rw [show (headSpec ws rm).room.slots = ms from hrs]; exact hp.2.1
  have hPc : Pc a (A.U.calling g mk a) := hblind _ _ _ _ hp.2.2
  obtain ⟨U, Ls, c0, s0⟩ := A
  dsimp only [Pt.U, Pt.locs, Pt.cells, Pt.slots] at h1 h2 h3 h4 h5 X hn hPc ⊢
  obtain ⟨methY, cY, hmY, hcY, -, hlY, -, -, -, -⟩ := Cond.code_spec hn h2
  obtain ⟨kY, hkY, -⟩ := className_of_methodNamed hn
  have hinitY : kY.init = .initialized := Cond.initialized_spec (findClass_of_methodNamed hn) hkY h3
  have h : At U g.method c below := by rw [hg]; exact X.here
  have hlocals9 : W9 + (maxL + 11) + (headSpec ws rm).room.locals ≤ R.locals := hlocals
  have happ : (headSpec ws rm).appliesLoose y e.platform (U.calling g mk a) = true :=
    Spec.appliesLoose_calling (g := g) h hdg hn hkY hinitY
      (X.room_calling (g := g) (R' := (headSpec ws rm).room) hsize hmY hcY hframes (by rw [hlY]; omega) h4 h5) h1
  obtain ⟨mid, hmid⟩ := h.above
  have hfr : (U.setTop g).frames = (.java g :: mid) ++ below := by rw [State.frames_setTop' g h.top, hmid]; rfl
  obtain ⟨o, s₂, hsteps, -, hend, hq⟩ := Steps.callFree hM p X.admits X.cas X.clock (acts := []) hfr happ hPc trivial
  have hq' : vx_Q Qc XC mc ms free a (U.calling g mk a) o s₂ := hq
  rw [State.frames_setTop' g h.top] at hend
  obtain ⟨g₀, hg0⟩ := Option.isSome_iff_exists.mp h.top
  obtain ⟨r, hr⟩ := State.topJava?_eq_some.mp hg0
  have hr' : (({ U with heap := s₂.heap, slotsUsed := s₂.slotsUsed } : State).setVm s₂.vm).frames = .java g₀ :: r := hr
  rcases hq' with ⟨hqc, L, hfe, hL⟩ | ⟨q, rfl, E, ce, L, hx, hce, hcv, hcl, hW₂, hsm, hL⟩
  · obtain ⟨⟨v, rfl⟩, hW₂, e2, q2, q3, q4, q5, q6⟩ := id hfe
    have e3 : s₂ = ({ (U.calling g mk a).setFrames s₂.frames with heap := s₂.heap, slotsUsed := s₂.slotsUsed } : State).setVm s₂.vm := by
      have : s₂ = ({ s₂ with vm := (U.calling g mk a).vm } : State).setVm s₂.vm := rfl
      rw [e2] at this
      exact this
    obtain ⟨c₂, i₂, len₂, hc₂, hd₂, hf₂⟩ := hend
    have hW' : U.WarmedH s₂.vm := hW₂
    have hcc : c₂ = c := by
      have h1 : s₂.code? g.method = U.code? g.method := by
        rw [State.code?_eq, State.code?_eq, hW'.alike.method?]
      exact Option.some.inj (hc₂.symm.trans (h1.trans h.code))
    subst hcc
    have hlen : len₂ = len := by rw [hdg] at hd₂; cases hd₂; rfl
    subst hlen
    have hs₂ : s₂ = (({ U with heap := s₂.heap, slotsUsed := s₂.slotsUsed } : State).setVm s₂.vm).setTop { g with pc := g.pc + len₂, stack := v.toList ++ g.stack } := by
      refine e3.trans ?_
      rw [hf₂, State.calling_eq h.top, State.setFrames_setFrames, State.setTop_of_frames _ hr', hr]
      rfl
    have hsame : U.sameButNew ({ U with heap := s₂.heap, slotsUsed := s₂.slotsUsed } : State) L mc ms := by
      refine ⟨?_, q2, q3, q4, q5, q6⟩
      obtain ⟨t, ht, -⟩ := State.frames_cons hr
      show ({ U with heap := s₂.heap, slotsUsed := s₂.slotsUsed } : State) = { U.setFrames U.frames with heap := s₂.heap, slotsUsed := s₂.slotsUsed }
      rw [State.setFrames_self ht]
    subst hg
    refine Or.inl ⟨v, ⟨(({ U with heap := s₂.heap, slotsUsed := s₂.slotsUsed } : State).setVm s₂.vm), Ls ++ L, c0 + mc, s0 + ms⟩,
      ⟨X.admits, X.cas, X.clock, X.frames, X.room, X.hears, X.method, X.code, (X.here.setHeapUsed s₂.heap s₂.slotsUsed).setVm hW'.alike, X.tail, State.WarmedH.trans X.warmed hW', X.limits, X.bytes, X.same.trans (hsame.setVm s.vm)⟩,
      ⟨g, mk, s₂, L, rfl, rfl, hqc, rfl, hL, rfl, rfl⟩, ?_⟩
    show Steps p.tables e below _ ((({ U with heap := s₂.heap, slotsUsed := s₂.slotsUsed } : State).setVm s₂.vm).setTop { g with pc := g.pc + len₂, stack := v.toList ++ g.stack })
    rw [← hs₂]
    exact hsteps
  · obtain ⟨e2, q2, q3, q4, q5, q6⟩ := id hsm
    have e3 : s₂ = ({ (U.calling g mk a).setFrames s₂.frames with heap := s₂.heap, slotsUsed := s₂.slotsUsed } : State).setVm s₂.vm := by
      have : s₂ = ({ s₂ with vm := (U.calling g mk a).vm } : State).setVm s₂.vm := rfl
      rw [e2] at this
      exact this
    have hf₂ : s₂.frames = .throwing q :: .java g :: U.frames.tail := hend
    have hW' : U.WarmedH s₂.vm := hW₂
    have hs₂ : s₂ = ((({ U with heap := s₂.heap, slotsUsed := s₂.slotsUsed } : State).setVm s₂.vm).setTop g).pushFrame (.throwing q) := by
      refine e3.trans ?_
      rw [hf₂, State.calling_eq h.top, State.setFrames_setFrames, State.pushFrame, State.frames_setTop _ hr', State.setTop_of_frames _ hr', State.setFrames_setFrames, hr]
      rfl
    have hsame : U.sameButNew ({ U with heap := s₂.heap, slotsUsed := s₂.slotsUsed } : State) L mc ms := by
      refine ⟨?_, q2, q3, q4, q5, q6⟩
      obtain ⟨t, ht, -⟩ := State.frames_cons hr
      show ({ U with heap := s₂.heap, slotsUsed := s₂.slotsUsed } : State) = { U.setFrames U.frames with heap := s₂.heap, slotsUsed := s₂.slotsUsed }
      rw [State.setFrames_self ht]
    subst hg
    refine Or.inr ⟨q, ⟨(({ U with heap := s₂.heap, slotsUsed := s₂.slotsUsed } : State).setVm s₂.vm), Ls ++ L, c0 + mc, s0 + ms⟩,
      ⟨X.admits, X.cas, X.clock, X.frames, X.room, X.hears, X.method, X.code, (X.here.setHeapUsed s₂.heap s₂.slotsUsed).setVm hW'.alike, X.tail, State.WarmedH.trans X.warmed hW', X.limits, X.bytes, X.same.trans (hsame.setVm s.vm)⟩,
      ⟨g, mk, s₂, L, E, ce, rfl, rfl, hx, hce, hcv, hcl, rfl, hL, rfl, rfl⟩, ?_⟩
    show Steps p.tables e below _ (((({ U with heap := s₂.heap, slotsUsed := s₂.slotsUsed } : State).setVm s₂.vm).setTop g).pushFrame (.throwing q))
    rw [← hs₂]
    exact hsteps
end Payer
section Calls
variable {p : Program} {l : Launch} {e : Env} {R : Room} {s : State} {m : MethodId} {args : Array Value} {below : List Frame} {meth : Method} {c : Code} {T : State} {locs : List Loc} {cells slots : Nat}
theorem vx_callV (X : Stand p l e R s m args below meth c T locs cells slots) (hexec : p.tables.exec = Jvm.exec) {own C : String} {index : Nat} {y : MethodName} {bytes : ByteArray} {maxL : Nat} {ret : Option FieldType}
    (hown : s.vm.findClass own = some m.cls) (hlink : (Cond.methodLink own index y).before args s = true) (hinst : (Cond.instanceMethod y).before args s = true) (hsel : (Cond.selects C y y).before args s = true)
    (hcode : (Cond.code y bytes maxL ret).before args s = true) (hy : y.cls ≠ "java/lang/invoke/MethodHandle" ∧ y.cls ≠ "java/lang/invoke/VarHandle")
    {W9 : Nat} {Pre : Pt → Array Value → Prop} {Post : Pt → Array Value → Option Value → Pt → Prop} {PostX : Pt → Array Value → Addr → Pt → Prop} (hK : vx_Back l R p e below s args y 3 W9 Pre Post PostX)
    {b : Addr} {cellB : Cell} (hcell : T.heap[b]? = some cellB) (hobj : cellB.vm.isStatics = false) (hcls : s.vm.findClass C = some cellB.cls)
    {g : JFrame} (hg : g.method = m) (hsize : g.locals.size = c.maxLocals) {argsL rest : List Value} (hlen : ∀ sig, parseMethodDescriptor y.desc = some sig → argsL.length = sig.parameters.length)
    (hstack : g.stack = argsL.reverse ++ .ref b :: rest) (hW : 2 * g.monitorRoom + (rest.map fun v => v.category).sum ≤ W9) (hdg : decode c.code g.pc = .ok (.invokevirtual index, 3))
    (hpre : ∀ vm₁, s.WarmedH vm₁ → Pre ⟨T.setVm vm₁, locs, cells, slots⟩ (Value.ref b :: argsL).toArray) :
    (∃ (v : Option Value) (vm₁ : Vm) (B : Pt), s.WarmedH vm₁ ∧ Stand p l e R s m args below meth c B.U B.locs B.cells B.slots ∧ Post ⟨T.setVm vm₁, locs, cells, slots⟩ (Value.ref b :: argsL).toArray v B ∧
      ∀ target, Steps p.tables e below (B.U.setTop { g with pc := g.pc + 3, stack := v.toList ++ rest }) target → Steps p.tables e below (T.setTop g) target) ∨
    (∃ (q : Addr) (vm₁ : Vm) (B : Pt), s.WarmedH vm₁ ∧ Stand p l e R s m args below meth c B.U B.locs B.cells B.slots ∧ PostX ⟨T.setVm vm₁, locs, cells, slots⟩ (Value.ref b :: argsL).toArray q B ∧
      Steps p.tables e below (T.setTop g) ((B.U.setTop { g with stack := rest }).pushFrame (.throwing q))) := by
  obtain ⟨mk, methM, hnamed, hmethM, hstM, habM⟩ := Cond.instanceMethod_spec hinst
  obtain ⟨methM', cM, hmethM', -, -, -, -, -, -, hsigM⟩ := Cond.code_spec hnamed hcode
  cases hmethM.symm.trans hmethM'
  obtain ⟨c2, r2, m2, q1, q2, q3, q4, kP, hkP, hkPi⟩ := Cond.selects_spec hsel
  cases hcls.symm.trans q1
  cases (State.methodFound?_of_named hnamed hy).symm.trans q2
  cases hnamed.symm.trans q3
  have hselP : selectMethod e.platform s.vm cellB.cls mk = .method mk := by rw [Launch.admits_selectMethod X.admits]; exact q4
  obtain ⟨vm₁, X₁, hstep₁⟩ := X.invokevirtual hexec hown hlink hnamed hmethM hstM hkP hkPi hy (a := b) (cell := cellB) hcell
    (fun z h => by rw [h] at hobj; cases hobj) hselP hmethM habM hkP hkPi (g := g) hg (argsL := argsL) (rest := rest) (hlen _ hsigM) hstack hdg
  rcases hK m meth c ⟨T.setVm vm₁, locs, cells, slots⟩ { g with stack := rest } (.invokevirtual index) mk (Value.ref b :: argsL).toArray X₁ hg hsize hdg hW (X₁.named hnamed) (hpre vm₁ X₁.warmed) with ⟨v, B, X', hpost, hsteps⟩ | ⟨q, B, X', hpost, hsteps⟩
  · exact Or.inl ⟨v, vm₁, B, X₁.warmed, X', hpost, fun target h => hstep₁ _ fun acts => by rw [doInvoke_state]; exact hsteps.trans h⟩
  · exact Or.inr ⟨q, vm₁, B, X₁.warmed, X', hpost, hstep₁ _ fun acts => by rw [doInvoke_state]; exact hsteps⟩
theorem vx_callS (X : Stand p l e R s m args below meth c T locs cells slots) (hexec : p.tables.exec = Jvm.exec) {own : String} {index : Nat} {y : MethodName} {bytes : ByteArray} {maxL : Nat} {ret : Option FieldType}
    (hown : s.vm.findClass own = some m.cls) (hlink : (Cond.methodLink own index y).before args s = true) (hstat : (Cond.static y).before args s = true) (hinit : (Cond.initialized y.cls).before args s = true)
    (hcode : (Cond.code y bytes maxL ret).before args s = true) (hy : y.cls ≠ "java/lang/invoke/MethodHandle" ∧ y.cls ≠ "java/lang/invoke/VarHandle")
    {W9 : Nat} {Pre : Pt → Array Value → Prop} {Post : Pt → Array Value → Option Value → Pt → Prop} {PostX : Pt → Array Value → Addr → Pt → Prop} (hK : vx_Back l R p e below s args y 3 W9 Pre Post PostX)
    {g : JFrame} (hg : g.method = m) (hsize : g.locals.size = c.maxLocals) {argsL rest : List Value} (hlen : ∀ sig, parseMethodDescriptor y.desc = some sig → argsL.length = sig.parameters.length)
    (hstack : g.stack = argsL.reverse ++ rest) (hW : 2 * g.monitorRoom + (rest.map fun v => v.category).sum ≤ W9) (hdg : decode c.code g.pc = .ok (.invokestatic index, 3))
    (hpre : ∀ vm₁, s.WarmedH vm₁ → Pre ⟨T.setVm vm₁, locs, cells, slots⟩ argsL.toArray) :
    (∃ (v : Option Value) (vm₁ : Vm) (B : Pt), s.WarmedH vm₁ ∧ Stand p l e R s m args below meth c B.U B.locs B.cells B.slots ∧ Post ⟨T.setVm vm₁, locs, cells, slots⟩ argsL.toArray v B ∧
      ∀ target, Steps p.tables e below (B.U.setTop { g with pc := g.pc + 3, stack := v.toList ++ rest }) target → Steps p.tables e below (T.setTop g) target) ∨
    (∃ (q : Addr) (vm₁ : Vm) (B : Pt), s.WarmedH vm₁ ∧ Stand p l e R s m args below meth c B.U B.locs B.cells B.slots ∧ PostX ⟨T.setVm vm₁, locs, cells, slots⟩ argsL.toArray q B ∧
      Steps p.tables e below (T.setTop g) ((B.U.setTop { g with stack := rest }).pushFrame (.throwing q))) := by
  obtain ⟨mk, hnamed⟩ := Cond.code_named hcode
  obtain ⟨methM, cM, hmethM, -, -, -, -, -, -, hsigM⟩ := Cond.code_spec hnamed hcode
  have hstatic : methM.isStatic = true := Cond.static_spec hnamed hmethM hstat
  obtain ⟨kP, hkP, -⟩ := className_of_methodNamed hnamed
  have hinitP : kP.init = .initialized := Cond.initialized_spec (findClass_of_methodNamed hnamed) hkP hinit
  obtain ⟨vm₁, X₁, hstep₁⟩ := X.invokestatic hexec hown hlink hnamed hmethM hstatic hkP hinitP hy (g := g) hg (argsL := argsL) (rest := rest) (hlen _ hsigM) hstack hdg
  rcases hK m meth c ⟨T.setVm vm₁, locs, cells, slots⟩ { g with stack := rest } (.invokestatic index) mk argsL.toArray X₁ hg hsize hdg hW (X₁.named hnamed) (hpre vm₁ X₁.warmed) with ⟨v, B, X', hpost, hsteps⟩ | ⟨q, B, X', hpost, hsteps⟩
  · exact Or.inl ⟨v, vm₁, B, X₁.warmed, X', hpost, fun target h => hstep₁ _ fun acts => by rw [doInvoke_state]; exact hsteps.trans h⟩
  · exact Or.inr ⟨q, vm₁, B, X₁.warmed, X', hpost, hstep₁ _ fun acts => by rw [doInvoke_state]; exact hsteps⟩
end Calls
theorem vx_cls {s : State} {T : State} {vm₁ : Vm} {E : String} {k : ClassId} (hW : s.WarmedH vm₁) (h : (T.setVm vm₁).vm.findClass E = some k) : s.vm.findClass E = some k := by
  have h1 : vm₁.findClass E = some k := h
  rw [hW.alike.findClass] at h1
  exact h1
/-- the method's frame g, with q thrown over it -/
def vx_W (p : Program) (l : Launch) (e : Env) (R : Room) (s : State) (m : MethodId) (args : Array Value) (below : List Frame) (meth : Method) (c : Code) (H : Heap) (locs : List Loc) (cells slots : Nat) (Q : State → Prop) (g : JFrame) (q : Addr) : Prop :=
  ∀ T : State, T.heap = H → Stand p l e R s m args below meth c T locs cells slots → ∃ t, Steps p.tables e below ((T.setTop g).pushFrame (.throwing q)) t ∧ Q t
def vx_Run (p : Program) (l : Launch) (e : Env) (R : Room) (s : State) (m : MethodId) (args : Array Value) (below : List Frame) (meth : Method) (c : Code) (H : Heap) (locs : List Loc) (cells slots mc ms : Nat) (g : JFrame) (rest : List Value) (Qa : State → Outcome → State → Prop) (XC : String → State → State → Prop) (free : Addr → Prop) : Prop :=
  ∀ T : State, T.heap = H → Stand p l e R s m args below meth c T locs cells slots →
    (∃ (v : Option Value) (st₀ t T' : State) (L : List Loc), st₀.heap = H ∧ Stand p l e R s m args below meth c T' (locs ++ L) (cells + mc) (slots + ms) ∧ (∀ q ∈ L, free q.base) ∧ T'.heap = t.heap ∧ T'.vm = t.vm ∧ Qa st₀ (.returned v) t ∧
      Goes p e below T g T' { g with pc := g.pc + 3, stack := v.toList ++ rest }) ∨
    (∃ (q : Addr) (st₀ t T' : State) (L : List Loc) (E : String) (ce : Cell), st₀.heap = H ∧ Stand p l e R s m args below meth c T' (locs ++ L) (cells + mc) (slots + ms) ∧ (∀ z ∈ L, free z.base) ∧ T'.heap = t.heap ∧ T'.vm = t.vm ∧ XC E st₀ t ∧ t.heap[q]? = some ce ∧ ce.vm = .none ∧ s.vm.findClass E = some ce.cls ∧
      Steps p.tables e below (T.setTop g) ((T'.setTop { g with stack := rest }).pushFrame (.throwing q)))
def vx_X {S : Type} (px : S → Prop) (B : String → S → State → Prop) (A : Nat → Prop) : String → State → State → Prop := fun E st t => ∃ u : S, px u ∧ B E u t ∧ va_F A st t
section Runs
variable {p : Program} {l : Launch} {e : Env} {R : Room} {s : State} {m : MethodId} {args : Array Value} {below : List Frame} {meth : Method} {c : Code} {H : Heap} {locs : List Loc} {cells slots : Nat}
variable {y : MethodName} {bytes cc : ByteArray} {maxL nL mc ms n index : Nat} {ret : Option FieldType} {ws : List Cond} {rm : Room} {Pc : Array Value → State → Prop} {Qc : Array Value → State → Outcome → State → Prop} {XC : String → State → State → Prop} {free : Addr → Prop} {Ts : List Cond} {own C : String} {b : Addr} {As rest : List Value} {g : JFrame}
theorem vx_callBack (cb : CallB R s args own index y bytes maxL ret ws rm mc ms n) (hM : vx_Met l y ws rm Pc Qc XC mc ms free) (hbl : FrameBlind Pc) : vx_Back l R p e below s args y 3 8 (PreOf R mc ms Pc) (PostOf Qc mc ms free) (vx_Post XC mc ms free) := by
  obtain ⟨hrc, hrs, hfr, hlo, hws, hcw, -, hini, -⟩ := cb
  exact vx_back (bytes := bytes) (maxL := maxL) (ret := ret) hM hbl hrc hrs hfr hlo hws hcw (fun a' U hW => word_at hW (Or.inl (by first | rfl | simp [Cond.onTables, Cond.keeps, Cond.steady])) hini)
theorem vx_runV (S : CallFix p m c cc nL s args Ts own) (hM : vx_Met l y ws rm Pc Qc XC mc ms free) (cw : CallW R s args own C index y bytes maxL ret ws rm mc ms n) (hp : PreV s H C b Pc As)
    (hg : g.method = m) (hn : As.length = n) (hsize : g.locals.size = nL) (hstack : g.stack = As.reverse ++ .ref b :: rest) (hW : 2 * g.monitorRoom + (rest.map fun v => v.category).sum ≤ 8) (hdg : decode cc g.pc = .ok (.invokevirtual index, 3)) (hf : cells + mc ≤ R.cells ∧ slots + ms ≤ R.slots) :
    vx_Run p l e R s m args below meth c H locs cells slots mc ms g rest (Qc (Value.ref b :: As).toArray) XC free := by
  have hK : vx_Back l R p e below s args y 3 8 (PreOf R mc ms Pc) (PostOf Qc mc ms free) (vx_Post XC mc ms free) := vx_callBack cw.1 hM hp.1
  obtain ⟨⟨-, -, -, -, -, -, hcode, -, hy, hlen, hl⟩, hin, hse⟩ := cw
  obtain ⟨hx, hb, hml, ho, -⟩ := S
  obtain ⟨-, ⟨cellB, hcB, hoB, hclB⟩, hPc⟩ := hp
  intro T hT X
  rcases vx_callV X hx (C := C) (bytes := bytes) (maxL := maxL) (ret := ret) ho hl hin hse hcode hy hK (by rw [hT]; exact hcB) hoB hclB hg (hsize.trans hml.symm) (argsL := As) (rest := rest) (fun sig h => hn.trans (hlen sig h)) hstack hW (by rw [hb]; exact hdg)
    (fun vm₁ hW₁ => ⟨hf.1, hf.2, hPc (T.setVm vm₁) hT hW₁⟩) with ⟨v, vm₁, ⟨U', l2, c2, s2⟩, hW₁, X', ⟨g', mk, t, L, e1, e2, hq, h1, hL, h2, h3⟩, st⟩ | ⟨q, vm₁, ⟨U', l2, c2, s2⟩, hW₁, X', ⟨g', mk, t, L, E, ce, e1, e2, hq, hce, hcv, hcl, h1, hL, h2, h3⟩, st⟩
  · dsimp only [Pt.U, Pt.locs, Pt.cells, Pt.slots] at X' e1 e2 h1 h2 h3 st
    subst h1; subst h2; subst h3
    exact Or.inl ⟨v, (T.setVm vm₁).calling g' mk (Value.ref b :: As).toArray, t, U', L, hT, X', hL, e1, e2, hq, st⟩
  · dsimp only [Pt.U, Pt.locs, Pt.cells, Pt.slots] at X' e1 e2 h1 h2 h3 st hcl
    subst h1; subst h2; subst h3
    exact Or.inr ⟨q, (T.setVm vm₁).calling g' mk (Value.ref b :: As).toArray, t, U', L, E, ce, hT, X', hL, e1, e2, hq, hce, hcv, vx_cls hW₁ hcl, st⟩
theorem vx_runS (S : CallFix p m c cc nL s args Ts own) (hM : vx_Met l y ws rm Pc Qc XC mc ms free) (cw : CallB R s args own index y bytes maxL ret ws rm mc ms n ∧ (Cond.static y).before args s = true) (hp : PreS s H Pc As)
    (hg : g.method = m) (hn : As.length = n) (hsize : g.locals.size = nL) (hstack : g.stack = As.reverse ++ rest) (hW : 2 * g.monitorRoom + (rest.map fun v => v.category).sum ≤ 8) (hdg : decode cc g.pc = .ok (.invokestatic index, 3)) (hf : cells + mc ≤ R.cells ∧ slots + ms ≤ R.slots) :
    vx_Run p l e R s m args below meth c H locs cells slots mc ms g rest (Qc As.toArray) XC free := by
  have hK : vx_Back l R p e below s args y 3 8 (PreOf R mc ms Pc) (PostOf Qc mc ms free) (vx_Post XC mc ms free) := vx_callBack cw.1 hM hp.1
  obtain ⟨⟨-, -, -, -, -, -, hcode, hini, hy, hlen, hl⟩, hstt⟩ := cw
  obtain ⟨hx, hb, hml, ho, -⟩ := S
  intro T hT X
  rcases vx_callS X hx (bytes := bytes) (maxL := maxL) (ret := ret) ho hl hstt hini hcode hy hK hg (hsize.trans hml.symm) (argsL := As) (rest := rest) (fun sig h => hn.trans (hlen sig h)) hstack hW (by rw [hb]; exact hdg)
    (fun vm₁ hW₁ => ⟨hf.1, hf.2, hp.2 (T.setVm vm₁) hT hW₁⟩) with ⟨v, vm₁, ⟨U', l2, c2, s2⟩, hW₁, X', ⟨g', mk, t, L, e1, e2, hq, h1, hL, h2, h3⟩, st⟩ | ⟨q, vm₁, ⟨U', l2, c2, s2⟩, hW₁, X', ⟨g', mk, t, L, E, ce, e1, e2, hq, hce, hcv, hcl, h1, hL, h2, h3⟩, st⟩
  · dsimp only [Pt.U, Pt.locs, Pt.cells, Pt.slots] at X' e1 e2 h1 h2 h3 st
    subst h1; subst h2; subst h3
    exact Or.inl ⟨v, (T.setVm vm₁).calling g' mk As.toArray, t, U', L, hT, X', hL, e1, e2, hq, st⟩
  · dsimp only [Pt.U, Pt.locs, Pt.cells, Pt.slots] at X' e1 e2 h1 h2 h3 st hcl
    subst h1; subst h2; subst h3
    exact Or.inr ⟨q, (T.setVm vm₁).calling g' mk As.toArray, t, U', L, E, ce, hT, X', hL, e1, e2, hq, hce, hcv, vx_cls hW₁ hcl, st⟩
end Runs
section Rows
variable {p : Program} {l : Launch} {e : Env} {R : Room} {s : State} {m : MethodId} {args : Array Value} {below : List Frame} {meth : Method} {c : Code} {H : Heap} {locs : List Loc} {cells slots : Nat} {Q : State → Prop}
variable {mc ms : Nat} {free : Addr → Prop} {A0 A1 : Nat → Prop} {H0 : Heap} {a : Array Value} {pc : Nat} {ls : Array Slot} {st0 rest : List Value}
theorem vx_keep {st₀ t T' : State} {L : List Loc} (h0 : st₀.heap = H) (e1 : T'.heap = t.heap) (hS : va_S A0 H0 H locs) (hA : ∀ q, q < H.size → A1 q → A0 q) (hf : ∀ q, free q → A0 q) (hL : ∀ q ∈ L, free q.base) (hF : va_F A1 st₀ t) :
    H.size ≤ T'.heap.size ∧ (∀ q : Nat, q < H.size → ¬ A1 q → T'.heap[q]? = H[q]?) ∧ va_S A0 H0 T'.heap (locs ++ L) := by
  obtain ⟨hz, hk⟩ := hF
  rw [h0] at hz hk
  exact ⟨by rw [e1]; exact hz, fun q h1 h2 => by rw [e1]; exact hk q h1 h2,
    ⟨Nat.le_trans hS.1 (by rw [e1]; exact hz), fun q h1 h2 => by rw [e1, hk q (Nat.lt_of_lt_of_le h1 hS.1) (fun z => h2 (hA q (Nat.lt_of_lt_of_le h1 hS.1) z))]; exact hS.2.1 q h1 h2, fun q hq => by
      rcases List.mem_append.mp hq with h | h
      · exact hS.2.2 q h
      · exact hf _ (hL q h)⟩⟩
theorem vx_calli {S SX : Type} {post : Int32 → S → Prop} {px : SX → Prop} {B : S → State → Prop} {BX : String → SX → State → Prop} {AX : Nat → Prop} (hr : vx_Run p l e R s m args below meth c H locs cells slots mc ms (F0 m pc ls st0) rest (va_Qi post B A1 a) (vx_X px BX AX) free) (hS : va_S A0 H0 H locs) (hA : ∀ q, q < H.size → A1 q → A0 q) (hf : ∀ q, free q → A0 q) (hAX : ∀ q, q < H.size → AX q → A0 q)
    (kx : ∀ (E : String) (ce : Cell) (q9 : Addr) (u : SX) (t : State) (H1 : Heap) (locs1 : List Loc), t.heap = H1 → s.vm.Alike t.vm → px u → BX E u t → H.size ≤ H1.size → (∀ q : Nat, q < H.size → ¬ AX q → H1[q]? = H[q]?) → va_S A0 H0 H1 locs1 → H1[q9]? = some ce → ce.vm = .none → s.vm.findClass E = some ce.cls → vx_W p l e R s m args below meth c H1 locs1 (cells + mc) (slots + ms) Q (F0 m pc ls rest) q9)
    (kk : ∀ (r : Int32) (u : S) (t : State) (H1 : Heap) (locs1 : List Loc), t.heap = H1 → s.vm.Alike t.vm → post r u → B u t → H.size ≤ H1.size → (∀ q : Nat, q < H.size → ¬ A1 q → H1[q]? = H[q]?) → va_S A0 H0 H1 locs1 → W p l e R s m args below meth c H1 locs1 (cells + mc) (slots + ms) Q (F0 m (pc + 3) ls (.int r :: rest))) : W p l e R s m args below meth c H locs cells slots Q (F0 m pc ls st0) := by
  intro T hT X
  rcases hr T hT X with ⟨v, st₀, t, T', L, h0, X', hL, e1, e2, ⟨⟨r, u, hv, hp, hb⟩, hF⟩, st⟩ | ⟨q, st₀, t, T', L, E, ce, h0, X', hL, e1, e2, ⟨u, hp, hb, hF⟩, hce, hcv, hcl, st⟩
  · cases hv
    obtain ⟨k1, k2, k3⟩ := vx_keep h0 e1 hS hA hf hL hF
    obtain ⟨t2, a1, b1⟩ := kk r u t T'.heap (locs ++ L) e1.symm (by rw [← e2]; exact X'.warmed.alike) hp hb k1 k2 k3 T' rfl X'
    exact ⟨t2, st t2 a1, b1⟩
  · obtain ⟨k1, k2, k3⟩ := vx_keep h0 e1 hS hAX hf hL hF
    obtain ⟨t2, a1, b1⟩ := kx E ce q u t T'.heap (locs ++ L) e1.symm (by rw [← e2]; exact X'.warmed.alike) hp hb k1 k2 k3 (by rw [e1]; exact hce) hcv hcl T' rfl X'
    exact ⟨t2, st.trans a1, b1⟩
theorem vx_calll {S SX : Type} {post : Int64 → S → Prop} {px : SX → Prop} {B : S → State → Prop} {BX : String → SX → State → Prop} {AX : Nat → Prop} (hr : vx_Run p l e R s m args below meth c H locs cells slots mc ms (F0 m pc ls st0) rest (va_Ql post B A1 a) (vx_X px BX AX) free) (hS : va_S A0 H0 H locs) (hA : ∀ q, q < H.size → A1 q → A0 q) (hf : ∀ q, free q → A0 q) (hAX : ∀ q, q < H.size → AX q → A0 q)
    (kx : ∀ (E : String) (ce : Cell) (q9 : Addr) (u : SX) (t : State) (H1 : Heap) (locs1 : List Loc), t.heap = H1 → s.vm.Alike t.vm → px u → BX E u t → H.size ≤ H1.size → (∀ q : Nat, q < H.size → ¬ AX q → H1[q]? = H[q]?) → va_S A0 H0 H1 locs1 → H1[q9]? = some ce → ce.vm = .none → s.vm.findClass E = some ce.cls → vx_W p l e R s m args below meth c H1 locs1 (cells + mc) (slots + ms) Q (F0 m pc ls rest) q9)
    (kk : ∀ (r : Int64) (u : S) (t : State) (H1 : Heap) (locs1 : List Loc), t.heap = H1 → s.vm.Alike t.vm → post r u → B u t → H.size ≤ H1.size → (∀ q : Nat, q < H.size → ¬ A1 q → H1[q]? = H[q]?) → va_S A0 H0 H1 locs1 → W p l e R s m args below meth c H1 locs1 (cells + mc) (slots + ms) Q (F0 m (pc + 3) ls (.long r :: rest))) : W p l e R s m args below meth c H locs cells slots Q (F0 m pc ls st0) := by
  intro T hT X
  rcases hr T hT X with ⟨v, st₀, t, T', L, h0, X', hL, e1, e2, ⟨⟨r, u, hv, hp, hb⟩, hF⟩, st⟩ | ⟨q, st₀, t, T', L, E, ce, h0, X', hL, e1, e2, ⟨u, hp, hb, hF⟩, hce, hcv, hcl, st⟩
  · cases hv
    obtain ⟨k1, k2, k3⟩ := vx_keep h0 e1 hS hA hf hL hF
    obtain ⟨t2, a1, b1⟩ := kk r u t T'.heap (locs ++ L) e1.symm (by rw [← e2]; exact X'.warmed.alike) hp hb k1 k2 k3 T' rfl X'
    exact ⟨t2, st t2 a1, b1⟩
  · obtain ⟨k1, k2, k3⟩ := vx_keep h0 e1 hS hAX hf hL hF
    obtain ⟨t2, a1, b1⟩ := kx E ce q u t T'.heap (locs ++ L) e1.symm (by rw [← e2]; exact X'.warmed.alike) hp hb k1 k2 k3 (by rw [e1]; exact hce) hcv hcl T' rfl X'
    exact ⟨t2, st.trans a1, b1⟩
theorem vx_callf {S SX : Type} {post : UInt32 → S → Prop} {px : SX → Prop} {B : S → State → Prop} {BX : String → SX → State → Prop} {AX : Nat → Prop} (hr : vx_Run p l e R s m args below meth c H locs cells slots mc ms (F0 m pc ls st0) rest (va_Qf post B A1 a) (vx_X px BX AX) free) (hS : va_S A0 H0 H locs) (hA : ∀ q, q < H.size → A1 q → A0 q) (hf : ∀ q, free q → A0 q) (hAX : ∀ q, q < H.size → AX q → A0 q)
    (kx : ∀ (E : String) (ce : Cell) (q9 : Addr) (u : SX) (t : State) (H1 : Heap) (locs1 : List Loc), t.heap = H1 → s.vm.Alike t.vm → px u → BX E u t → H.size ≤ H1.size → (∀ q : Nat, q < H.size → ¬ AX q → H1[q]? = H[q]?) → va_S A0 H0 H1 locs1 → H1[q9]? = some ce → ce.vm = .none → s.vm.findClass E = some ce.cls → vx_W p l e R s m args below meth c H1 locs1 (cells + mc) (slots + ms) Q (F0 m pc ls rest) q9)
    (kk : ∀ (r : UInt32) (u : S) (t : State) (H1 : Heap) (locs1 : List Loc), t.heap = H1 → s.vm.Alike t.vm → post r u → B u t → H.size ≤ H1.size → (∀ q : Nat, q < H.size → ¬ A1 q → H1[q]? = H[q]?) → va_S A0 H0 H1 locs1 → W p l e R s m args below meth c H1 locs1 (cells + mc) (slots + ms) Q (F0 m (pc + 3) ls (.float r :: rest))) : W p l e R s m args below meth c H locs cells slots Q (F0 m pc ls st0) := by
  intro T hT X
  rcases hr T hT X with ⟨v, st₀, t, T', L, h0, X', hL, e1, e2, ⟨⟨r, u, hv, hp, hb⟩, hF⟩, st⟩ | ⟨q, st₀, t, T', L, E, ce, h0, X', hL, e1, e2, ⟨u, hp, hb, hF⟩, hce, hcv, hcl, st⟩
  · cases hv
    obtain ⟨k1, k2, k3⟩ := vx_keep h0 e1 hS hA hf hL hF
    obtain ⟨t2, a1, b1⟩ := kk r u t T'.heap (locs ++ L) e1.symm (by rw [← e2]; exact X'.warmed.alike) hp hb k1 k2 k3 T' rfl X'
    exact ⟨t2, st t2 a1, b1⟩
  · obtain ⟨k1, k2, k3⟩ := vx_keep h0 e1 hS hAX hf hL hF
    obtain ⟨t2, a1, b1⟩ := kx E ce q u t T'.heap (locs ++ L) e1.symm (by rw [← e2]; exact X'.warmed.alike) hp hb k1 k2 k3 (by rw [e1]; exact hce) hcv hcl T' rfl X'
    exact ⟨t2, st.trans a1, b1⟩
theorem vx_calld {S SX : Type} {post : UInt64 → S → Prop} {px : SX → Prop} {B : S → State → Prop} {BX : String → SX → State → Prop} {AX : Nat → Prop} (hr : vx_Run p l e R s m args below meth c H locs cells slots mc ms (F0 m pc ls st0) rest (va_Qd post B A1 a) (vx_X px BX AX) free) (hS : va_S A0 H0 H locs) (hA : ∀ q, q < H.size → A1 q → A0 q) (hf : ∀ q, free q → A0 q) (hAX : ∀ q, q < H.size → AX q → A0 q)
    (kx : ∀ (E : String) (ce : Cell) (q9 : Addr) (u : SX) (t : State) (H1 : Heap) (locs1 : List Loc), t.heap = H1 → s.vm.Alike t.vm → px u → BX E u t → H.size ≤ H1.size → (∀ q : Nat, q < H.size → ¬ AX q → H1[q]? = H[q]?) → va_S A0 H0 H1 locs1 → H1[q9]? = some ce → ce.vm = .none → s.vm.findClass E = some ce.cls → vx_W p l e R s m args below meth c H1 locs1 (cells + mc) (slots + ms) Q (F0 m pc ls rest) q9)
    (kk : ∀ (r : UInt64) (u : S) (t : State) (H1 : Heap) (locs1 : List Loc), t.heap = H1 → s.vm.Alike t.vm → post r u → B u t → H.size ≤ H1.size → (∀ q : Nat, q < H.size → ¬ A1 q → H1[q]? = H[q]?) → va_S A0 H0 H1 locs1 → W p l e R s m args below meth c H1 locs1 (cells + mc) (slots + ms) Q (F0 m (pc + 3) ls (.double r :: rest))) : W p l e R s m args below meth c H locs cells slots Q (F0 m pc ls st0) := by
  intro T hT X
  rcases hr T hT X with ⟨v, st₀, t, T', L, h0, X', hL, e1, e2, ⟨⟨r, u, hv, hp, hb⟩, hF⟩, st⟩ | ⟨q, st₀, t, T', L, E, ce, h0, X', hL, e1, e2, ⟨u, hp, hb, hF⟩, hce, hcv, hcl, st⟩
  · cases hv
    obtain ⟨k1, k2, k3⟩ := vx_keep h0 e1 hS hA hf hL hF
    obtain ⟨t2, a1, b1⟩ := kk r u t T'.heap (locs ++ L) e1.symm (by rw [← e2]; exact X'.warmed.alike) hp hb k1 k2 k3 T' rfl X'
    exact ⟨t2, st t2 a1, b1⟩
  · obtain ⟨k1, k2, k3⟩ := vx_keep h0 e1 hS hAX hf hL hF
    obtain ⟨t2, a1, b1⟩ := kx E ce q u t T'.heap (locs ++ L) e1.symm (by rw [← e2]; exact X'.warmed.alike) hp hb k1 k2 k3 (by rw [e1]; exact hce) hcv hcl T' rfl X'
    exact ⟨t2, st.trans a1, b1⟩
theorem vx_callv {S SX : Type} {post : S → Prop} {px : SX → Prop} {B : S → State → Prop} {BX : String → SX → State → Prop} {AX : Nat → Prop} (hr : vx_Run p l e R s m args below meth c H locs cells slots mc ms (F0 m pc ls st0) rest (va_Qv post B A1 a) (vx_X px BX AX) free) (hS : va_S A0 H0 H locs) (hA : ∀ q, q < H.size → A1 q → A0 q) (hf : ∀ q, free q → A0 q) (hAX : ∀ q, q < H.size → AX q → A0 q)
    (kx : ∀ (E : String) (ce : Cell) (q9 : Addr) (u : SX) (t : State) (H1 : Heap) (locs1 : List Loc), t.heap = H1 → s.vm.Alike t.vm → px u → BX E u t → H.size ≤ H1.size → (∀ q : Nat, q < H.size → ¬ AX q → H1[q]? = H[q]?) → va_S A0 H0 H1 locs1 → H1[q9]? = some ce → ce.vm = .none → s.vm.findClass E = some ce.cls → vx_W p l e R s m args below meth c H1 locs1 (cells + mc) (slots + ms) Q (F0 m pc ls rest) q9)
    (kk : ∀ (u : S) (t : State) (H1 : Heap) (locs1 : List Loc), t.heap = H1 → s.vm.Alike t.vm → post u → B u t → H.size ≤ H1.size → (∀ q : Nat, q < H.size → ¬ A1 q → H1[q]? = H[q]?) → va_S A0 H0 H1 locs1 → W p l e R s m args below meth c H1 locs1 (cells + mc) (slots + ms) Q (F0 m (pc + 3) ls (rest))) : W p l e R s m args below meth c H locs cells slots Q (F0 m pc ls st0) := by
  intro T hT X
  rcases hr T hT X with ⟨v, st₀, t, T', L, h0, X', hL, e1, e2, ⟨⟨u, hv, hp, hb⟩, hF⟩, st⟩ | ⟨q, st₀, t, T', L, E, ce, h0, X', hL, e1, e2, ⟨u, hp, hb, hF⟩, hce, hcv, hcl, st⟩
  · cases hv
    obtain ⟨k1, k2, k3⟩ := vx_keep h0 e1 hS hA hf hL hF
    obtain ⟨t2, a1, b1⟩ := kk u t T'.heap (locs ++ L) e1.symm (by rw [← e2]; exact X'.warmed.alike) hp hb k1 k2 k3 T' rfl X'
    exact ⟨t2, st t2 a1, b1⟩
  · obtain ⟨k1, k2, k3⟩ := vx_keep h0 e1 hS hAX hf hL hF
    obtain ⟨t2, a1, b1⟩ := kx E ce q u t T'.heap (locs ++ L) e1.symm (by rw [← e2]; exact X'.warmed.alike) hp hb k1 k2 k3 (by rw [e1]; exact hce) hcv hcl T' rfl X'
    exact ⟨t2, st.trans a1, b1⟩
/-- caught by the row x of this method's table; the rows ahead don't take it -/
theorem vx_catch {own name : String} {E : String} {ce : Cell} {q : Addr} (hown : s.vm.findClass own = some m.cls) (pre : List ExceptionTableEntry) (x : ExceptionTableEntry) (suf : List ExceptionTableEntry) (hsplit : c.exceptionTable.toList = pre ++ x :: suf)
    (hpass : ∀ z ∈ pre, covers z pc = false ∨ (z.catchType ≠ 0 ∧ ∃ nm : String, (Cond.classLink own z.catchType nm).before args s = true ∧ va_Nc E nm s)) (hx : covers x pc = true) (h0 : x.catchType ≠ 0)
    (hlink : (Cond.classLink own x.catchType name).before args s = true) (hcast : (Cond.castable E name).before args s = true) (hcell : H[q]? = some ce) (hv : ce.vm = .none) (hcl : s.vm.findClass E = some ce.cls)
    (kk : W p l e R s m args below meth c H locs cells slots Q (F0 m x.handlerPc ls [.ref q])) : vx_W p l e R s m args below meth c H locs cells slots Q (F0 m pc ls rest) q := by
  intro T hT X
  have hpl : e.platform.magicAccessors = ({} : Platform).magicAccessors := by rw [X.admits.platform]
  obtain ⟨c3, c4, hc3, hc4, hasg⟩ := Cond.castable_spec hcast
  cases Option.some.inj (hc3.symm.trans hcl)
  obtain ⟨c5, hc5, hcl5⟩ := Cond.classLink_spec hown hlink e.platform hpl
  cases Option.some.inj (hc4.symm.trans hc5)
  obtain ⟨vm', X', st⟩ := X.thenCaughtThrough q (g := F0 m pc ls rest) rfl (Steps.refl _) (by rw [hT]; exact hcell) (by rw [hv]; rfl) (by obtain ⟨k9, h9, -⟩ := Vm.findClass_spec hcl; exact ⟨k9, h9⟩) pre x suf hsplit
    (fun z hz => by
      rcases hpass z hz with h | ⟨hz0, nm, hl1, hn1⟩
      · exact Or.inl h
      · obtain ⟨c6, hc6, hcl6⟩ := Cond.classLink_spec hown hl1 e.platform hpl
        obtain ⟨a8, b8, h1, h2, h3⟩ := hn1
        cases Option.some.inj (h1.symm.trans hcl)
        cases Option.some.inj (h2.symm.trans hc6)
        exact Or.inr ⟨hz0, _, hcl6, h3⟩) hx (Or.inr ⟨h0, c4, hcl5, hasg⟩)
  obtain ⟨t, a1, b1⟩ := kk (T.setVm vm') hT X'
  exact ⟨t, st.trans a1, b1⟩
end Rows
section Ends
variable {p : Program} {l : Launch} {e : Env} {R : Room} {s : State} {m : MethodId} {args : Array Value} {below : List Frame} {meth : Method} {c : Code} {H : Heap} {locs : List Loc} {cells slots : Nat} {Q : State → Prop}
variable {mc ms : Nat} {free : Addr → Prop} {A0 A1 : Nat → Prop} {H0 : Heap} {a : Array Value} {ls : Array Slot} {st0 rest : List Value}
variable {Qc : Array Value → State → Outcome → State → Prop} {XC : String → State → State → Prop}
/-- what a body that may throw owes at its end -/
def vx_MQ (below : List Frame) (Qc : Array Value → State → Outcome → State → Prop) (XC : String → State → State → Prop) (a : Array Value) (s : State) (mc ms : Nat) (free : Addr → Prop) : State → Prop := fun t =>
  ∃ o, t.status = .running ∧ Ended t below o ∧ vx_Q Qc XC mc ms free a s o t
theorem vx_ret {g : JFrame} {mc ms : Nat} (k : W p l e R s m args below meth c H locs cells slots (MQ below Qc args s mc ms free) g) : W p l e R s m args below meth c H locs cells slots (vx_MQ below Qc XC args s mc ms free) g := by
  intro T hT X
  obtain ⟨t, a1, o, b1, b2, b3, b4⟩ := k T hT X
  exact ⟨t, a1, o, b1, b2, Or.inl ⟨b3, b4⟩⟩
/-- not caught here: it goes on to the caller -/
theorem vx_widen {g : JFrame} {q : Addr} {k n : Nat} (h1 : cells ≤ k) (h2 : slots ≤ n) (kk : vx_W p l e R s m args below meth c H locs k n Q g q) : vx_W p l e R s m args below meth c H locs cells slots Q g q := fun T hT X => kk T hT (stand_widen X h1 h2)
theorem vx_out {pc : Nat} {E : String} {ce : Cell} {q : Addr} {mc ms : Nat} (hout : ∀ x ∈ c.exceptionTable.toList, covers x pc = false) (hlocks : meth.locks = false) (hcell : H[q]? = some ce) (hv : ce.vm = .none) (hcl : s.vm.findClass E = some ce.cls)
    (hx : ∀ t : State, t.heap = H → s.vm.Alike t.vm → XC E s t) (hf : ∀ z ∈ locs, free z.base) (hc : cells ≤ mc) (hs : slots ≤ ms) :
    vx_W p l e R s m args below meth c H locs cells slots (vx_MQ below Qc XC args s mc ms free) (F0 m pc ls rest) q := by
  intro T hT X
  obtain ⟨st1, hrun, hend, hW, hsm⟩ := X.leaveThrown q (g := F0 m pc ls rest) rfl rfl rfl hout hlocks
  have hcell9 : (T.setFrames (.throwing q :: below)).heap[q]? = some ce := by
    show T.heap[q]? = some ce
    rw [hT]; exact hcell
  exact ⟨_, st1, .threw q, hrun, hend, Or.inr ⟨q, rfl, E, ce, locs, hx _ hT hW.alike, hcell9, hv, hcl, hW, hsm.mono hc hs, hf⟩⟩
theorem vx_frame {U : State} {k n : Nat} (h : s.sameButNew ({ U with vm := s.vm } : State) locs k n) : s.heap.size ≤ U.heap.size ∧ ∀ q : Nat, q < s.heap.size → (∀ z ∈ locs, z.base ≠ q) → U.heap[q]? = s.heap[q]? := by
  obtain ⟨-, h2, -, -, -, h6⟩ := h
  refine ⟨h2, fun q hq hz => ?_⟩
  obtain ⟨c9, e1, e2, e3, e4⟩ := h6 q _ (Array.getElem?_eq_getElem hq)
  have hs : c9.slots = (s.heap[q]).slots := Array.ext_getElem? fun i => e4 i fun hm => hz _ hm rfl
  have h9 : c9 = s.heap[q] := by
    rw [hs] at e2
    exact e2
  have e5 : U.heap[q]? = some c9 := e1
  rw [e5, h9, Array.getElem?_eq_getElem hq]
/-- the words of a throw but the four that speak of the heap -/
def vx_no (w : Cond) : Bool := decide (w ≠ .isRef (.static Bundle.tN "UNASSIGNED_STACK" Bundle.steD)) && decide (w ≠ .isRef (.static Bundle.tN "SUPPRESSED_SENTINEL" Bundle.listD)) && decide (w ≠ .laysStatic Bundle.tN "UNASSIGNED_STACK" Bundle.steD) && decide (w ≠ .laysStatic Bundle.tN "SUPPRESSED_SENTINEL" Bundle.listD)
def vx_at0 (own : String) (ic : Nat) (X : String) (names : List String) : List Cond := (Bundle.ownAtoms0 own ic X names).filter vx_no
def vx_atS (own : String) (ic : Nat) (X : String) (names : List String) : List Cond := (Bundle.ownAtoms own ic X names).filter vx_no
/-- a word that the tables alone decide, or a good one -/
def vx_ot (w : Cond) : Bool := w.onTables || goodWord w
theorem vx_ot_at {args a' : Array Value} {s U : State} {w : Cond} (hW : s.WarmedH U.vm) (hvm : s.vm = U.vm) (hg : vx_ot w = true) (h : w.before args s = true) : w.before a' U = true := by
  simp only [vx_ot, Bool.or_eq_true] at hg
  rcases hg with hg | hg
  · exact va_tabs hg hvm h
  · exact word_at hW (good_of_word hg) h
/-- a list's words: the good ones out of the method's own list, the others by premises of their own -/
theorem vx_hat {args : Array Value} {s : State} {L B : List Cond} (h1 : ∀ w ∈ L.filter goodWord, w.before args s = true) (h2 : ∀ w ∈ L.filter (fun w => !goodWord w), w ∈ B) (h3 : ∀ w ∈ B, w.before args s = true) : ∀ w ∈ L, w.before args s = true := by
  intro w hw
  by_cases g : goodWord w = true
  · exact h1 w (List.mem_filter.mpr ⟨hw, g⟩)
  · refine h3 w (h2 w (List.mem_filter.mpr ⟨hw, ?_⟩))
    show (!goodWord w) = true
    cases hgw : goodWord w
    · rfl
    · exact absurd hgw g
theorem vx_c {args : Array Value} {s : State} {w : Cond} {B : List Cond} (h : w.before args s = true) (t : ∀ w ∈ B, w.before args s = true) : ∀ w' ∈ w :: B, w'.before args s = true := fun w' h' => (List.mem_cons.mp h').elim (fun e => by rw [e]; exact h) (t w')
theorem vx_n {args : Array Value} {s : State} : ∀ w ∈ ([] : List Cond), w.before args s = true := fun _ h => nomatch h
theorem vx_own {args : Array Value} {s : State} {L : List Cond} (h1 : ∀ w ∈ L.filter vx_no, w.before args s = true)
    (hU : (Cond.isRef (.static Bundle.tN "UNASSIGNED_STACK" Bundle.steD)).before args s = true) (hN : (Cond.isRef (.static Bundle.tN "SUPPRESSED_SENTINEL" Bundle.listD)).before args s = true)
    (lU : (Cond.laysStatic Bundle.tN "UNASSIGNED_STACK" Bundle.steD).before args s = true) (lN : (Cond.laysStatic Bundle.tN "SUPPRESSED_SENTINEL" Bundle.listD).before args s = true) : ∀ w ∈ L, w.before args s = true := by
  intro w hw
  by_cases e1 : w = .isRef (.static Bundle.tN "UNASSIGNED_STACK" Bundle.steD)
  · rw [e1]; exact hU
  · by_cases e2 : w = .isRef (.static Bundle.tN "SUPPRESSED_SENTINEL" Bundle.listD)
    · rw [e2]; exact hN
    · by_cases e3 : w = .laysStatic Bundle.tN "UNASSIGNED_STACK" Bundle.steD
      · rw [e3]; exact lU
      · by_cases e4 : w = .laysStatic Bundle.tN "SUPPRESSED_SENTINEL" Bundle.listD
        · rw [e4]; exact lN
        · exact h1 w (List.mem_filter.mpr ⟨hw, by unfold vx_no; rw [decide_eq_true e1, decide_eq_true e2, decide_eq_true e3, decide_eq_true e4]; rfl⟩)
/-- where a static field lies, its class's statics cell in H -/
def vx_L (C n d : String) (A : Nat → Prop) (U : State) (H : Heap) : Prop := ∃ (c : ClassId) (k : Class) (i : Nat) (f : Field) (a : Nat) (cell : Cell), U.vm.findClass C = some c ∧ U.fieldFound? C n d = some (c, k, i, f) ∧ f.isStatic = true ∧ k.statics = some a ∧ H[a]? = some cell ∧ cell.vm.isStatics = true ∧ cell.cls = c ∧ f.slot < cell.slots.size ∧ k.staticTypes[f.slot]? = some f.type ∧ ¬ A a
theorem vx_L.moved {C n d : String} {A : Nat → Prop} {u U : State} {H : Heap} (hvm : u.vm.Alike U.vm) (h : vx_L C n d A u H) : vx_L C n d A U H := by
  obtain ⟨c, k, i, f, a, cell, h1, h2, h3, h4, h5, h6, h7, h8, h9, h10⟩ := h
  obtain ⟨k', hi', he⟩ := State.fieldFound?_setVm hvm h2
  exact ⟨c, k', i, f, a, cell, by rw [hvm.findClass]; exact h1, hi', h3, by rw [he]; exact h4, h5, h6, h7, h8, by rw [he]; exact h9, h10⟩
theorem vx_L.kept {C n d : String} {A : Nat → Prop} {U : State} {H H1 : Heap} (h : vx_L C n d A U H) (hq : ∀ a : Nat, a < H.size → ¬ A a → H1[a]? = H[a]?) : vx_L C n d A U H1 := by
  obtain ⟨c, k, i, f, a, cell, h1, h2, h3, h4, h5, h6, h7, h8, h9, h10⟩ := h
  exact ⟨c, k, i, f, a, cell, h1, h2, h3, h4, by rw [hq a (Array.getElem?_eq_some_iff.mp h5).1 h10]; exact h5, h6, h7, h8, h9, h10⟩
theorem vx_L.narrow {C n d : String} {A B : Nat → Prop} {U : State} {H : Heap} (h : vx_L C n d A U H) (hAB : ∀ q, B q → A q) : vx_L C n d B U H := by
  obtain ⟨c, k, i, f, a, cell, h1, h2, h3, h4, h5, h6, h7, h8, h9, h10⟩ := h
  exact ⟨c, k, i, f, a, cell, h1, h2, h3, h4, h5, h6, h7, h8, h9, fun z => h10 (hAB _ z)⟩
theorem vx_L.word {C n d : String} {A : Nat → Prop} {s : State} {args : Array Value} (h : vx_L C n d A s s.heap) : (Cond.laysStatic C n d).before args s = true := by
  obtain ⟨c, k, i, f, a, cell, h1, h2, h3, h4, h5, h6, h7, h8, h9, -⟩ := h
  show (Cond.laysStatic C n d).holds args s none s [] = true
  exact Cond.laysStatic_of h1 h2 h3 h4 h5 h6 h7 h8 h9
/-- .. and what it holds: null or some reference -/
def vx_Zq (C n d : String) (A : Nat → Prop) (U : State) (H : Heap) : Prop := va_Zq C n d A U H ∧ vx_L C n d A U H
theorem vx_Zq.moved {C n d : String} {A : Nat → Prop} {u U : State} {H : Heap} (hvm : u.vm.Alike U.vm) (h : vx_Zq C n d A u H) : vx_Zq C n d A U H := ⟨va_Zq.moved hvm h.1, vx_L.moved hvm h.2⟩
theorem vx_Zq.kept {C n d : String} {A : Nat → Prop} {U : State} {H H1 : Heap} (h : vx_Zq C n d A U H) (hq : ∀ a : Nat, a < H.size → ¬ A a → H1[a]? = H[a]?) : vx_Zq C n d A U H1 := ⟨va_Zq.kept h.1 hq, vx_L.kept h.2 hq⟩
theorem vx_Zq.narrow {C n d : String} {A B : Nat → Prop} {U : State} {H : Heap} (h : vx_Zq C n d A U H) (hAB : ∀ q, B q → A q) : vx_Zq C n d B U H := ⟨va_Zq.narrow h.1 hAB, vx_L.narrow h.2 hAB⟩
theorem vx_Zqof {args : Array Value} {s : State} {C n d : String} {A : Nat → Prop} (hl : (Cond.laysStatic C n d).before args s = true) (hini : (Cond.initialized C).before args s = true) (h : (Cond.isRef (.static C n d)).before args s = true) (hA : ∀ a : Nat, a < s.heap.size → ¬ A a) : vx_Zq C n d A s s.heap := by
  refine ⟨va_Zqof hl hini h hA, ?_⟩
  obtain ⟨c, k, i, f, a, cell, h1, h2, h3, h4, h5, h6, h7, h8, h9⟩ := Cond.laysStatic_spec hl
  exact ⟨c, k, i, f, a, cell, h1, h2, h3, h4, h5, h6, h7, h8, h9, hA a (Array.getElem?_eq_some_iff.mp h5).1⟩
theorem vx_isRef {C n d : String} {v : Value} {A : Nat → Prop} {s : State} {args : Array Value} (h : va_Z C n d v A s s.heap) (hv : v.isRef = true) : (Cond.isRef (.static C n d)).before args s = true := by
  obtain ⟨cf, kf, fi, f, a, cell, h1, h2, h3, h4, h5, h6, h7, -⟩ := h
  have he : (Term.static C n d).eval args s none [] s = some v := by
    simp [Term.eval, State.fieldNamed?, h1, h2, h4, h5, h6, h7]
  simp only [Cond.before, Cond.holds, Cond.value, he]
  cases v <;> simp_all [Value.isRef]
theorem vx_isRefq {C n d : String} {A : Nat → Prop} {s : State} {args : Array Value} (h : va_Zq C n d A s s.heap) : (Cond.isRef (.static C n d)).before args s = true := by
  rcases h with h | ⟨t, h⟩
  · exact vx_isRef h rfl
  · exact vx_isRef h rfl
/-- the same frame, seen from here: as if the method were called anew in this heap -/
theorem vx_rebase {T : State} (X : Stand p l e R s m args below meth c T locs cells slots) {R' : Room} (hf : R'.frames ≤ R.frames) (hl : R'.locals ≤ R.locals) (hc : cells + R'.cells ≤ R.cells) (hs : slots + R'.slots ≤ R.slots) :
    Stand p l e R' ((T.setVm s.vm).setFrames (.invoking m args :: below)) m args below meth c T [] 0 0 := by
  have htop : (T.setVm s.vm).topJava?.isSome := X.here.top
  have hF : ((T.setVm s.vm).setFrames (.invoking m args :: below)).frames = .invoking m args :: below := State.frames_setFrames _ (State.cur_lt_of_top htop)
  obtain ⟨g₀, hg0⟩ := Option.isSome_iff_exists.mp htop
  obtain ⟨r, hr⟩ := State.topJava?_eq_some.mp hg0
  have hl9 : e.platform.stackLimits (T.setVm s.vm).me = e.platform.stackLimits s.me := X.limits
  have hb9 : (T.setVm s.vm).me.stackBytes = s.me.stackBytes := X.bytes
  refine ⟨X.admits, X.cas, X.clock, hF, ?_, X.hears, X.method, X.code, X.here, X.tail, X.warmed, ?_, ?_, ?_⟩
  · have h := X.room
    have hU : ((T.setVm s.vm).setFrames (.invoking m args :: below)).localsInUse = s.localsInUse := by
      rw [State.localsInUse_invoking hF (meth := meth) (c := c) X.method X.code, State.localsInUse_invoking X.frames X.method X.code]
    simp only [State.hasRoom, Bool.and_eq_true, decide_eq_true_eq] at h ⊢
    obtain ⟨⟨⟨⟨h1, h2, h3, h4, h5, h6⟩, h7⟩, h8⟩, h9⟩ := h
    rw [X.frames, List.length_cons] at h2 h3
    have q1 := X.heapSize
    have q2 := X.used
    simp only [hF, hU, List.length_cons, State.stackLimits_setFrames, State.stackBytes_setFrames, hl9, hb9]
    refine ⟨⟨⟨⟨by omega, by omega, by omega, by omega, by omega, h6⟩, ?_⟩, ?_⟩, X.book⟩
    · show T.heap.size + R'.cells ≤ e.platform.maxCells
      omega
    · show T.slotsUsed + R'.slots ≤ e.platform.maxSlots
      omega
  · rw [State.stackLimits_setFrames]; rfl
  · rw [State.stackBytes_setFrames]; rfl
  · refine ⟨?_, Nat.le_refl _, Nat.le_refl _, ?_, ?_, fun a c9 h9 => ⟨c9, h9, rfl, rfl, fun _ _ => rfl⟩⟩
    · obtain ⟨t, ht, -⟩ := State.frames_cons hr
      show T.setVm s.vm = { ((T.setVm s.vm).setFrames (.invoking m args :: below)).setFrames (T.setVm s.vm).frames with heap := T.heap, slotsUsed := T.slotsUsed }
      rw [State.setFrames_setFrames, State.setFrames_self ht]
      rfl
    · show T.slotsUsed = T.slotsUsed + ((T.heap.toList.drop T.heap.size).map (·.slots.size)).sum
      rw [List.drop_eq_nil_of_le (Nat.le_of_eq Array.length_toList)]
      rfl
    · show ((T.heap.toList.drop T.heap.size).map (·.slots.size)).sum ≤ 0
      rw [List.drop_eq_nil_of_le (Nat.le_of_eq Array.length_toList)]
      exact Nat.le_refl _
/-- 'throw new E()': new; dup; invokespecial; athrow -/
theorem vx_throw0 {cc : ByteArray} {pc : Nat} (hexec : p.tables.exec = Jvm.exec) (hb : c.code = cc) (hl : l.stackTraces = false) {own cls : String} {names : List String} {ik ic mc ms : Nat} {A : Nat → Prop}
    (hown : s.vm.findClass own = some m.cls) (hcls : Bundle.fit cls = true) (hnames : ∀ n ∈ names, Bundle.fit n = true)
    (hk : (Cond.classLink own ik cls).before args s = true) (hini : (Cond.initialized cls).before args s = true) (hat : ∀ w ∈ vx_at0 own ic cls names, w.before args s = true)
    (hgood : ∀ w ∈ Cond.classLink own ik cls :: Cond.initialized cls :: vx_at0 own ic cls names, vx_ot w = true)
    (hU : vx_Zq Bundle.tN "UNASSIGNED_STACK" Bundle.steD A s s.heap) (hN : vx_Zq Bundle.tN "SUPPRESSED_SENTINEL" Bundle.listD A s s.heap) (hS : va_S A s.heap H locs) (hsize : ls.size = c.maxLocals)
    (d0 : decode cc pc = .ok (.new ik, 3)) (d3 : decode cc (pc + 3) = .ok (.dup, 1)) (d4 : decode cc (pc + 4) = .ok (.invokespecial ic, 3)) (d7 : decode cc (pc + 7) = .ok (.athrow, 1))
    (hout : ∀ x ∈ c.exceptionTable.toList, covers x (pc + 7) = false)
    (hRframes : names.length + 3 < R.frames) (hRlocals : (rest.map fun v => v.category).sum + (13 * (names.length + 1) + 42) ≤ R.locals) (hRcells : cells + 1 ≤ R.cells) (hRslots : slots + 6 ≤ R.slots) (hlocks : meth.locks = false)
    (hx : ∀ t : State, s.vm.Alike t.vm → H.size ≤ t.heap.size → (∀ q : Nat, q < H.size → t.heap[q]? = H[q]?) → XC cls s t)
    (hf : ∀ z ∈ locs, free z.base) (hc : cells + 1 ≤ mc) (hs : slots + 6 ≤ ms) :
    W p l e R s m args below meth c H locs cells slots (vx_MQ below Qc XC args s mc ms free) (F0 m pc ls rest) := by
  intro T hT X
  have htr : e.platform.stackTraces = false := (show e.platform.stackTraces = l.stackTraces by rw [X.admits.platform]).trans hl
  have Y := vx_rebase X (R' := { frames := R.frames, locals := R.locals, cells := 1, slots := 6 }) (Nat.le_refl _) (Nat.le_refl _) hRcells hRslots
  obtain ⟨s', hA⟩ : ∃ z, z = (T.setVm s.vm).setFrames (.invoking m args :: below) := ⟨_, rfl⟩
  rw [← hA] at Y
  have hvm : s'.vm = s.vm := by rw [hA]; rfl
  have hhp : s'.heap = H := by rw [hA]; exact hT
  have hW0 : s.WarmedH s'.vm := by rw [hvm]; exact State.WarmedH.refl s
  have hat' : ∀ w ∈ vx_at0 own ic cls names, w.before args s' = true := fun w hw => vx_ot_at hW0 hvm.symm (hgood w (List.mem_cons_of_mem _ (List.mem_cons_of_mem _ hw))) (hat w hw)
  have hk' : (Cond.classLink own ik cls).before args s' = true := vx_ot_at hW0 hvm.symm (hgood _ List.mem_cons_self) hk
  have hini' : (Cond.initialized cls).before args s' = true := vx_ot_at hW0 hvm.symm (hgood _ (List.mem_cons_of_mem _ List.mem_cons_self)) hini
  have hU' : vx_Zq Bundle.tN "UNASSIGNED_STACK" Bundle.steD A s' s'.heap := by rw [hhp]; exact vx_Zq.moved hW0.alike (hU.kept hS.2.1)
  have hN' : vx_Zq Bundle.tN "SUPPRESSED_SENTINEL" Bundle.listD A s' s'.heap := by rw [hhp]; exact vx_Zq.moved hW0.alike (hN.kept hS.2.1)
  have h : ∀ w ∈ Bundle.ownAtoms0 own ic cls names, w.before args s' = true := vx_own hat' (vx_isRefq hU'.1) (vx_isRefq hN'.1) hU'.2.word hN'.2.word
  have hown' : s'.vm.findClass own = some m.cls := by rw [hvm]; exact hown
  have hins : (Cond.instantiable cls 6).before args s' = true := h _ (by simp [Bundle.ownAtoms0])
  obtain ⟨vm₁, cX, kX, hfX, hkX, -, -, X₁, st1⟩ := Y.newCold hexec (own := own) (C := cls) (index := ik) (n := 6) hown' hk' hins hini'
    (g := F0 m pc ls rest) rfl (by rw [hb]; exact d0) (Nat.le_refl _) (Nat.le_refl _)
  generalize hT1 : (T.setVm vm₁).pushCell { cls := cX, slots := kX.instanceTypes.map defaultValue, vm := .none } = T1 at X₁ st1
  have hcat : (Value.ref T.heap.size).category = 1 := rfl
  have hcellA : T1.heap[T.heap.size]? = some (freshCell cX kX) := by rw [← hT1]; exact State.heap_pushCell_size _ _
  have d3' : decode c.code (pc + 3) = .ok (.dup, 1) := by rw [hb]; exact d3
  obtain ⟨U, hsteps, hrun, hend, hW, hsame, ce, hce, hO⟩ := X₁.ctorThrow0 hexec htr (own := own) (cls := cls) (names := names) (ic := ic) hown' hcls hnames h (fun x hx => nomatch hx) hfX hkX hcellA (by rw [hhp, hT]; exact Nat.le_refl _)
    (g := { method := m, pc := pc + 4, locals := ls, stack := .ref T.heap.size :: .ref T.heap.size :: rest, locked := none }) rfl hsize rfl rfl (rest := rest) rfl
    (by rw [hb]; exact d4) (by rw [hb]; exact d7) hout hRframes (by simp only [List.map_cons, List.sum_cons, hcat]; omega) hlocks
  obtain ⟨f1, f2⟩ := vx_frame hsame
  rw [hhp] at f1 f2
  have hWs : s.WarmedH U.vm := State.WarmedH.trans hW0 hW
  have hcl : s.vm.findClass cls = some ce.cls := by
    have h9 := hO.cls
    rw [hvm] at h9
    exact h9
  have hall : s.sameButNew ({ U with vm := s.vm } : State) locs mc ms := by
    subst hA
    obtain ⟨e1, e2⟩ := hsame
    rw [State.setFrames_setFrames] at e1
    have h2 : (T.setVm s.vm).sameButNew ({ U with vm := s.vm } : State) [] (0 + 1) (0 + 6) := ⟨e1, e2⟩
    have h3 := X.same.trans h2
    rw [List.append_nil] at h3
    exact h3.mono hc hs
  refine ⟨U, ?_, .threw T.heap.size, hrun, hend, Or.inr ⟨T.heap.size, rfl, cls, ce, locs, hx U hWs.alike f1 (fun q hq => f2 q hq (fun z hz => nomatch hz)), hce, hO.vm, hcl, hWs, hall, hf⟩⟩
  refine st1 _ ?_
  show Steps p.tables e below (T1.setTop { method := m, pc := pc + 3, locals := ls, stack := .ref T.heap.size :: rest, locked := none }) _
  jvm_step X₁.here [X₁.here.top, hexec, d3', Value.category]
  exact hsteps
/-- 'throw new E("text")': new; dup; ldc; invokespecial; athrow -/
theorem vx_throwS {cc : ByteArray} {pc : Nat} (hexec : p.tables.exec = Jvm.exec) (hb : c.code = cc) (hl : l.stackTraces = false) {own cls text : String} {names : List String} {ik is ic mc ms sa : Nat} {A : Nat → Prop}
    (hown : s.vm.findClass own = some m.cls) (hcls : Bundle.fit cls = true) (hnames : ∀ n ∈ names, Bundle.fit n = true)
    (hk : (Cond.classLink own ik cls).before args s = true) (hini : (Cond.initialized cls).before args s = true) (hstr : vk_R own is text sa s) (hat : ∀ w ∈ vx_atS own ic cls names, w.before args s = true)
    (hgood : ∀ w ∈ Cond.classLink own ik cls :: Cond.initialized cls :: vx_atS own ic cls names, vx_ot w = true)
    (hU : vx_Zq Bundle.tN "UNASSIGNED_STACK" Bundle.steD A s s.heap) (hN : vx_Zq Bundle.tN "SUPPRESSED_SENTINEL" Bundle.listD A s s.heap) (hS : va_S A s.heap H locs) (hsize : ls.size = c.maxLocals)
    (d0 : decode cc pc = .ok (.new ik, 3)) (d3 : decode cc (pc + 3) = .ok (.dup, 1)) (d4 : decode cc (pc + 4) = .ok (.ldc is, 2)) (d6 : decode cc (pc + 6) = .ok (.invokespecial ic, 3)) (d9 : decode cc (pc + 9) = .ok (.athrow, 1))
    (hout : ∀ x ∈ c.exceptionTable.toList, covers x (pc + 9) = false)
    (hRframes : names.length + 3 < R.frames) (hRlocals : (rest.map fun v => v.category).sum + (13 * (names.length + 1) + 43) ≤ R.locals) (hRcells : cells + 1 ≤ R.cells) (hRslots : slots + 6 ≤ R.slots) (hlocks : meth.locks = false)
    (hx : ∀ t : State, s.vm.Alike t.vm → H.size ≤ t.heap.size → (∀ q : Nat, q < H.size → t.heap[q]? = H[q]?) → XC cls s t)
    (hf : ∀ z ∈ locs, free z.base) (hc : cells + 1 ≤ mc) (hs : slots + 6 ≤ ms) :
    W p l e R s m args below meth c H locs cells slots (vx_MQ below Qc XC args s mc ms free) (F0 m pc ls rest) := by
  intro T hT X
  have htr : e.platform.stackTraces = false := (show e.platform.stackTraces = l.stackTraces by rw [X.admits.platform]).trans hl
  have Y := vx_rebase X (R' := { frames := R.frames, locals := R.locals, cells := 1, slots := 6 }) (Nat.le_refl _) (Nat.le_refl _) hRcells hRslots
  obtain ⟨s', hA⟩ : ∃ z, z = (T.setVm s.vm).setFrames (.invoking m args :: below) := ⟨_, rfl⟩
  rw [← hA] at Y
  have hvm : s'.vm = s.vm := by rw [hA]; rfl
  have hhp : s'.heap = H := by rw [hA]; exact hT
  have hW0 : s.WarmedH s'.vm := by rw [hvm]; exact State.WarmedH.refl s
  have hat' : ∀ w ∈ vx_atS own ic cls names, w.before args s' = true := fun w hw => vx_ot_at hW0 hvm.symm (hgood w (List.mem_cons_of_mem _ (List.mem_cons_of_mem _ hw))) (hat w hw)
  have hk' : (Cond.classLink own ik cls).before args s' = true := vx_ot_at hW0 hvm.symm (hgood _ List.mem_cons_self) hk
  have hini' : (Cond.initialized cls).before args s' = true := vx_ot_at hW0 hvm.symm (hgood _ (List.mem_cons_of_mem _ List.mem_cons_self)) hini
  have hU' : vx_Zq Bundle.tN "UNASSIGNED_STACK" Bundle.steD A s' s'.heap := by rw [hhp]; exact vx_Zq.moved hW0.alike (hU.kept hS.2.1)
  have hN' : vx_Zq Bundle.tN "SUPPRESSED_SENTINEL" Bundle.listD A s' s'.heap := by rw [hhp]; exact vx_Zq.moved hW0.alike (hN.kept hS.2.1)
  have h : ∀ w ∈ Bundle.ownAtoms own ic cls names, w.before args s' = true := vx_own hat' (vx_isRefq hU'.1) (vx_isRefq hN'.1) hU'.2.word hN'.2.word
  have hown' : s'.vm.findClass own = some m.cls := by rw [hvm]; exact hown
  have hins : (Cond.instantiable cls 6).before args s' = true := h _ (by simp [Bundle.ownAtoms])
  obtain ⟨vm₁, cX, kX, hfX, hkX, -, -, X₁, st1⟩ := Y.newCold hexec (own := own) (C := cls) (index := ik) (n := 6) hown' hk' hins hini'
    (g := F0 m pc ls rest) rfl (by rw [hb]; exact d0) (Nat.le_refl _) (Nat.le_refl _)
  generalize hT1 : (T.setVm vm₁).pushCell { cls := cX, slots := kX.instanceTypes.map defaultValue, vm := .none } = T1 at X₁ st1
  have hcat : (Value.ref T.heap.size).category = 1 := rfl
  have hcellA : T1.heap[T.heap.size]? = some (freshCell cX kX) := by rw [← hT1]; exact State.heap_pushCell_size _ _
  have d3' : decode c.code (pc + 3) = .ok (.dup, 1) := by rw [hb]; exact d3
  have d4' : decode c.code (pc + 4) = .ok (.ldc is, 2) := by rw [hb]; exact d4
  have hstr' : vk_R own is text sa s' := vk_R.warm hW0 hstr
  obtain ⟨U, hsteps, hrun, hend, hW, hsame, ce, hce, hO⟩ := X₁.ctorThrowS hexec htr (own := own) (cls := cls) (names := names) (ic := ic) hown' hcls hnames h (fun x hx => nomatch hx) hfX hkX hcellA (by rw [hhp, hT]; exact Nat.le_refl _) (msg := .ref sa) rfl
    (g := { method := m, pc := pc + 6, locals := ls, stack := .ref sa :: .ref T.heap.size :: .ref T.heap.size :: rest, locked := none }) rfl hsize rfl rfl (rest := rest) rfl
    (by rw [hb]; exact d6) (by rw [hb]; exact d9) hout hRframes (by simp only [List.map_cons, List.sum_cons, hcat]; omega) hlocks
  obtain ⟨f1, f2⟩ := vx_frame hsame
  rw [hhp] at f1 f2
  have hWs : s.WarmedH U.vm := State.WarmedH.trans hW0 hW
  have hcl : s.vm.findClass cls = some ce.cls := by
    have h9 := hO.cls
    rw [hvm] at h9
    exact h9
  have hall : s.sameButNew ({ U with vm := s.vm } : State) locs mc ms := by
    subst hA
    obtain ⟨e1, e2⟩ := hsame
    rw [State.setFrames_setFrames] at e1
    have h2 : (T.setVm s.vm).sameButNew ({ U with vm := s.vm } : State) [] (0 + 1) (0 + 6) := ⟨e1, e2⟩
    have h3 := X.same.trans h2
    rw [List.append_nil] at h3
    exact h3.mono hc hs
  refine ⟨U, ?_, .threw T.heap.size, hrun, hend, Or.inr ⟨T.heap.size, rfl, cls, ce, locs, hx U hWs.alike f1 (fun q hq => f2 q hq (fun z hz => nomatch hz)), hce, hO.vm, hcl, hWs, hall, hf⟩⟩
  refine st1 _ ?_
  show Steps p.tables e below (T1.setTop { method := m, pc := pc + 3, locals := ls, stack := .ref T.heap.size :: rest, locked := none }) _
  jvm_step X₁.here [X₁.here.top, hexec, d3', Value.category]
  exact X₁.ldcString hexec (own := own) (text := text) (index := is) (a := sa) hown' hstr'.1 hstr'.2
    (g := { method := m, pc := pc + 4, locals := ls, stack := .ref T.heap.size :: .ref T.heap.size :: rest, locked := none }) rfl d4' _ hsteps
/-- 'throw new E("text")', the text by a wide index -/
theorem vx_throwSW {cc : ByteArray} {pc : Nat} (hexec : p.tables.exec = Jvm.exec) (hb : c.code = cc) (hl : l.stackTraces = false) {own cls text : String} {names : List String} {ik is ic mc ms sa : Nat} {A : Nat → Prop}
    (hown : s.vm.findClass own = some m.cls) (hcls : Bundle.fit cls = true) (hnames : ∀ n ∈ names, Bundle.fit n = true)
    (hk : (Cond.classLink own ik cls).before args s = true) (hini : (Cond.initialized cls).before args s = true) (hstr : vk_R own is text sa s) (hat : ∀ w ∈ vx_atS own ic cls names, w.before args s = true)
    (hgood : ∀ w ∈ Cond.classLink own ik cls :: Cond.initialized cls :: vx_atS own ic cls names, vx_ot w = true)
    (hU : vx_Zq Bundle.tN "UNASSIGNED_STACK" Bundle.steD A s s.heap) (hN : vx_Zq Bundle.tN "SUPPRESSED_SENTINEL" Bundle.listD A s s.heap) (hS : va_S A s.heap H locs) (hsize : ls.size = c.maxLocals)
    (d0 : decode cc pc = .ok (.new ik, 3)) (d3 : decode cc (pc + 3) = .ok (.dup, 1)) (d4 : decode cc (pc + 4) = .ok (.ldc_w is, 3)) (d7 : decode cc (pc + 7) = .ok (.invokespecial ic, 3)) (d10 : decode cc (pc + 10) = .ok (.athrow, 1))
    (hout : ∀ x ∈ c.exceptionTable.toList, covers x (pc + 10) = false)
    (hRframes : names.length + 3 < R.frames) (hRlocals : (rest.map fun v => v.category).sum + (13 * (names.length + 1) + 43) ≤ R.locals) (hRcells : cells + 1 ≤ R.cells) (hRslots : slots + 6 ≤ R.slots) (hlocks : meth.locks = false)
    (hx : ∀ t : State, s.vm.Alike t.vm → H.size ≤ t.heap.size → (∀ q : Nat, q < H.size → t.heap[q]? = H[q]?) → XC cls s t)
    (hf : ∀ z ∈ locs, free z.base) (hc : cells + 1 ≤ mc) (hs : slots + 6 ≤ ms) :
    W p l e R s m args below meth c H locs cells slots (vx_MQ below Qc XC args s mc ms free) (F0 m pc ls rest) := by
  intro T hT X
  have htr : e.platform.stackTraces = false := (show e.platform.stackTraces = l.stackTraces by rw [X.admits.platform]).trans hl
  have Y := vx_rebase X (R' := { frames := R.frames, locals := R.locals, cells := 1, slots := 6 }) (Nat.le_refl _) (Nat.le_refl _) hRcells hRslots
  obtain ⟨s', hA⟩ : ∃ z, z = (T.setVm s.vm).setFrames (.invoking m args :: below) := ⟨_, rfl⟩
  rw [← hA] at Y
  have hvm : s'.vm = s.vm := by rw [hA]; rfl
  have hhp : s'.heap = H := by rw [hA]; exact hT
  have hW0 : s.WarmedH s'.vm := by rw [hvm]; exact State.WarmedH.refl s
  have hat' : ∀ w ∈ vx_atS own ic cls names, w.before args s' = true := fun w hw => vx_ot_at hW0 hvm.symm (hgood w (List.mem_cons_of_mem _ (List.mem_cons_of_mem _ hw))) (hat w hw)
  have hk' : (Cond.classLink own ik cls).before args s' = true := vx_ot_at hW0 hvm.symm (hgood _ List.mem_cons_self) hk
  have hini' : (Cond.initialized cls).before args s' = true := vx_ot_at hW0 hvm.symm (hgood _ (List.mem_cons_of_mem _ List.mem_cons_self)) hini
  have hU' : vx_Zq Bundle.tN "UNASSIGNED_STACK" Bundle.steD A s' s'.heap := by rw [hhp]; exact vx_Zq.moved hW0.alike (hU.kept hS.2.1)
  have hN' : vx_Zq Bundle.tN "SUPPRESSED_SENTINEL" Bundle.listD A s' s'.heap := by rw [hhp]; exact vx_Zq.moved hW0.alike (hN.kept hS.2.1)
  have h : ∀ w ∈ Bundle.ownAtoms own ic cls names, w.before args s' = true := vx_own hat' (vx_isRefq hU'.1) (vx_isRefq hN'.1) hU'.2.word hN'.2.word
  have hown' : s'.vm.findClass own = some m.cls := by rw [hvm]; exact hown
  have hins : (Cond.instantiable cls 6).before args s' = true := h _ (by simp [Bundle.ownAtoms])
  obtain ⟨vm₁, cX, kX, hfX, hkX, -, -, X₁, st1⟩ := Y.newCold hexec (own := own) (C := cls) (index := ik) (n := 6) hown' hk' hins hini'
    (g := F0 m pc ls rest) rfl (by rw [hb]; exact d0) (Nat.le_refl _) (Nat.le_refl _)
  generalize hT1 : (T.setVm vm₁).pushCell { cls := cX, slots := kX.instanceTypes.map defaultValue, vm := .none } = T1 at X₁ st1
  have hcat : (Value.ref T.heap.size).category = 1 := rfl
  have hcellA : T1.heap[T.heap.size]? = some (freshCell cX kX) := by rw [← hT1]; exact State.heap_pushCell_size _ _
  have d3' : decode c.code (pc + 3) = .ok (.dup, 1) := by rw [hb]; exact d3
  have d4' : decode c.code (pc + 4) = .ok (.ldc_w is, 3) := by rw [hb]; exact d4
  have hstr' : vk_R own is text sa s' := vk_R.warm hW0 hstr
  obtain ⟨U, hsteps, hrun, hend, hW, hsame, ce, hce, hO⟩ := X₁.ctorThrowS hexec htr (own := own) (cls := cls) (names := names) (ic := ic) hown' hcls hnames h (fun x hx => nomatch hx) hfX hkX hcellA (by rw [hhp, hT]; exact Nat.le_refl _) (msg := .ref sa) rfl
    (g := { method := m, pc := pc + 7, locals := ls, stack := .ref sa :: .ref T.heap.size :: .ref T.heap.size :: rest, locked := none }) rfl hsize rfl rfl (rest := rest) rfl
    (by rw [hb]; exact d7) (by rw [hb]; exact d10) hout hRframes (by simp only [List.map_cons, List.sum_cons, hcat]; omega) hlocks
  obtain ⟨f1, f2⟩ := vx_frame hsame
  rw [hhp] at f1 f2
  have hWs : s.WarmedH U.vm := State.WarmedH.trans hW0 hW
  have hcl : s.vm.findClass cls = some ce.cls := by
    have h9 := hO.cls
    rw [hvm] at h9
    exact h9
  have hall : s.sameButNew ({ U with vm := s.vm } : State) locs mc ms := by
    subst hA
    obtain ⟨e1, e2⟩ := hsame
    rw [State.setFrames_setFrames] at e1
    have h2 : (T.setVm s.vm).sameButNew ({ U with vm := s.vm } : State) [] (0 + 1) (0 + 6) := ⟨e1, e2⟩
    have h3 := X.same.trans h2
    rw [List.append_nil] at h3
    exact h3.mono hc hs
  refine ⟨U, ?_, .threw T.heap.size, hrun, hend, Or.inr ⟨T.heap.size, rfl, cls, ce, locs, hx U hWs.alike f1 (fun q hq => f2 q hq (fun z hz => nomatch hz)), hce, hO.vm, hcl, hWs, hall, hf⟩⟩
  refine st1 _ ?_
  show Steps p.tables e below (T1.setTop { method := m, pc := pc + 3, locals := ls, stack := .ref T.heap.size :: rest, locked := none }) _
  jvm_step X₁.here [X₁.here.top, hexec, d3', Value.category]
  exact X₁.ldcStringW hexec (own := own) (text := text) (index := is) (a := sa) hown' hstr'.1 hstr'.2
    (g := { method := m, pc := pc + 4, locals := ls, stack := .ref T.heap.size :: .ref T.heap.size :: rest, locked := none }) rfl d4' _ hsteps
end Ends
section Bodies
variable {l : Launch}
theorem vx_ofW {y : MethodName} {ws ws' : List Cond} {rm : Room} {Pc : Array Value → State → Prop} {Qc : Array Value → State → Outcome → State → Prop} {XC : String → State → State → Prop} {mc ms : Nat} {free : Addr → Prop} {cc : ByteArray} {maxL : Nat} {ret : Option FieldType}
    (hy : plainName y.cls = true) (hw : ws = Cond.code y cc maxL ret :: ws')
    (body : ∀ p e s m args below meth c s₁, BodyLoose p l y (headSpec ws rm) cc maxL ret e s m args below meth c s₁ → c.maxLocals = maxL → (∀ x ∈ c.exceptionTable.toList, False) → Pc args s →
      W p l e (headSpec ws rm).room s m args below meth c s.heap [] 0 0 (vx_MQ below Qc XC args s mc ms free) (entryFrame m args maxL)) : vx_Met l y ws rm Pc Qc XC mc ms free := by
  refine MetFree.of_bodyS (code := cc) (maxLocals := maxL) (ret := ret) hy ?_ ?_
  · intro args s m h hn
    obtain ⟨meth, c, h1, h2, h3, h4, h5, h6, -, -⟩ := Cond.code_spec hn (atoms_spec (ws := ws) h _ (by rw [hw]; exact List.mem_cons_self))
    exact ⟨meth, c, h1, h2, h3, h4, h5, h6⟩
  · intro p e s m args below meth c s₁ B hml hP _
    have hh0 : s₁.heap = s.heap := by rw [B.state]; rfl
    have ht : ∀ x ∈ c.exceptionTable.toList, False := by
      obtain ⟨meth9, c9, h1, h2, -, -, -, -, h7, -⟩ := Cond.code_spec B.named (atoms_spec (ws := ws) B.pre _ (by rw [hw]; exact List.mem_cons_self))
      cases Option.some.inj (h1.symm.trans B.method)
      cases Option.some.inj (h2.symm.trans (Stand.of_body B).code)
      intro x hx
      rw [Array.isEmpty_iff.mp h7] at hx
      cases hx
    obtain ⟨t, a1, o, b1, b2, b3⟩ := body p e s m args below meth c s₁ B hml ht hP s₁ hh0 (Stand.of_body B)
    exact ⟨t, o, a1, b1, b2, b3⟩
/-- the table of a body with handlers -/
theorem vx_table {p : Program} {x y : MethodName} {S : Spec} {cc bytes : ByteArray} {maxL maxL' : Nat} {ret ret' : Option FieldType} {e : Env} {s s₁ : State} {m : MethodId} {args : Array Value} {below : List Frame} {meth : Method} {c : Code} {hh : List (Nat × Nat × Nat × Nat)}
    (B : BodyLoose p l y S cc maxL ret e s m args below meth c s₁) (h : (Cond.codeWith y bytes maxL' ret' hh).before args s = true) : c.exceptionTable.toList = tableOf hh := by
  obtain ⟨m9, meth9, c9, hn9, h1, h2, -, -, h6, -⟩ := Cond.codeWith_spec h
  cases Option.some.inj (hn9.symm.trans B.named)
  cases Option.some.inj (h1.symm.trans B.method)
  cases Option.some.inj (h2.symm.trans (Stand.of_body B).code)
  rw [← h6, table_eq]
end Bodies
end VXA
/-! ===== END ===== -/
/-! ===== BEGIN a static call of a method with an exception table ===== -/
section VXS
variable {p : Program} {l : Launch} {e : Env} {R : Room} {s : State} {m : MethodId} {args : Array Value} {below : List Frame} {meth : Method} {c : Code} {T : State} {H : Heap} {locs : List Loc} {cells slots : Nat}
abbrev vx_CSW (R : Room) (s : State) (args : Array Value) (own : String) (index : Nat) (y : MethodName) (bytes : ByteArray) (maxL : Nat) (ret : Option FieldType) (hh : List (Nat × Nat × Nat × Nat)) (ws : List Cond) (rm : Room) (mc ms n : Nat) : Prop :=
  (rm.cells = mc ∧ rm.slots = ms ∧ rm.frames + 1 ≤ R.frames ∧ 8 + (maxL + 11) + rm.locals ≤ R.locals ∧ (∀ w ∈ ws, ∀ (a' : Array Value) (U : State), s.WarmedH U.vm → w.before a' U = true) ∧ Cond.codeWith y bytes maxL ret hh ∈ ws) ∧
  (Cond.codeWith y bytes maxL ret hh).before args s = true ∧ (Cond.initialized y.cls).before args s = true ∧ (y.cls ≠ "java/lang/invoke/MethodHandle" ∧ y.cls ≠ "java/lang/invoke/VarHandle") ∧
  (∀ sig, parseMethodDescriptor y.desc = some sig → n = sig.parameters.length) ∧ (Cond.methodLink own index y).before args s = true ∧ (Cond.static y).before args s = true
theorem vx_cwSW {own : String} {index maxL mc ms : Nat} {y : MethodName} {bytes : ByteArray} {ret : Option FieldType} {hh : List (Nat × Nat × Nat × Nat)} {Ts ws ws' : List Cond} {rm : Room} (n : Nat) (ht : ∀ w ∈ Ts, w.before args s = true) (hT : GoodIn Ts (va_wsS own index y ws)) (hw : ws = Cond.codeWith y bytes maxL ret hh :: ws') (hrc : rm.cells = mc) (hrs : rm.slots = ms)
    (hd : y.cls ≠ "java/lang/invoke/MethodHandle" ∧ y.cls ≠ "java/lang/invoke/VarHandle" ∧ (parseMethodDescriptor y.desc).map (fun d => d.parameters.length) = some n) (hR : rm.frames + 1 ≤ R.frames ∧ 8 + (maxL + 11) + rm.locals ≤ R.locals) :
    vx_CSW R s args own index y bytes maxL ret hh ws rm mc ms n := by
  have ok : ∀ w ∈ va_wsS own index y ws, w.before args s = true := fun w h => ht w (hT w h).1
  have hG : GoodIn Ts ws := fun w h => hT w (by unfold va_wsS; exact List.mem_append_right _ h)
  have hc : Cond.codeWith y bytes maxL ret hh ∈ ws := by rw [hw]; exact List.mem_cons_self
  refine ⟨⟨hrc, hrs, hR.1, hR.2, pay_in ht hG, hc⟩, ht _ (hG _ hc).1, ok _ (by simp [va_wsS]), ⟨hd.1, hd.2.1⟩, fun sig h => ?_, ok _ (by simp [va_wsS]), ok _ (by simp [va_wsS])⟩
  have h2 := hd.2.2
  rw [h] at h2
  exact (Option.some.inj h2).symm
theorem vx_callSW (X : Stand p l e R s m args below meth c T locs cells slots) (hexec : p.tables.exec = Jvm.exec) {own : String} {index : Nat} {y : MethodName} {bytes : ByteArray} {maxL : Nat} {ret : Option FieldType} {hh : List (Nat × Nat × Nat × Nat)}
    (hown : s.vm.findClass own = some m.cls) (hlink : (Cond.methodLink own index y).before args s = true) (hstat : (Cond.static y).before args s = true) (hinit : (Cond.initialized y.cls).before args s = true)
    (hcode : (Cond.codeWith y bytes maxL ret hh).before args s = true) (hy : y.cls ≠ "java/lang/invoke/MethodHandle" ∧ y.cls ≠ "java/lang/invoke/VarHandle")
    {W9 : Nat} {Pre : Pt → Array Value → Prop} {Post : Pt → Array Value → Option Value → Pt → Prop} (hK : Back l R p e below s args y 3 W9 Pre Post)
    {g : JFrame} (hg : g.method = m) (hsize : g.locals.size = c.maxLocals) {argsL rest : List Value} (hlen : ∀ sig, parseMethodDescriptor y.desc = some sig → argsL.length = sig.parameters.length)
    (hstack : g.stack = argsL.reverse ++ rest) (hW : 2 * g.monitorRoom + (rest.map fun v => v.category).sum ≤ W9) (hdg : decode c.code g.pc = .ok (.invokestatic index, 3))
    (hpre : ∀ vm₁, s.WarmedH vm₁ → Pre ⟨T.setVm vm₁, locs, cells, slots⟩ argsL.toArray) :
    ∃ (v : Option Value) (vm₁ : Vm) (B : Pt), s.WarmedH vm₁ ∧ Stand p l e R s m args below meth c B.U B.locs B.cells B.slots ∧ Post ⟨T.setVm vm₁, locs, cells, slots⟩ argsL.toArray v B ∧
      ∀ target, Steps p.tables e below (B.U.setTop { g with pc := g.pc + 3, stack := v.toList ++ rest }) target → Steps p.tables e below (T.setTop g) target := by
  obtain ⟨mk, methM, cM, hnamed, hmethM, -, -, -, -, -, -, hsigM⟩ := Cond.codeWith_spec hcode
  have hstatic : methM.isStatic = true := Cond.static_spec hnamed hmethM hstat
  obtain ⟨kP, hkP, -⟩ := className_of_methodNamed hnamed
  have hinitP : kP.init = .initialized := Cond.initialized_spec (findClass_of_methodNamed hnamed) hkP hinit
  obtain ⟨vm₁, X₁, hstep₁⟩ := X.invokestatic hexec hown hlink hnamed hmethM hstatic hkP hinitP hy (g := g) hg (argsL := argsL) (rest := rest) (hlen _ hsigM) hstack hdg
  obtain ⟨v, B, X', hpost, hsteps⟩ := hK m meth c ⟨T.setVm vm₁, locs, cells, slots⟩ { g with stack := rest } (.invokestatic index) mk argsL.toArray X₁ hg hsize hdg hW (X₁.named hnamed) (hpre vm₁ X₁.warmed)
  exact ⟨v, vm₁, B, X₁.warmed, X', hpost, fun target h => hstep₁ _ fun acts => by rw [doInvoke_state]; exact hsteps.trans h⟩
theorem vx_runSW {y : MethodName} {bytes cc : ByteArray} {maxL nL mc ms n index : Nat} {ret : Option FieldType} {hh : List (Nat × Nat × Nat × Nat)} {ws : List Cond} {rm : Room} {Pc : Array Value → State → Prop} {Qc : Array Value → State → Outcome → State → Prop} {free : Addr → Prop} {Ts : List Cond} {own : String} {As rest : List Value} {g : JFrame}
    (S : CallFix p m c cc nL s args Ts own) (hM : Met l y ws rm Pc Qc mc ms free) (cw : vx_CSW R s args own index y bytes maxL ret hh ws rm mc ms n) (hp : PreS s H Pc As)
    (hg : g.method = m) (hn : As.length = n) (hsize : g.locals.size = nL) (hstack : g.stack = As.reverse ++ rest) (hW : 2 * g.monitorRoom + (rest.map fun v => v.category).sum ≤ 8) (hdg : decode cc g.pc = .ok (.invokestatic index, 3)) (hf : cells + mc ≤ R.cells ∧ slots + ms ≤ R.slots) :
    va_Run p l e R s m args below meth c H locs cells slots mc ms g rest (Qc As.toArray) (free) := by
  obtain ⟨⟨hrc, hrs, hfr, hlo, hws, hcw⟩, hcode, hini, hy, hlen, hl, hstt⟩ := cw
  have hK : Back l R p e below s args y 3 8 (PreOf R mc ms Pc) (PostOf Qc mc ms free) := va_backW (hh := hh) (bytes := bytes) (maxL := maxL) (ret := ret) hM hp.1 hrc hrs hfr hlo hws hcw (fun a' U hW => word_at hW (Or.inl (by first | rfl | simp [Cond.onTables, Cond.keeps, Cond.steady])) hini)
  obtain ⟨hx, hb, hml, ho, -⟩ := S
  intro T hT X
  obtain ⟨v, vm₁, ⟨U', l2, c2, s2⟩, hW₁, X', ⟨g', mk, t, L, e1, e2, hq, h1, hL, h2, h3⟩, st⟩ := vx_callSW X hx (hh := hh) (bytes := bytes) (maxL := maxL) (ret := ret) ho hl hstt hini hcode hy hK hg (hsize.trans hml.symm) (argsL := As) (rest := rest) (fun sig h => hn.trans (hlen sig h)) hstack hW (by rw [hb]; exact hdg)
    (fun vm₁ hW₁ => ⟨hf.1, hf.2, hp.2 (T.setVm vm₁) hT hW₁⟩)
  dsimp only [Pt.U, Pt.locs, Pt.cells, Pt.slots] at X' e1 e2 h1 h2 h3 st
  subst h1; subst h2; subst h3
  exact ⟨v, (T.setVm vm₁).calling g' mk As.toArray, t, U', L, hT, X', hL, e1, e2, hq, st⟩
/-- not caught here, past rows that name other classes: it goes on to the caller -/
theorem vx_outP {p : Program} {l : Launch} {e : Env} {R : Room} {s : State} {m : MethodId} {args : Array Value} {below : List Frame} {meth : Method} {c : Code} {H : Heap} {locs : List Loc} {cells slots : Nat} {free : Addr → Prop} {ls : Array Slot} {rest : List Value} {Qc : Array Value → State → Outcome → State → Prop} {XC : String → State → State → Prop}
    {pc : Nat} {own E : String} {ce : Cell} {q : Addr} {mc ms : Nat} (hown : s.vm.findClass own = some m.cls) (hlocks : meth.locks = false)
    (hpass : ∀ z ∈ c.exceptionTable.toList, covers z pc = false ∨ (z.catchType ≠ 0 ∧ ∃ nm : String, (Cond.classLink own z.catchType nm).before args s = true ∧ va_Nc E nm s)) (hcell : H[q]? = some ce) (hv : ce.vm = .none) (hcl : s.vm.findClass E = some ce.cls)
    (hx : ∀ t : State, t.heap = H → s.vm.Alike t.vm → XC E s t) (hf : ∀ z ∈ locs, free z.base) (hc : cells ≤ mc) (hs : slots ≤ ms) :
    vx_W p l e R s m args below meth c H locs cells slots (vx_MQ below Qc XC args s mc ms free) (F0 m pc ls rest) q := by
  intro T hT X
  have hpl : e.platform.magicAccessors = ({} : Platform).magicAccessors := by rw [X.admits.platform]
  obtain ⟨vm', hW', X', st⟩ := X.outThrough hlocks q (g := F0 m pc ls rest) rfl rfl rfl (cell := ce) (by rw [hT]; exact hcell) (by rw [hv]; rfl)
    (by obtain ⟨k9, h9, -⟩ := Vm.findClass_spec hcl; exact ⟨k9, h9⟩) (fun z hz => by
      rcases hpass z hz with h | ⟨hz0, nm, hl1, hn1⟩
      · exact Or.inl h
      · obtain ⟨c6, hc6, hcl6⟩ := Cond.classLink_spec hown hl1 e.platform hpl
        obtain ⟨a8, b8, h1, h2, h3⟩ := hn1
        cases Option.some.inj (h1.symm.trans hcl)
        cases Option.some.inj (h2.symm.trans hc6)
        exact Or.inr ⟨hz0, _, hcl6, h3⟩)
  obtain ⟨g₀, hfr⟩ := X'.frames_eq
  have hcell9 : ((T.setVm vm').setFrames (.throwing q :: below)).heap[q]? = some ce := by
    show T.heap[q]? = some ce
    rw [hT]; exact hcell
  have hend : Ended ((T.setVm vm').setFrames (.throwing q :: below)) below (.threw q) := State.frames_setFrames _ (State.cur_lt_of_frames hfr)
  refine ⟨(T.setVm vm').setFrames (.throwing q :: below), ?_, .threw q, X'.here.running, hend, Or.inr ⟨q, rfl, E, ce, locs, hx _ hT (X'.ends _).1.alike, hcell9, hv, hcl, (X'.ends _).1, (X'.ends _).2.mono hc hs, hf⟩⟩
  rw [X.pushThrowing_eq]
  exact st
/-- a thing of a world lies in the heap -/
theorem vx_lt {D : va_G} {cl : List vw_C} {ws : va_W} {H1 : Heap} (h : va_P D cl ws H1) {k : Nat} {q : Nat × va_E} (hk : ws[k]? = some q) : q.1 < H1.size := (h k q hk).lt
end VXS
/-! ===== END ===== -/
/-! ===== BEGIN methods with a table of their own: called by a name, returning or throwing ===== -/
section VXH
/-! vx_backW, vx_callVX, vx_callSX, vx_callVW, vx_runVW, vx_runVX, vx_runSX, vx_ofWH follow the same proofs as their sisters above (Free/Laws.lean, Shelf42/LK1.lean); vx_outP calls Shelf42/NT130.lean (outThrough). -/
section
variable {l : Launch} {R : Room} {p : Program} {e : Env} {below : List Frame} {s : State} {sargs : Array Value} {y : MethodName} {len W9 : Nat}
theorem vx_backW {ws : List Cond} {rm : Room} {Pc : Array Value → State → Prop} {Qc : Array Value → State → Outcome → State → Prop} {XC : String → State → State → Prop} {mc ms : Nat} {free : Addr → Prop} {bytes : ByteArray} {maxL : Nat} {ret : Option FieldType} {hh : List (Nat × Nat × Nat × Nat)}
    (hM : vx_Met l y ws rm Pc Qc XC mc ms free) (hblind : FrameBlind Pc) (hrc : rm.cells = mc) (hrs : rm.slots = ms)
    (hframes : rm.frames + 1 ≤ R.frames) (hlocals : W9 + (maxL + 11) + rm.locals ≤ R.locals)
    (hws : ∀ w ∈ ws, ∀ a' U, s.WarmedH U.vm → w.before a' U = true) (hcode : Cond.codeWith y bytes maxL ret hh ∈ ws) (hinit : ∀ a' U, s.WarmedH U.vm → (Cond.initialized y.cls).before a' U = true) :
    vx_Back l R p e below s sargs y len W9 (PreOf R mc ms Pc) (PostOf Qc mc ms free) (vx_Post XC mc ms free) := by
  intro m meth c A g ig mk a X hg hsize hdg hW hn hp
  have h1 : (headSpec ws rm).pre.before a A.U = true := atoms_intro fun w hw => hws w hw _ _ X.warmed
  have h2 : (Cond.codeWith y bytes maxL ret hh).before a A.U = true := hws _ hcode _ _ X.warmed
  have h3 : (Cond.initialized y.cls).before a A.U = true := hinit _ _ X.warmed
  have h4 : A.cells + (headSpec ws rm).room.cells ≤ R.cells := by rw [show (headSpec ws rm).room.cells = mc from hrc]; exact hp.1
  have h5 : A.slots + (headSpec ws rm).room.slots ≤ R.slots := by rw [show (headSpec ws rm).room.slots = ms from hrs]; exact hp.2.1
  have hPc : Pc a (A.U.calling g mk a) := hblind _ _ _ _ hp.2.2
  obtain ⟨U, Ls, c0, s0⟩ := A
  dsimp only [Pt.U, Pt.locs, Pt.cells, Pt.slots] at h1 h2 h3 h4 h5 X hn hPc ⊢
  obtain ⟨m9, methY, cY, hn9, hmY, hcY, -, hlY, -⟩ := Cond.codeWith_spec h2
  cases Option.some.inj (hn9.symm.trans hn)
  obtain ⟨kY, hkY, -⟩ := className_of_methodNamed hn
  have hinitY : kY.init = .initialized := Cond.initialized_spec (findClass_of_methodNamed hn) hkY h3
  have h : At U g.method c below := by rw [hg]; exact X.here
  have hlocals9 : W9 + (maxL + 11) + (headSpec ws rm).room.locals ≤ R.locals := hlocals
  have happ : (headSpec ws rm).appliesLoose y e.platform (U.calling g mk a) = true :=
    Spec.appliesLoose_calling (g := g) h hdg hn hkY hinitY
      (X.room_calling (g := g) (R' := (headSpec ws rm).room) hsize hmY hcY hframes (by rw [hlY]; omega) h4 h5) h1
  obtain ⟨mid, hmid⟩ := h.above
  have hfr : (U.setTop g).frames = (.java g :: mid) ++ below := by rw [State.frames_setTop' g h.top, hmid]; rfl
  obtain ⟨o, s₂, hsteps, -, hend, hq⟩ := Steps.callFree hM p X.admits X.cas X.clock (acts := []) hfr happ hPc trivial
  have hq' : vx_Q Qc XC mc ms free a (U.calling g mk a) o s₂ := hq
  rw [State.frames_setTop' g h.top] at hend
  obtain ⟨g₀, hg0⟩ := Option.isSome_iff_exists.mp h.top
  obtain ⟨r, hr⟩ := State.topJava?_eq_some.mp hg0
  have hr' : (({ U with heap := s₂.heap, slotsUsed := s₂.slotsUsed } : State).setVm s₂.vm).frames = .java g₀ :: r := hr
  rcases hq' with ⟨hqc, L, hfe, hL⟩ | ⟨q, rfl, E, ce, L, hx, hce, hcv, hcl, hW₂, hsm, hL⟩
  · obtain ⟨⟨v, rfl⟩, hW₂, e2, q2, q3, q4, q5, q6⟩ := id hfe
    have e3 : s₂ = ({ (U.calling g mk a).setFrames s₂.frames with heap := s₂.heap, slotsUsed := s₂.slotsUsed } : State).setVm s₂.vm := by
      have : s₂ = ({ s₂ with vm := (U.calling g mk a).vm } : State).setVm s₂.vm := rfl
      rw [e2] at this
      exact this
    obtain ⟨c₂, i₂, len₂, hc₂, hd₂, hf₂⟩ := hend
    have hW' : U.WarmedH s₂.vm := hW₂
    have hcc : c₂ = c := by
      have h1 : s₂.code? g.method = U.code? g.method := by
        rw [State.code?_eq, State.code?_eq, hW'.alike.method?]
      exact Option.some.inj (hc₂.symm.trans (h1.trans h.code))
    subst hcc
    have hlen : len₂ = len := by rw [hdg] at hd₂; cases hd₂; rfl
    subst hlen
    have hs₂ : s₂ = (({ U with heap := s₂.heap, slotsUsed := s₂.slotsUsed } : State).setVm s₂.vm).setTop { g with pc := g.pc + len₂, stack := v.toList ++ g.stack } := by
      refine e3.trans ?_
      rw [hf₂, State.calling_eq h.top, State.setFrames_setFrames, State.setTop_of_frames _ hr', hr]
      rfl
    have hsame : U.sameButNew ({ U with heap := s₂.heap, slotsUsed := s₂.slotsUsed } : State) L mc ms := by
      refine ⟨?_, q2, q3, q4, q5, q6⟩
      obtain ⟨t, ht, -⟩ := State.frames_cons hr
      show ({ U with heap := s₂.heap, slotsUsed := s₂.slotsUsed } : State) = { U.setFrames U.frames with heap := s₂.heap, slotsUsed := s₂.slotsUsed }
      rw [State.setFrames_self ht]
    subst hg
    refine Or.inl ⟨v, ⟨(({ U with heap := s₂.heap, slotsUsed := s₂.slotsUsed } : State).setVm s₂.vm), Ls ++ L, c0 + mc, s0 + ms⟩,
      ⟨X.admits, X.cas, X.clock, X.frames, X.room, X.hears, X.method, X.code, (X.here.setHeapUsed s₂.heap s₂.slotsUsed).setVm hW'.alike, X.tail, State.WarmedH.trans X.warmed hW', X.limits, X.bytes, X.same.trans (hsame.setVm s.vm)⟩,
      ⟨g, mk, s₂, L, rfl, rfl, hqc, rfl, hL, rfl, rfl⟩, ?_⟩
    show Steps p.tables e below _ ((({ U with heap := s₂.heap, slotsUsed := s₂.slotsUsed } : State).setVm s₂.vm).setTop { g with pc := g.pc + len₂, stack := v.toList ++ g.stack })
    rw [← hs₂]
    exact hsteps
  · obtain ⟨e2, q2, q3, q4, q5, q6⟩ := id hsm
    have e3 : s₂ = ({ (U.calling g mk a).setFrames s₂.frames with heap := s₂.heap, slotsUsed := s₂.slotsUsed } : State).setVm s₂.vm := by
      have : s₂ = ({ s₂ with vm := (U.calling g mk a).vm } : State).setVm s₂.vm := rfl
      rw [e2] at this
      exact this
    have hf₂ : s₂.frames = .throwing q :: .java g :: U.frames.tail := hend
    have hW' : U.WarmedH s₂.vm := hW₂
    have hs₂ : s₂ = ((({ U with heap := s₂.heap, slotsUsed := s₂.slotsUsed } : State).setVm s₂.vm).setTop g).pushFrame (.throwing q) := by
      refine e3.trans ?_
      rw [hf₂, State.calling_eq h.top, State.setFrames_setFrames, State.pushFrame, State.frames_setTop _ hr', State.setTop_of_frames _ hr', State.setFrames_setFrames, hr]
      rfl
    have hsame : U.sameButNew ({ U with heap := s₂.heap, slotsUsed := s₂.slotsUsed } : State) L mc ms := by
      refine ⟨?_, q2, q3, q4, q5, q6⟩
      obtain ⟨t, ht, -⟩ := State.frames_cons hr
      show ({ U with heap := s₂.heap, slotsUsed := s₂.slotsUsed } : State) = { U.setFrames U.frames with heap := s₂.heap, slotsUsed := s₂.slotsUsed }
      rw [State.setFrames_self ht]
    subst hg
    refine Or.inr ⟨q, ⟨(({ U with heap := s₂.heap, slotsUsed := s₂.slotsUsed } : State).setVm s₂.vm), Ls ++ L, c0 + mc, s0 + ms⟩,
      ⟨X.admits, X.cas, X.clock, X.frames, X.room, X.hears, X.method, X.code, (X.here.setHeapUsed s₂.heap s₂.slotsUsed).setVm hW'.alike, X.tail, State.WarmedH.trans X.warmed hW', X.limits, X.bytes, X.same.trans (hsame.setVm s.vm)⟩,
      ⟨g, mk, s₂, L, E, ce, rfl, rfl, hx, hce, hcv, hcl, rfl, hL, rfl, rfl⟩, ?_⟩
    show Steps p.tables e below _ (((({ U with heap := s₂.heap, slotsUsed := s₂.slotsUsed } : State).setVm s₂.vm).setTop g).pushFrame (.throwing q))
    rw [← hs₂]
    exact hsteps
end
variable {p : Program} {l : Launch} {e : Env} {R : Room} {s : State} {m : MethodId} {args : Array Value} {below : List Frame} {meth : Method} {c : Code} {T : State} {H : Heap} {locs : List Loc} {cells slots : Nat}
theorem vx_callVX (X : Stand p l e R s m args below meth c T locs cells slots) (hexec : p.tables.exec = Jvm.exec) {own C : String} {index : Nat} {y : MethodName} {bytes : ByteArray} {maxL : Nat} {ret : Option FieldType} {hh : List (Nat × Nat × Nat × Nat)}
    (hown : s.vm.findClass own = some m.cls) (hlink : (Cond.methodLink own index y).before args s = true) (hinst : (Cond.instanceMethod y).before args s = true) (hsel : (Cond.selects C y y).before args s = true)
    (hcode : (Cond.codeWith y bytes maxL ret hh).before args s = true) (hy : y.cls ≠ "java/lang/invoke/MethodHandle" ∧ y.cls ≠ "java/lang/invoke/VarHandle")
    {W9 : Nat} {Pre : Pt → Array Value → Prop} {Post : Pt → Array Value → Option Value → Pt → Prop} {PostX : Pt → Array Value → Addr → Pt → Prop} (hK : vx_Back l R p e below s args y 3 W9 Pre Post PostX)
    {b : Addr} {cellB : Cell} (hcell : T.heap[b]? = some cellB) (hobj : cellB.vm.isStatics = false) (hcls : s.vm.findClass C = some cellB.cls)
    {g : JFrame} (hg : g.method = m) (hsize : g.locals.size = c.maxLocals) {argsL rest : List Value} (hlen : ∀ sig, parseMethodDescriptor y.desc = some sig → argsL.length = sig.parameters.length)
    (hstack : g.stack = argsL.reverse ++ .ref b :: rest) (hW : 2 * g.monitorRoom + (rest.map fun v => v.category).sum ≤ W9) (hdg : decode c.code g.pc = .ok (.invokevirtual index, 3))
    (hpre : ∀ vm₁, s.WarmedH vm₁ → Pre ⟨T.setVm vm₁, locs, cells, slots⟩ (Value.ref b :: argsL).toArray) :
    (∃ (v : Option Value) (vm₁ : Vm) (B : Pt), s.WarmedH vm₁ ∧ Stand p l e R s m args below meth c B.U B.locs B.cells B.slots ∧ Post ⟨T.setVm vm₁, locs, cells, slots⟩ (Value.ref b :: argsL).toArray v B ∧
      ∀ target, Steps p.tables e below (B.U.setTop { g with pc := g.pc + 3, stack := v.toList ++ rest }) target → Steps p.tables e below (T.setTop g) target) ∨
    (∃ (q : Addr) (vm₁ : Vm) (B : Pt), s.WarmedH vm₁ ∧ Stand p l e R s m args below meth c B.U B.locs B.cells B.slots ∧ PostX ⟨T.setVm vm₁, locs, cells, slots⟩ (Value.ref b :: argsL).toArray q B ∧
      Steps p.tables e below (T.setTop g) ((B.U.setTop { g with stack := rest }).pushFrame (.throwing q))) := by
  obtain ⟨mk, methM, hnamed, hmethM, hstM, habM⟩ := Cond.instanceMethod_spec hinst
  obtain ⟨m8, methM', cM, hn8, hmethM', -, -, -, -, -, -, hsigM⟩ := Cond.codeWith_spec hcode
  cases Option.some.inj (hn8.symm.trans hnamed)
  cases hmethM.symm.trans hmethM'
  obtain ⟨c2, r2, m2, q1, q2, q3, q4, kP, hkP, hkPi⟩ := Cond.selects_spec hsel
  cases hcls.symm.trans q1
  cases (State.methodFound?_of_named hnamed hy).symm.trans q2
  cases hnamed.symm.trans q3
  have hselP : selectMethod e.platform s.vm cellB.cls mk = .method mk := by rw [Launch.admits_selectMethod X.admits]; exact q4
  obtain ⟨vm₁, X₁, hstep₁⟩ := X.invokevirtual hexec hown hlink hnamed hmethM hstM hkP hkPi hy (a := b) (cell := cellB) hcell
    (fun z h => by rw [h] at hobj; cases hobj) hselP hmethM habM hkP hkPi (g := g) hg (argsL := argsL) (rest := rest) (hlen _ hsigM) hstack hdg
  rcases hK m meth c ⟨T.setVm vm₁, locs, cells, slots⟩ { g with stack := rest } (.invokevirtual index) mk (Value.ref b :: argsL).toArray X₁ hg hsize hdg hW (X₁.named hnamed) (hpre vm₁ X₁.warmed) with ⟨v, B, X', hpost, hsteps⟩ | ⟨q, B, X', hpost, hsteps⟩
  · exact Or.inl ⟨v, vm₁, B, X₁.warmed, X', hpost, fun target h => hstep₁ _ fun acts => by rw [doInvoke_state]; exact hsteps.trans h⟩
  · exact Or.inr ⟨q, vm₁, B, X₁.warmed, X', hpost, hstep₁ _ fun acts => by rw [doInvoke_state]; exact hsteps⟩
theorem vx_callSX (X : Stand p l e R s m args below meth c T locs cells slots) (hexec : p.tables.exec = Jvm.exec) {own : String} {index : Nat} {y : MethodName} {bytes : ByteArray} {maxL : Nat} {ret : Option FieldType} {hh : List (Nat × Nat × Nat × Nat)}
    (hown : s.vm.findClass own = some m.cls) (hlink : (Cond.methodLink own index y).before args s = true) (hstat : (Cond.static y).before args s = true) (hinit : (Cond.initialized y.cls).before args s = true)
    (hcode : (Cond.codeWith y bytes maxL ret hh).before args s = true) (hy : y.cls ≠ "java/lang/invoke/MethodHandle" ∧ y.cls ≠ "java/lang/invoke/VarHandle")
    {W9 : Nat} {Pre : Pt → Array Value → Prop} {Post : Pt → Array Value → Option Value → Pt → Prop} {PostX : Pt → Array Value → Addr → Pt → Prop} (hK : vx_Back l R p e below s args y 3 W9 Pre Post PostX)
    {g : JFrame} (hg : g.method = m) (hsize : g.locals.size = c.maxLocals) {argsL rest : List Value} (hlen : ∀ sig, parseMethodDescriptor y.desc = some sig → argsL.length = sig.parameters.length)
    (hstack : g.stack = argsL.reverse ++ rest) (hW : 2 * g.monitorRoom + (rest.map fun v => v.category).sum ≤ W9) (hdg : decode c.code g.pc = .ok (.invokestatic index, 3))
    (hpre : ∀ vm₁, s.WarmedH vm₁ → Pre ⟨T.setVm vm₁, locs, cells, slots⟩ argsL.toArray) :
    (∃ (v : Option Value) (vm₁ : Vm) (B : Pt), s.WarmedH vm₁ ∧ Stand p l e R s m args below meth c B.U B.locs B.cells B.slots ∧ Post ⟨T.setVm vm₁, locs, cells, slots⟩ argsL.toArray v B ∧
      ∀ target, Steps p.tables e below (B.U.setTop { g with pc := g.pc + 3, stack := v.toList ++ rest }) target → Steps p.tables e below (T.setTop g) target) ∨
    (∃ (q : Addr) (vm₁ : Vm) (B : Pt), s.WarmedH vm₁ ∧ Stand p l e R s m args below meth c B.U B.locs B.cells B.slots ∧ PostX ⟨T.setVm vm₁, locs, cells, slots⟩ argsL.toArray q B ∧
      Steps p.tables e below (T.setTop g) ((B.U.setTop { g with stack := rest }).pushFrame (.throwing q))) := by
  obtain ⟨mk, methM, cM, hnamed, hmethM, -, -, -, -, -, -, hsigM⟩ := Cond.codeWith_spec hcode
  have hstatic : methM.isStatic = true := Cond.static_spec hnamed hmethM hstat
  obtain ⟨kP, hkP, -⟩ := className_of_methodNamed hnamed
  have hinitP : kP.init = .initialized := Cond.initialized_spec (findClass_of_methodNamed hnamed) hkP hinit
  obtain ⟨vm₁, X₁, hstep₁⟩ := X.invokestatic hexec hown hlink hnamed hmethM hstatic hkP hinitP hy (g := g) hg (argsL := argsL) (rest := rest) (hlen _ hsigM) hstack hdg
  rcases hK m meth c ⟨T.setVm vm₁, locs, cells, slots⟩ { g with stack := rest } (.invokestatic index) mk argsL.toArray X₁ hg hsize hdg hW (X₁.named hnamed) (hpre vm₁ X₁.warmed) with ⟨v, B, X', hpost, hsteps⟩ | ⟨q, B, X', hpost, hsteps⟩
  · exact Or.inl ⟨v, vm₁, B, X₁.warmed, X', hpost, fun target h => hstep₁ _ fun acts => by rw [doInvoke_state]; exact hsteps.trans h⟩
  · exact Or.inr ⟨q, vm₁, B, X₁.warmed, X', hpost, hstep₁ _ fun acts => by rw [doInvoke_state]; exact hsteps⟩
theorem vx_callVW (X : Stand p l e R s m args below meth c T locs cells slots) (hexec : p.tables.exec = Jvm.exec) {own C : String} {index : Nat} {y : MethodName} {bytes : ByteArray} {maxL : Nat} {ret : Option FieldType} {hh : List (Nat × Nat × Nat × Nat)}
    (hown : s.vm.findClass own = some m.cls) (hlink : (Cond.methodLink own index y).before args s = true) (hinst : (Cond.instanceMethod y).before args s = true) (hsel : (Cond.selects C y y).before args s = true)
    (hcode : (Cond.codeWith y bytes maxL ret hh).before args s = true) (hy : y.cls ≠ "java/lang/invoke/MethodHandle" ∧ y.cls ≠ "java/lang/invoke/VarHandle")
    {W9 : Nat} {Pre : Pt → Array Value → Prop} {Post : Pt → Array Value → Option Value → Pt → Prop} (hK : Back l R p e below s args y 3 W9 Pre Post)
    {b : Addr} {cellB : Cell} (hcell : T.heap[b]? = some cellB) (hobj : cellB.vm.isStatics = false) (hcls : s.vm.findClass C = some cellB.cls)
    {g : JFrame} (hg : g.method = m) (hsize : g.locals.size = c.maxLocals) {argsL rest : List Value} (hlen : ∀ sig, parseMethodDescriptor y.desc = some sig → argsL.length = sig.parameters.length)
    (hstack : g.stack = argsL.reverse ++ .ref b :: rest) (hW : 2 * g.monitorRoom + (rest.map fun v => v.category).sum ≤ W9) (hdg : decode c.code g.pc = .ok (.invokevirtual index, 3))
    (hpre : ∀ vm₁, s.WarmedH vm₁ → Pre ⟨T.setVm vm₁, locs, cells, slots⟩ (Value.ref b :: argsL).toArray) :
    ∃ (v : Option Value) (vm₁ : Vm) (B : Pt), s.WarmedH vm₁ ∧ Stand p l e R s m args below meth c B.U B.locs B.cells B.slots ∧ Post ⟨T.setVm vm₁, locs, cells, slots⟩ (Value.ref b :: argsL).toArray v B ∧
      ∀ target, Steps p.tables e below (B.U.setTop { g with pc := g.pc + 3, stack := v.toList ++ rest }) target → Steps p.tables e below (T.setTop g) target := by
  obtain ⟨mk, methM, hnamed, hmethM, hstM, habM⟩ := Cond.instanceMethod_spec hinst
  obtain ⟨m8, methM', cM, hn8, hmethM', -, -, -, -, -, -, hsigM⟩ := Cond.codeWith_spec hcode
  cases Option.some.inj (hn8.symm.trans hnamed)
  cases hmethM.symm.trans hmethM'
  obtain ⟨c2, r2, m2, q1, q2, q3, q4, kP, hkP, hkPi⟩ := Cond.selects_spec hsel
  cases hcls.symm.trans q1
  cases (State.methodFound?_of_named hnamed hy).symm.trans q2
  cases hnamed.symm.trans q3
  have hselP : selectMethod e.platform s.vm cellB.cls mk = .method mk := by rw [Launch.admits_selectMethod X.admits]; exact q4
  obtain ⟨vm₁, X₁, hstep₁⟩ := X.invokevirtual hexec hown hlink hnamed hmethM hstM hkP hkPi hy (a := b) (cell := cellB) hcell
    (fun z h => by rw [h] at hobj; cases hobj) hselP hmethM habM hkP hkPi (g := g) hg (argsL := argsL) (rest := rest) (hlen _ hsigM) hstack hdg
  obtain ⟨v, B, X', hpost, hsteps⟩ := hK m meth c ⟨T.setVm vm₁, locs, cells, slots⟩ { g with stack := rest } (.invokevirtual index) mk (Value.ref b :: argsL).toArray X₁ hg hsize hdg hW (X₁.named hnamed) (hpre vm₁ X₁.warmed)
  exact ⟨v, vm₁, B, X₁.warmed, X', hpost, fun target h => hstep₁ _ fun acts => by rw [doInvoke_state]; exact hsteps.trans h⟩
abbrev vx_CVW (R : Room) (s : State) (args : Array Value) (own C : String) (index : Nat) (y : MethodName) (bytes : ByteArray) (maxL : Nat) (ret : Option FieldType) (hh : List (Nat × Nat × Nat × Nat)) (ws : List Cond) (rm : Room) (mc ms n : Nat) : Prop :=
  (rm.cells = mc ∧ rm.slots = ms ∧ rm.frames + 1 ≤ R.frames ∧ 8 + (maxL + 11) + rm.locals ≤ R.locals ∧ (∀ w ∈ ws, ∀ (a' : Array Value) (U : State), s.WarmedH U.vm → w.before a' U = true) ∧ Cond.codeWith y bytes maxL ret hh ∈ ws) ∧
  (Cond.codeWith y bytes maxL ret hh).before args s = true ∧ (Cond.initialized y.cls).before args s = true ∧ (y.cls ≠ "java/lang/invoke/MethodHandle" ∧ y.cls ≠ "java/lang/invoke/VarHandle") ∧
  (∀ sig, parseMethodDescriptor y.desc = some sig → n = sig.parameters.length) ∧ (Cond.methodLink own index y).before args s = true ∧ (Cond.instanceMethod y).before args s = true ∧ (Cond.selects C y y).before args s = true
theorem vx_cwVW {own C : String} {index maxL mc ms : Nat} {y : MethodName} {bytes : ByteArray} {ret : Option FieldType} {hh : List (Nat × Nat × Nat × Nat)} {Ts ws ws' : List Cond} {rm : Room} (n : Nat) (ht : ∀ w ∈ Ts, w.before args s = true) (hT : GoodIn Ts (wsV own index C y ws)) (hw : ws = Cond.codeWith y bytes maxL ret hh :: ws') (hrc : rm.cells = mc) (hrs : rm.slots = ms)
    (hd : y.cls = C ∧ y.cls ≠ "java/lang/invoke/MethodHandle" ∧ y.cls ≠ "java/lang/invoke/VarHandle" ∧ (parseMethodDescriptor y.desc).map (fun d => d.parameters.length) = some n) (hR : rm.frames + 1 ≤ R.frames ∧ 8 + (maxL + 11) + rm.locals ≤ R.locals) :
    vx_CVW R s args own C index y bytes maxL ret hh ws rm mc ms n := by
  obtain ⟨hC, hd⟩ := hd
  subst hC
  have ok : ∀ w ∈ wsV own index y.cls y ws, w.before args s = true := fun w h => ht w (hT w h).1
  have hG : GoodIn Ts ws := fun w h => hT w (by unfold wsV; exact List.mem_append_right _ h)
  have hc : Cond.codeWith y bytes maxL ret hh ∈ ws := by rw [hw]; exact List.mem_cons_self
  refine ⟨⟨hrc, hrs, hR.1, hR.2, pay_in ht hG, hc⟩, ht _ (hG _ hc).1, ok _ (by simp [wsV]), ⟨hd.1, hd.2.1⟩, fun sig h => ?_, ok _ (by simp [wsV]), ok _ (by simp [wsV]), ok _ (by simp [wsV])⟩
  have h2 := hd.2.2
  rw [h] at h2
  exact (Option.some.inj h2).symm
theorem vx_runVW {y : MethodName} {bytes cc : ByteArray} {maxL nL mc ms n index : Nat} {ret : Option FieldType} {hh : List (Nat × Nat × Nat × Nat)} {ws : List Cond} {rm : Room} {Pc : Array Value → State → Prop} {Qc : Array Value → State → Outcome → State → Prop} {free : Addr → Prop} {Ts : List Cond} {own C : String} {b : Addr} {As rest : List Value} {g : JFrame}
    (S : CallFix p m c cc nL s args Ts own) (hM : Met l y ws rm Pc Qc mc ms free) (cw : vx_CVW R s args own C index y bytes maxL ret hh ws rm mc ms n) (hp : PreV s H C b Pc As)
    (hg : g.method = m) (hn : As.length = n) (hsize : g.locals.size = nL) (hstack : g.stack = As.reverse ++ .ref b :: rest) (hW : 2 * g.monitorRoom + (rest.map fun v => v.category).sum ≤ 8) (hdg : decode cc g.pc = .ok (.invokevirtual index, 3)) (hf : cells + mc ≤ R.cells ∧ slots + ms ≤ R.slots) :
    va_Run p l e R s m args below meth c H locs cells slots mc ms g rest (Qc (Value.ref b :: As).toArray) free := by
  obtain ⟨⟨hrc, hrs, hfr, hlo, hws, hcw⟩, hcode, hini, hy, hlen, hl, hin, hse⟩ := cw
  have hK : Back l R p e below s args y 3 8 (PreOf R mc ms Pc) (PostOf Qc mc ms free) := va_backW (hh := hh) (bytes := bytes) (maxL := maxL) (ret := ret) hM hp.1 hrc hrs hfr hlo hws hcw (fun a' U hW => word_at hW (Or.inl (by first | rfl | simp [Cond.onTables, Cond.keeps, Cond.steady])) hini)
  obtain ⟨hx, hb, hml, ho, -⟩ := S
  obtain ⟨-, ⟨cellB, hcB, hoB, hclB⟩, hPc⟩ := hp
  intro T hT X
  obtain ⟨v, vm₁, ⟨U', l2, c2, s2⟩, hW₁, X', ⟨g', mk, t, L, e1, e2, hq, h1, hL, h2, h3⟩, st⟩ := vx_callVW X hx (C := C) (hh := hh) (bytes := bytes) (maxL := maxL) (ret := ret) ho hl hin hse hcode hy hK (by rw [hT]; exact hcB) hoB hclB hg (hsize.trans hml.symm) (argsL := As) (rest := rest) (fun sig h => hn.trans (hlen sig h)) hstack hW (by rw [hb]; exact hdg)
    (fun vm₁ hW₁ => ⟨hf.1, hf.2, hPc (T.setVm vm₁) hT hW₁⟩)
  dsimp only [Pt.U, Pt.locs, Pt.cells, Pt.slots] at X' e1 e2 h1 h2 h3 st
  subst h1; subst h2; subst h3
  exact ⟨v, (T.setVm vm₁).calling g' mk (Value.ref b :: As).toArray, t, U', L, hT, X', hL, e1, e2, hq, st⟩
section
variable {y : MethodName} {bytes cc : ByteArray} {maxL nL mc ms n index : Nat} {ret : Option FieldType} {ws : List Cond} {rm : Room} {Pc : Array Value → State → Prop} {Qc : Array Value → State → Outcome → State → Prop} {XC : String → State → State → Prop} {free : Addr → Prop} {Ts : List Cond} {own C : String} {b : Addr} {As rest : List Value} {g : JFrame}
theorem vx_runVX {hh : List (Nat × Nat × Nat × Nat)} (S : CallFix p m c cc nL s args Ts own) (hM : vx_Met l y ws rm Pc Qc XC mc ms free) (cw : vx_CVW R s args own C index y bytes maxL ret hh ws rm mc ms n) (hp : PreV s H C b Pc As)
    (hg : g.method = m) (hn : As.length = n) (hsize : g.locals.size = nL) (hstack : g.stack = As.reverse ++ .ref b :: rest) (hW : 2 * g.monitorRoom + (rest.map fun v => v.category).sum ≤ 8) (hdg : decode cc g.pc = .ok (.invokevirtual index, 3)) (hf : cells + mc ≤ R.cells ∧ slots + ms ≤ R.slots) :
    vx_Run p l e R s m args below meth c H locs cells slots mc ms g rest (Qc (Value.ref b :: As).toArray) XC free := by
  obtain ⟨⟨hrc, hrs, hfr, hlo, hws, hcw⟩, hcode, hini, hy, hlen, hl, hin, hse⟩ := cw
  have hK : vx_Back l R p e below s args y 3 8 (PreOf R mc ms Pc) (PostOf Qc mc ms free) (vx_Post XC mc ms free) := vx_backW (hh := hh) (bytes := bytes) (maxL := maxL) (ret := ret) hM hp.1 hrc hrs hfr hlo hws hcw (fun a' U hW => word_at hW (Or.inl (by first | rfl | simp [Cond.onTables, Cond.keeps, Cond.steady])) hini)
  obtain ⟨hx, hb, hml, ho, -⟩ := S
  obtain ⟨-, ⟨cellB, hcB, hoB, hclB⟩, hPc⟩ := hp
  intro T hT X
  rcases vx_callVX X hx (C := C) (hh := hh) (bytes := bytes) (maxL := maxL) (ret := ret) ho hl hin hse hcode hy hK (by rw [hT]; exact hcB) hoB hclB hg (hsize.trans hml.symm) (argsL := As) (rest := rest) (fun sig h => hn.trans (hlen sig h)) hstack hW (by rw [hb]; exact hdg)
    (fun vm₁ hW₁ => ⟨hf.1, hf.2, hPc (T.setVm vm₁) hT hW₁⟩) with ⟨v, vm₁, ⟨U', l2, c2, s2⟩, hW₁, X', ⟨g', mk, t, L, e1, e2, hq, h1, hL, h2, h3⟩, st⟩ | ⟨q, vm₁, ⟨U', l2, c2, s2⟩, hW₁, X', ⟨g', mk, t, L, E, ce, e1, e2, hq, hce, hcv, hcl, h1, hL, h2, h3⟩, st⟩
  · dsimp only [Pt.U, Pt.locs, Pt.cells, Pt.slots] at X' e1 e2 h1 h2 h3 st
    subst h1; subst h2; subst h3
    exact Or.inl ⟨v, (T.setVm vm₁).calling g' mk (Value.ref b :: As).toArray, t, U', L, hT, X', hL, e1, e2, hq, st⟩
  · dsimp only [Pt.U, Pt.locs, Pt.cells, Pt.slots] at X' e1 e2 h1 h2 h3 st hcl
    subst h1; subst h2; subst h3
    exact Or.inr ⟨q, (T.setVm vm₁).calling g' mk (Value.ref b :: As).toArray, t, U', L, E, ce, hT, X', hL, e1, e2, hq, hce, hcv, vx_cls hW₁ hcl, st⟩
theorem vx_runSX {hh : List (Nat × Nat × Nat × Nat)} (S : CallFix p m c cc nL s args Ts own) (hM : vx_Met l y ws rm Pc Qc XC mc ms free) (cw : vx_CSW R s args own index y bytes maxL ret hh ws rm mc ms n) (hp : PreS s H Pc As)
    (hg : g.method = m) (hn : As.length = n) (hsize : g.locals.size = nL) (hstack : g.stack = As.reverse ++ rest) (hW : 2 * g.monitorRoom + (rest.map fun v => v.category).sum ≤ 8) (hdg : decode cc g.pc = .ok (.invokestatic index, 3)) (hf : cells + mc ≤ R.cells ∧ slots + ms ≤ R.slots) :
    vx_Run p l e R s m args below meth c H locs cells slots mc ms g rest (Qc As.toArray) XC free := by
  obtain ⟨⟨hrc, hrs, hfr, hlo, hws, hcw⟩, hcode, hini, hy, hlen, hl, hstt⟩ := cw
  have hK : vx_Back l R p e below s args y 3 8 (PreOf R mc ms Pc) (PostOf Qc mc ms free) (vx_Post XC mc ms free) := vx_backW (hh := hh) (bytes := bytes) (maxL := maxL) (ret := ret) hM hp.1 hrc hrs hfr hlo hws hcw (fun a' U hW => word_at hW (Or.inl (by first | rfl | simp [Cond.onTables, Cond.keeps, Cond.steady])) hini)
  obtain ⟨hx, hb, hml, ho, -⟩ := S
  intro T hT X
  rcases vx_callSX X hx (hh := hh) (bytes := bytes) (maxL := maxL) (ret := ret) ho hl hstt hini hcode hy hK hg (hsize.trans hml.symm) (argsL := As) (rest := rest) (fun sig h => hn.trans (hlen sig h)) hstack hW (by rw [hb]; exact hdg)
    (fun vm₁ hW₁ => ⟨hf.1, hf.2, hp.2 (T.setVm vm₁) hT hW₁⟩) with ⟨v, vm₁, ⟨U', l2, c2, s2⟩, hW₁, X', ⟨g', mk, t, L, e1, e2, hq, h1, hL, h2, h3⟩, st⟩ | ⟨q, vm₁, ⟨U', l2, c2, s2⟩, hW₁, X', ⟨g', mk, t, L, E, ce, e1, e2, hq, hce, hcv, hcl, h1, hL, h2, h3⟩, st⟩
  · dsimp only [Pt.U, Pt.locs, Pt.cells, Pt.slots] at X' e1 e2 h1 h2 h3 st
    subst h1; subst h2; subst h3
    exact Or.inl ⟨v, (T.setVm vm₁).calling g' mk As.toArray, t, U', L, hT, X', hL, e1, e2, hq, st⟩
  · dsimp only [Pt.U, Pt.locs, Pt.cells, Pt.slots] at X' e1 e2 h1 h2 h3 st hcl
    subst h1; subst h2; subst h3
    exact Or.inr ⟨q, (T.setVm vm₁).calling g' mk As.toArray, t, U', L, E, ce, hT, X', hL, e1, e2, hq, hce, hcv, vx_cls hW₁ hcl, st⟩
end
end VXH
theorem vx_ofWH {l : Launch} {y : MethodName} {ws ws' : List Cond} {rm : Room} {Pc : Array Value → State → Prop} {Qc : Array Value → State → Outcome → State → Prop} {XC : String → State → State → Prop} {mc ms : Nat} {free : Addr → Prop} {cc : ByteArray} {maxL : Nat} {ret : Option FieldType} {hh : List (Nat × Nat × Nat × Nat)}
    (hy : plainName y.cls = true) (hw : ws = Cond.codeWith y cc maxL ret hh :: ws')
    (body : ∀ p e s m args below meth c s₁, BodyLoose p l y (headSpec ws rm) cc maxL ret e s m args below meth c s₁ → c.maxLocals = maxL → Pc args s →
      W p l e (headSpec ws rm).room s m args below meth c s.heap [] 0 0 (vx_MQ below Qc XC args s mc ms free) (entryFrame m args maxL)) : vx_Met l y ws rm Pc Qc XC mc ms free := by
  refine MetFree.of_bodyS (code := cc) (maxLocals := maxL) (ret := ret) hy ?_ ?_
  · intro args s m h hn
    obtain ⟨m9, meth, c, hn9, h1, h2, h3, h4, -, h5, h6, -⟩ := Cond.codeWith_spec (atoms_spec (ws := ws) h _ (by rw [hw]; exact List.mem_cons_self))
    cases hn.symm.trans hn9
    exact ⟨meth, c, h1, h2, h3, h4, h5, h6⟩
  · intro p e s m args below meth c s₁ B hml hP _
    have hh0 : s₁.heap = s.heap := by rw [B.state]; rfl
    obtain ⟨t, a1, o, b1, b2, b3⟩ := body p e s m args below meth c s₁ B hml hP s₁ hh0 (Stand.of_body B)
    exact ⟨t, o, a1, b1, b2, b3⟩
/-! ===== END ===== -/

/-! ===== BEGIN what the machine throws by itself, no traces kept ===== -/
section VXM
set_option maxHeartbeats 1000000 in
/-- the machine throws cls with the message text, no traces kept: from its note over the frame g to 'throwing' over the same frame (follows the proofs of Stand.vmThrowsMessage, Shelf/KitTracedVmS.lean, and Stand.throwsMessageColdBareV, StandMessageColdV.lean, without the step out of the frame) -/
theorem vx_vmAt {p : Program} {l : Launch} {e : Env} {R : Room} {s : State} {m₀ : MethodId} {args : Array Value} {below : List Frame} {meth : Method} {c : Code} {W : State} {locs : List Loc} {cells slots : Nat}
    (X : Stand p l e R s m₀ args below meth c W locs cells slots) (hexec : p.tables.exec = Jvm.exec) (htr : e.platform.stackTraces = false) {cls : String} {names : List String} {text : String}
    (hcls : Bundle.fit cls = true) (hnames : ∀ n ∈ names, Bundle.fit n = true) (hsoe : (cls == "java/lang/StackOverflowError") = false) (hoom : (cls == "java/lang/OutOfMemoryError") = false)
    (h : ∀ a ∈ Bundle.messageArmAtoms cls names, a.before args s = true)
    (hlocs : ∀ x ∈ locs, ∀ cell, s.heap[x.base]? = some cell → cell.vm.isStatics = false)
    (htext : (text == notModelled) = false) (hlimit : ¬ (stringBytes (stringToUtf16 text)).size > e.platform.arrayLengthLimit) (hheap : ¬ (stringBytes (stringToUtf16 text)).size * componentBytes .byte > e.platform.maxHeapBytes)
    {g : JFrame} (hg : g.method = m₀) (hsize : g.locals.size = c.maxLocals)
    (hRframes : names.length + 4 < R.frames) (hRlocals : 2 * g.monitorRoom + (g.stack.map fun v => v.category).sum + 10240 ≤ R.locals) (hshort : 13 * names.length + 55 ≤ 10240)
    (hRcells : cells + 3 ≤ R.cells) (hRslots : slots + ((stringBytes (stringToUtf16 text)).size + 4 + 6) ≤ R.slots) (hlocks : meth.locks = false) :
    ∃ (S : State) (q : Addr) (ce : Cell), (∀ target, Steps p.tables e below ((S.setTop g).pushFrame (.throwing q)) target → Steps p.tables e below ((W.setTop g).pushFrame (.throwNew cls (some text) none)) target) ∧
      Stand p l e R s m₀ args below meth c S locs (cells + 3) (slots + ((stringBytes (stringToUtf16 text)).size + 4 + 6)) ∧ S.heap[q]? = some ce ∧ s.vm.findClass cls = some ce.cls ∧ ce.vm = .none := by
  have howns : e.platform.frameOwnsMonitors = true := by rw [X.admits.platform]
  have hfin : e.platform.finalization = false := by rw [X.admits.platform]
  have hpl : e.platform.magicAccessors = ({} : Platform).magicAccessors := by rw [X.admits.platform]
  have a : ∀ x, x ∈ Bundle.messageArmAtoms cls names → x.holds args s none s [] = true := fun x hx => h x hx
  obtain ⟨T, Z0, L, -, Y⟩ := ThrowableC.of_atoms (args := args) howns hfin hpl (fun x hx => h x (by simp [Bundle.messageArmAtoms, hx]))
  obtain ⟨Z, M, LZ, LM, hnZ⟩ := Init0T.ofS_atoms (args := args) hpl L Y (fun x hx => h x (by simp [Bundle.messageArmAtoms, hx]))
  obtain ⟨P1, Ps, hlen, L1, hL, hP1m, hlink1, hlink⟩ := Bundle.chainS (args := args) hpl hnZ names cls hcls hnames (fun x hx => h x (by simp [Bundle.messageArmAtoms, hx]))
  obtain ⟨Zs, LZs, hn4, hfitv, hfitc⟩ := StringT.of_atoms (args := args) (fun x hx => h x (by simp [Bundle.messageArmAtoms, hx]))
  have hfound : s.vm.findClass cls = some P1.m.cls := findClass_of_methodNamed hP1m
  obtain ⟨c1, kX, hc1, hk, hord, -, -, hn6⟩ := Cond.instantiable_spec (a (.instantiable cls 6) (by simp [Bundle.messageArmAtoms]))
  cases Option.some.inj (hc1.symm.trans hfound)
  have hinit := Cond.initialized_spec hfound hk (a (.initialized cls) (by simp [Bundle.messageArmAtoms]))
  have hctor : kX.findMethod "<init>" "(Ljava/lang/String;)V" = some P1.m.idx := findMethod_of_methodNamed hP1m hk
  have hsel0 : selectMethod e.platform s.vm P1.m.cls T.fill0 = .method T.fill0 := by
    obtain ⟨c2, r2, m2, q1, q2, q3, q4, -⟩ := Cond.selects_spec (a (.selects cls Bundle.tFill0 Bundle.tFill0) (by simp [Bundle.messageArmAtoms]))
    cases Option.some.inj (q1.symm.trans hfound)
    cases Option.some.inj (q2.symm.trans (State.methodFound?_of_named Y.fill0 (by decide)))
    cases Option.some.inj (q3.symm.trans Y.fill0)
    rw [Launch.admits_selectMethod X.admits]; exact q4
  have hselF : selectMethod e.platform s.vm P1.m.cls T.fill = .method T.fill := by
    obtain ⟨c2, r2, m2, q1, q2, q3, q4, -⟩ := Cond.selects_spec (a (.selects cls Bundle.tFill Bundle.tFill) (by simp [Bundle.messageArmAtoms]))
    cases Option.some.inj (q1.symm.trans hfound)
    cases Option.some.inj (q2.symm.trans (State.methodFound?_of_named Y.fill (by decide)))
    cases Option.some.inj (q3.symm.trans Y.fill)
    rw [Launch.admits_selectMethod X.admits]; exact q4
  obtain ⟨cellS0, hcS0, hiss⟩ := Y.statics
  obtain ⟨u0, hu0⟩ := Cond.staticRefV Y.unassigned L.unassignedStatic L.statics hcS0 hiss (a (.isRef (.static Bundle.tN "UNASSIGNED_STACK" Bundle.steD)) (by simp [Bundle.messageArmAtoms]))
  obtain ⟨sen, hsen⟩ := Cond.staticRefV Y.sentinel L.sentinelStatic L.statics hcS0 hiss (a (.isRef (.static Bundle.tN "SUPPRESSED_SENTINEL" Bundle.listD)) (by simp [Bundle.messageArmAtoms]))
  obtain ⟨ci198, i198, fB, hk198, hg198, ha198, hsB, -, hnB, htB, hffB⟩ := Cond.ownField (t := .object "java/lang/Object") Y.found L.cls (by decide +kernel) (a (.fieldLink Bundle.tN 198 Bundle.tN "backtrace" "Ljava/lang/Object;") (by simp [Bundle.messageArmAtoms])) (a (.lays Bundle.tN Bundle.tN "backtrace" "Ljava/lang/Object;") (by simp [Bundle.messageArmAtoms])) e.platform hpl
  obtain ⟨cellS, hcS', heS, -, hkeep⟩ := X.same.2.2.2.2.2 T.aS cellS0 hcS0
  have hcellS : W.heap[T.aS]? = some cellS := hcS'
  have hout' : ∀ i, (⟨T.aS, i⟩ : Loc) ∉ locs := fun i hmem => by
    have := hlocs _ hmem cellS0 hcS0
    rw [hiss] at this; cases this
  have hknownS : cellS.vm ≠ .unknown := by
    rw [heS]; intro hu
    rw [show cellS0.vm = .unknown from hu] at hiss
    cases hiss
  have hvU : cellS.slots[T.fUnassigned.slot]? = some u0.v := by rw [hkeep _ (hout' _)]; exact hu0
  have hvSen : cellS.slots[T.fSentinel.slot]? = some sen.v := by rw [hkeep _ (hout' _)]; exact hsen
  obtain ⟨iM, hffM⟩ := Y.msg
  obtain ⟨tyC, dC, hdC, hdnC⟩ := Cond.laysAt hfound hk Y.cause (a (.lays cls Bundle.tN "cause" "Ljava/lang/Throwable;") (by simp [Bundle.messageArmAtoms]))
  obtain ⟨tyS, dS, hdS, hdnS⟩ := Cond.laysAt hfound hk Y.stack (a (.lays cls Bundle.tN "stackTrace" Bundle.steD) (by simp [Bundle.messageArmAtoms]))
  obtain ⟨tyP, dP, hdP, hdnP⟩ := Cond.laysAt hfound hk Y.supp (a (.lays cls Bundle.tN "suppressedExceptions" Bundle.listD) (by simp [Bundle.messageArmAtoms]))
  obtain ⟨tyM, dM, hdM, hdnM⟩ := Cond.laysAt hfound hk hffM (a (.lays cls Bundle.tN "detailMessage" "Ljava/lang/String;") (by simp [Bundle.messageArmAtoms]))
  obtain ⟨tyB, dB, hdB, hdnB⟩ := Cond.laysAt hfound hk hffB (a (.lays cls Bundle.tN "backtrace" "Ljava/lang/Object;") (by simp [Bundle.messageArmAtoms]))
  have bC := Cond.laysApart hdB hdC hdnB hdnC (by rw [hnB, Y.causeName]; decide)
  have bS := Cond.laysApart hdB hdS hdnB hdnS (by rw [hnB, Y.stackName]; decide)
  have bP := Cond.laysApart hdB hdP hdnB hdnP (by rw [hnB, Y.suppName]; decide)
  have hbk : ((preparedCellV T.toThrowableT (freshCell P1.m.cls kX) (W.heap.size + 2) u0 sen).withEntry W.cur).slots[fB.slot]? = some .null := by
    have := fresh_default (c := P1.m.cls) tyB
    rw [htB] at this
    simpa [preparedCellV, Cell.setSlot, Cell.withEntry, Array.getElem?_setIfInBounds, bC, bS, bP, bC.symm, bS.symm, bP.symm, defaultValue] using this
  have tkC := Takes.of_laid (v := .ref (W.heap.size + 2)) hk hord tyC (by rw [Y.causeType]; rfl)
  have tkS := Takes.of_laid (v := u0.v) hk hord tyS (by rw [Y.stackType]; exact fits_refV_array _ u0)
  have tkP := Takes.of_laid (v := sen.v) hk hord tyP (by rw [Y.suppType]; exact fits_refV_object _ sen)
  have tkM := Takes.of_laid (v := .ref (W.heap.size + 1)) hk hord tyM (by rw [Y.msgType]; rfl)
  have hskip : SkipFacts T e.platform s (fun u => u) u0 ((preparedCellV T.toThrowableT (freshCell P1.m.cls kX) (W.heap.size + 2) u0 sen).withEntry W.cur) := ⟨{ ci198 := ci198, i198 := i198, fBack := fB }, ⟨hk198, hg198, ha198, hsB⟩, hbk, fun _ _ => rfl⟩
  have h0 : At W g.method c below := by rw [hg]; exact X.here
  obtain ⟨hbeyond, hfreeW⟩ := X.vmMayThrow hsize (.throwNew cls (some text) none) (fun f hf => by cases hf) rfl hRlocals
  have hfr' : W.frames.length + Ps.length + 4 < (e.platform.stackLimits W.me).1 := by have := X.framesAbove hRframes; omega
  have hwd' : (stackUse (.java g :: W.frames.tail)).2 + 13 * Ps.length + 55 ≤ (e.platform.stackLimits W.me).2 := by have := X.stackAbove hsize (K := 13 * Ps.length + 55) (by omega); omega
  have hslots : W.slotsUsed + (stringBytes (stringToUtf16 text)).size + Zs.kS.instanceTypes.size + kX.instanceTypes.size ≤ e.platform.maxSlots := by
    have := X.slotsAbove hRslots
    rw [hn4, hn6]
    omega
  obtain ⟨vm', hW', st⟩ := Steps.vmThrowsMessageColdByV p (s₀ := s) (S := W) (g := g) h0 hexec T L Z LZ M LM X.warmed (t := W.cur) rfl Zs LZs P1 L1 Ps hL hlink1 hlink hsoe hoom hfound hk hinit hord hctor
    (Launch.admits_hotImplicitExceptions X.admits) hbeyond hfreeW htext hlimit hheap (X.cellsAbove hRcells) hslots (hfitv _) (hfitc _)
    (Nn := fun u => u) heapOnly_id (fun _ _ => rfl) (fun _ => rfl) (fun u x y => setCell_twice _ _ _ _) (fun _ => Nat.le_refl _) (cN := ((preparedCellV T.toThrowableT (freshCell P1.m.cls kX) (W.heap.size + 2) u0 sen).withEntry W.cur))
    hsel0 hcellS hknownS hvU tkS (fun _ hu => hu) (fun _ hu => hu) rfl rfl rfl (by simp [preparedCellV, Cell.setSlot, Cell.withEntry]) hskip (fun _ _ hA hW _ hroom _ hrest => L.nativeOff p htr hA hW hroom hrest) hselF hvSen tkC tkP tkM Y.objLocals rfl hfr' hwd'
  rw [plainBareV_eq T.toThrowableT (W.heap.size + 2) u0 sen (.ref (W.heap.size + 1)) W.cur rfl rfl] at st
  obtain ⟨-, -, w3, w4, -, -, -⟩ := withThrown_facts e.platform W Zs text P1.m.cls kX
  have X3 := ((X.pushed (bytesOf Zs.cB (stringToUtf16 text))).pushed (stringAt Zs.cS Zs.kS Zs.fv Zs.fc (stringToUtf16 text) W.heap.size)).pushed (freshCell P1.m.cls kX)
  rw [← withString_eq] at X3
  have X4 := X3.noted hW'
  have ha : (W.heap.size + 2) < ((withThrown W Zs text P1.m.cls kX).setVm vm').heap.size := by show _ < (withThrown W Zs text P1.m.cls kX).heap.size; rw [w3]; omega
  have hcell : ((withThrown W Zs text P1.m.cls kX).setVm vm').heap[(W.heap.size + 2)]? = some (freshCell P1.m.cls kX) := w4
  have X5 := ((((X4.stored hcell T.fCause.slot (.ref (W.heap.size + 2))).storedAgain ha T.fStack.slot u0.v).storedAgain ha T.fSupp.slot sen.v).storedAgain ha T.fStack.slot u0.v).storedAgain ha T.fMsg.slot (.ref (W.heap.size + 1))
  obtain ⟨g₁, hfrM⟩ := X5.frames_eq
  have hU : ((((withThrown W Zs text P1.m.cls kX).setVm vm').setCell (W.heap.size + 2) (plainBareV T.toThrowableT (freshCell P1.m.cls kX) (W.heap.size + 2) u0 sen (.ref (W.heap.size + 1)))).setTop g).pushFrame (.throwing (W.heap.size + 2)) = (((withThrown W Zs text P1.m.cls kX).setVm vm').setCell (W.heap.size + 2) (plainBareV T.toThrowableT (freshCell P1.m.cls kX) (W.heap.size + 2) u0 sen (.ref (W.heap.size + 1)))).setFrames (.throwing (W.heap.size + 2) :: .java g :: below) := by
    rw [State.pushFrame, State.frames_setTop _ hfrM, State.setTop_of_frames _ hfrM, State.setFrames_setFrames]
  have b1 : (bytesOf Zs.cB (stringToUtf16 text)).slots.size = (stringBytes (stringToUtf16 text)).size := by
    rw [(Cell.writeAll_facts _ _).2.2]; simp [bytes0]
  have b2 : (stringAt Zs.cS Zs.kS Zs.fv Zs.fc (stringToUtf16 text) W.heap.size).slots.size = 4 := by simp [string0, Cell.setSlot, hn4]
  have b3 : (freshCell P1.m.cls kX).slots.size = 6 := by simp [hn6]
  rw [b1, b2, b3] at X5
  have e9 : slots + (stringBytes (stringToUtf16 text)).size + 4 + 6 = slots + ((stringBytes (stringToUtf16 text)).size + 4 + 6) := by omega
  rw [e9] at X5
  simp only [List.append_assoc, List.cons_append, List.nil_append] at X5
  refine ⟨((withThrown W Zs text P1.m.cls kX).setVm vm').setCell (W.heap.size + 2) (plainBareV T.toThrowableT (freshCell P1.m.cls kX) (W.heap.size + 2) u0 sen (.ref (W.heap.size + 1))), W.heap.size + 2, _, fun target ht => st _ (by rw [X.tail, ← hU]; exact ht),
    X5.forget (fun y hy => ?_), heapAt_setCell_self _ ha, hfound, rfl⟩
  simp only [List.mem_cons, List.not_mem_nil, or_false] at hy
  have hge : s.heap.size ≤ W.heap.size := X.same.2.1
  rcases hy with rfl | rfl | rfl | rfl | rfl <;> exact Nat.le_trans hge (Nat.le_add_right _ 2)
set_option maxHeartbeats 1000000 in
/-- the machine throws NullPointerException, no traces kept: from its note over the frame g to 'throwing' over the same frame (follows the proof of Stand.vmThrowsNpe, Shelf42/KT2.lean; throwsNpeColdBareVAt, Shelf42/NT91.lean, called) -/
theorem vx_npeAt {p : Program} {l : Launch} {e : Env} {R : Room} {s : State} {m₀ : MethodId} {args : Array Value} {below : List Frame} {meth : Method} {c : Code} {W : State} {locs : List Loc} {cells slots : Nat}
    (X : Stand p l e R s m₀ args below meth c W locs cells slots) (hexec : p.tables.exec = Jvm.exec) (htr : e.platform.stackTraces = false) {n : Nat}
    (h : ∀ a ∈ Bundle.npeArmAtoms n, a.before args s = true)
    (hlocs : ∀ x ∈ locs, ∀ cell, s.heap[x.base]? = some cell → cell.vm.isStatics = false)
    {g : JFrame} (hg : g.method = m₀) (hsize : g.locals.size = c.maxLocals)
    (hRframes : 7 < R.frames) (hRlocals : 2 * g.monitorRoom + (g.stack.map fun v => v.category).sum + 10240 ≤ R.locals)
    (hRcells : cells + 1 ≤ R.cells) (hRslots : slots + n ≤ R.slots) (hlocks : meth.locks = false) :
    ∃ (S : State) (q : Addr) (ce : Cell), (∀ target, Steps p.tables e below ((S.setTop g).pushFrame (.throwing q)) target → Steps p.tables e below ((W.setTop g).pushFrame (.throwNew "java/lang/NullPointerException" none none)) target) ∧
      Stand p l e R s m₀ args below meth c S locs (cells + 1) (slots + n) ∧ S.heap[q]? = some ce ∧ s.vm.findClass "java/lang/NullPointerException" = some ce.cls ∧ ce.vm = .none := by
  have howns : e.platform.frameOwnsMonitors = true := by rw [X.admits.platform]
  have hfin : e.platform.finalization = false := by rw [X.admits.platform]
  have hpl : e.platform.magicAccessors = ({} : Platform).magicAccessors := by rw [X.admits.platform]
  have hpl2 : e.platform.arrayCloneIsPublic = true := by rw [X.admits.platform]
  have a' : ∀ x, x ∈ Bundle.npeArmAtoms n → x.holds args s none s [] = true := fun x hx => h x hx
  obtain ⟨T, Z, L, LZ, Y⟩ := ThrowableC.of_atoms (args := args) howns hfin hpl (fun x hx => h x (by simp [Bundle.npeArmAtoms, hx]))
  obtain ⟨N, LN, hcN, hnNF, hordN, hffS⟩ := NpeC.of_atoms (args := args) hpl hpl2 L Y (fun x hx => h x (by simp [Bundle.npeArmAtoms, hx]))
  obtain ⟨P1, L1, hP1m, hP1s⟩ := PassC.of_atoms (args := args) (s := s) hpl (X := Bundle.nN) (Y := Bundle.rN) (by decide) (by decide) LibCode.NullPointerException.Init0.at_0 LibCode.NullPointerException.Init0.at_1 LibCode.NullPointerException.Init0.at_4 (fun x hx => h x (by simp [Bundle.npeArmAtoms, hx]))
  obtain ⟨PR, LR, hPRm, hPRs⟩ := PassC.of_atoms (args := args) (s := s) hpl (X := Bundle.rN) (Y := Bundle.eN) (by decide) (by decide) LibCode.RuntimeException.Init0.at_0 LibCode.RuntimeException.Init0.at_1 LibCode.RuntimeException.Init0.at_4 (fun x hx => h x (by simp [Bundle.npeArmAtoms, hx]))
  obtain ⟨PE, LEx, hPEm, hPEs⟩ := PassC.of_atoms (args := args) (s := s) hpl (X := Bundle.eN) (Y := Bundle.tN) (by decide) (by decide) LibCode.Exception.Init0.at_0 LibCode.Exception.Init0.at_1 LibCode.Exception.Init0.at_4 (fun x hx => h x (by simp [Bundle.npeArmAtoms, hx]))
  have hfound : s.vm.findClass Bundle.nN = some P1.m.cls := findClass_of_methodNamed hP1m
  have ecls : N.cN = P1.m.cls := Option.some.inj (hcN.symm.trans hfound)
  have hk : s.vm.classes[P1.m.cls]? = some N.kN := by rw [← ecls]; exact LN.cls
  have hinit := Cond.initialized_spec hfound hk (a' (.initialized Bundle.nN) (by simp [Bundle.npeArmAtoms]))
  have hctor : N.kN.findMethod "<init>" "()V" = some P1.m.idx := findMethod_of_methodNamed hP1m hk
  obtain ⟨c1, k1, hc1, hk1, -, -, -, hn⟩ := Cond.instantiable_spec (a' (.instantiable Bundle.nN n) (by simp [Bundle.npeArmAtoms]))
  cases Option.some.inj (hc1.symm.trans hfound)
  cases Option.some.inj (hk1.symm.trans hk)
  have hfsz : (freshCell P1.m.cls N.kN).slots.size = n := by simp [hn]
  have hlink1 : P1.sup = PR.m := Option.some.inj (hP1s.symm.trans hPRm)
  have hlinkR : PR.sup = PE.m := Option.some.inj (hPRs.symm.trans hPEm)
  have hlinkE : PE.sup = Z.m T.toThrowableT := Option.some.inj (hPEs.symm.trans Y.init0)
  have hLs : ∀ P, P ∈ [PR, PE] → P.Links0 e.platform s := fun P hP => by
    simp only [List.mem_cons, List.not_mem_nil, or_false] at hP
    rcases hP with rfl | rfl
    · exact LR
    · exact LEx
  have hsel0 : selectMethod e.platform s.vm P1.m.cls T.fill0 = .method T.fill0 := by
    obtain ⟨c2, r2, m2, q1, q2, q3, q4, -⟩ := Cond.selects_spec (a' (.selects Bundle.nN Bundle.tFill0 Bundle.tFill0) (by simp [Bundle.npeArmAtoms]))
    cases Option.some.inj (q1.symm.trans hfound)
    cases Option.some.inj (q2.symm.trans (State.methodFound?_of_named Y.fill0 (by decide)))
    cases Option.some.inj (q3.symm.trans Y.fill0)
    rw [Launch.admits_selectMethod X.admits]; exact q4
  have hselF : selectMethod e.platform s.vm P1.m.cls T.fill = .method N.fill := by
    obtain ⟨c2, r2, m2, q1, q2, q3, q4, -⟩ := Cond.selects_spec (a' (.selects Bundle.nN Bundle.tFill Bundle.nFill) (by simp [Bundle.npeArmAtoms]))
    cases Option.some.inj (q1.symm.trans hfound)
    cases Option.some.inj (q2.symm.trans (State.methodFound?_of_named Y.fill (by decide)))
    cases Option.some.inj (q3.symm.trans hnNF)
    rw [Launch.admits_selectMethod X.admits]; exact q4
  obtain ⟨cellS0, hcS0, hiss⟩ := Y.statics
  obtain ⟨u0, hu0⟩ := Cond.staticRefV Y.unassigned L.unassignedStatic L.statics hcS0 hiss (a' (.isRef (.static Bundle.tN "UNASSIGNED_STACK" Bundle.steD)) (by simp [Bundle.npeArmAtoms]))
  obtain ⟨sen, hsen⟩ := Cond.staticRefV Y.sentinel L.sentinelStatic L.statics hcS0 hiss (a' (.isRef (.static Bundle.tN "SUPPRESSED_SENTINEL" Bundle.listD)) (by simp [Bundle.npeArmAtoms]))
  obtain ⟨ci198, i198, fB, hk198, hg198, ha198, hsB, -, hnB, htB, hffB⟩ := Cond.ownField (t := .object "java/lang/Object") Y.found L.cls (by decide +kernel) (a' (.fieldLink Bundle.tN 198 Bundle.tN "backtrace" Bundle.objD) (by simp [Bundle.npeArmAtoms])) (a' (.lays Bundle.tN Bundle.tN "backtrace" Bundle.objD) (by simp [Bundle.npeArmAtoms])) e.platform hpl
  obtain ⟨cellS, hcS', heS, -, hkeep⟩ := X.same.2.2.2.2.2 T.aS cellS0 hcS0
  have hcellS : W.heap[T.aS]? = some cellS := hcS'
  have hout' : ∀ i, (⟨T.aS, i⟩ : Loc) ∉ locs := fun i hmem => by
    have := hlocs _ hmem cellS0 hcS0
    rw [hiss] at this; cases this
  have hknownS : cellS.vm ≠ .unknown := by
    rw [heS]; intro hu
    rw [show cellS0.vm = .unknown from hu] at hiss
    cases hiss
  have hvU : cellS.slots[T.fUnassigned.slot]? = some u0.v := by rw [hkeep _ (hout' _)]; exact hu0
  have hvSen : cellS.slots[T.fSentinel.slot]? = some sen.v := by rw [hkeep _ (hout' _)]; exact hsen
  obtain ⟨tyC, dC, hdC, hdnC⟩ := Cond.laysAt hfound hk Y.cause (a' (.lays Bundle.nN Bundle.tN "cause" "Ljava/lang/Throwable;") (by simp [Bundle.npeArmAtoms]))
  obtain ⟨tyS, dS, hdS, hdnS⟩ := Cond.laysAt hfound hk Y.stack (a' (.lays Bundle.nN Bundle.tN "stackTrace" Bundle.steD) (by simp [Bundle.npeArmAtoms]))
  obtain ⟨tyP, dP, hdP, hdnP⟩ := Cond.laysAt hfound hk Y.supp (a' (.lays Bundle.nN Bundle.tN "suppressedExceptions" Bundle.listD) (by simp [Bundle.npeArmAtoms]))
  obtain ⟨tyX, dX, hdX, hdnX⟩ := Cond.laysAt hfound hk hffS (a' (.lays Bundle.nN Bundle.nN "extendedMessageState" "I") (by simp [Bundle.npeArmAtoms, Bundle.npeAtoms]))
  obtain ⟨hnX, htX⟩ := State.fieldFound?_type hffS (t := .int) (by decide +kernel)
  have xC := Cond.laysApart hdC hdX hdnC hdnX (by rw [hnX, Y.causeName]; decide)
  have xS := Cond.laysApart hdS hdX hdnS hdnX (by rw [hnX, Y.stackName]; decide)
  have xP := Cond.laysApart hdP hdX hdnP hdnX (by rw [hnX, Y.suppName]; decide)
  have hv0 : (freshCell P1.m.cls N.kN).slots[N.fState.slot]? = some (.int 0) := by
    have := fresh_default (c := P1.m.cls) tyX
    rw [htX] at this; exact this
  obtain ⟨tyB, dB, hdB, hdnB⟩ := Cond.laysAt hfound hk hffB (a' (.lays Bundle.nN Bundle.tN "backtrace" Bundle.objD) (by simp [Bundle.npeArmAtoms]))
  have bC := Cond.laysApart hdB hdC hdnB hdnC (by rw [hnB, Y.causeName]; decide)
  have bS := Cond.laysApart hdB hdS hdnB hdnS (by rw [hnB, Y.stackName]; decide)
  have bP := Cond.laysApart hdB hdP hdnB hdnP (by rw [hnB, Y.suppName]; decide)
  have bX := Cond.laysApart hdB hdX hdnB hdnX (by rw [hnB, hnX]; decide)
  have hbk : ((npeCell N.toNpeT (preparedCellV T.toThrowableT (freshCell P1.m.cls N.kN) W.heap.size u0 sen) W.cur).withEntry W.cur).slots[fB.slot]? = some .null := by
    have := fresh_default (c := P1.m.cls) tyB
    rw [htB] at this
    simpa [npeCell, preparedCellV, Cell.setSlot, Cell.withEntry, Array.getElem?_setIfInBounds, bC, bS, bP, bX, bC.symm, bS.symm, bP.symm, bX.symm, defaultValue] using this
  have tkC := Takes.of_laid (v := .ref W.heap.size) hk hordN tyC (by rw [Y.causeType]; rfl)
  have tkS := Takes.of_laid (v := u0.v) hk hordN tyS (by rw [Y.stackType]; exact fits_refV_array _ u0)
  have tkP := Takes.of_laid (v := sen.v) hk hordN tyP (by rw [Y.suppType]; exact fits_refV_object _ sen)
  have tkX := Takes.of_laid (v := .int 1) hk hordN tyX (by rw [htX]; rfl)
  have hskip : SkipFacts T e.platform s (fun u => u) u0 ((npeCell N.toNpeT (preparedCellV T.toThrowableT (freshCell P1.m.cls N.kN) W.heap.size u0 sen) W.cur).withEntry W.cur) := ⟨{ ci198 := ci198, i198 := i198, fBack := fB }, ⟨hk198, hg198, ha198, hsB⟩, hbk, fun _ _ => rfl⟩
  obtain ⟨vm', X3, st, -⟩ := X.throwsNpeColdBareVAt hexec hg hsize T L Z LZ N LN P1 L1 [PR, PE] hLs hlink1 ⟨hlinkR, hlinkE, trivial⟩ hfound hk hinit hordN hctor hsel0 hselF hcellS hknownS hvU hvSen
    hv0 xC xS xP tkC tkS tkP tkX Y.objLocals hskip (fun _ _ hA hW _ hroom _ hrest => L.nativeOff p htr hA hW hroom hrest) (by simpa using hRframes) hRlocals (by simp) hRcells (by rw [hn]; exact hRslots)
  have hlt : W.heap.size < ((W.pushCell (freshCell P1.m.cls N.kN)).setVm vm').heap.size := by
    show W.heap.size < (W.pushCell (freshCell P1.m.cls N.kN)).heap.size
    rw [State.heap_size_pushCell]; omega
  rw [hfsz] at X3
  obtain ⟨g₁, hfrM⟩ := X3.frames_eq
  have hU : ((((W.pushCell (freshCell P1.m.cls N.kN)).setVm vm').setCell W.heap.size (npeBareV T.toThrowableT N.toNpeT (freshCell P1.m.cls N.kN) W.heap.size u0 sen)).setTop g).pushFrame (.throwing W.heap.size) = (((W.pushCell (freshCell P1.m.cls N.kN)).setVm vm').setCell W.heap.size (npeBareV T.toThrowableT N.toNpeT (freshCell P1.m.cls N.kN) W.heap.size u0 sen)).setFrames (.throwing W.heap.size :: .java g :: below) := by
    rw [State.pushFrame, State.frames_setTop _ hfrM, State.setTop_of_frames _ hfrM, State.setFrames_setFrames]
  refine ⟨_, W.heap.size, _, fun target ht => st.trans (by rw [← hU]; exact ht), X3.forget (fun y hy => ?_), heapAt_setCell_self _ hlt, hfound, rfl⟩
  simp only [List.mem_cons, List.not_mem_nil, or_false] at hy
  have hge : s.heap.size ≤ W.heap.size := X.same.2.1
  rcases hy with rfl | rfl | rfl | rfl | rfl <;> exact hge
/-- the words of a machine's NullPointerException, but the four that speak of the heap -/
def vx_atN (n : Nat) : List Cond := (Bundle.npeArmAtoms n).filter vx_no
/-- the words of a machine's throw with a message, but the four that speak of the heap -/
def vx_atM (X : String) (names : List String) : List Cond := (Bundle.messageArmAtoms X names).filter vx_no
section
variable {p : Program} {l : Launch} {e : Env} {R : Room} {s : State} {m : MethodId} {args : Array Value} {below : List Frame} {meth : Method} {c : Code} {H : Heap} {locs : List Loc} {cells slots : Nat}
/-- a frame seen from a rebased start, seen from the first start again -/
theorem vx_back9 {T S : State} {R' : Room} {k n : Nat} (X : Stand p l e R s m args below meth c T locs cells slots) (Y : Stand p l e R' ((T.setVm s.vm).setFrames (.invoking m args :: below)) m args below meth c T [] 0 0) (Z : Stand p l e R' ((T.setVm s.vm).setFrames (.invoking m args :: below)) m args below meth c S [] k n) :
    Stand p l e R s m args below meth c S locs (cells + k) (slots + n) := by
  have hW0 : s.WarmedH ((T.setVm s.vm).setFrames (.invoking m args :: below)).vm := State.WarmedH.refl s
  refine { admits := X.admits, cas := X.cas, clock := X.clock, frames := X.frames, room := X.room, hears := X.hears, method := X.method, code := X.code, here := Z.here, tail := Z.tail, warmed := State.WarmedH.trans hW0 Z.warmed, limits := Z.limits.trans (Y.limits.symm.trans X.limits), bytes := Z.bytes.trans (Y.bytes.symm.trans X.bytes), same := ?_ }
  obtain ⟨e1, e2⟩ := Z.same
  rw [State.setFrames_setFrames] at e1
  have h2 : (T.setVm s.vm).sameButNew (S.setVm s.vm) [] k n := ⟨e1, e2⟩
  have h3 := X.same.trans h2
  rw [List.append_nil] at h3
  exact h3
/-- from the machine's note that E is thrown here with this text -/
def vx_Note (p : Program) (l : Launch) (e : Env) (R : Room) (s : State) (m : MethodId) (args : Array Value) (below : List Frame) (meth : Method) (c : Code) (H : Heap) (locs : List Loc) (cells slots : Nat) (Q : State → Prop) (g : JFrame) (E text : String) : Prop :=
  ∀ T : State, T.heap = H → Stand p l e R s m args below meth c T locs cells slots → ∃ t, Steps p.tables e below ((T.setTop g).pushFrame (.throwNew E (some text) none)) t ∧ Q t
theorem vx_vm {pc : Nat} {ls : Array Slot} {rest : List Value} {Q : State → Prop} (hexec : p.tables.exec = Jvm.exec) (hl : l.stackTraces = false) {cls text : String} {names : List String} {nb : Nat} {A : Nat → Prop}
    (hcls : Bundle.fit cls = true) (hnames : ∀ n ∈ names, Bundle.fit n = true) (hsoe : (cls == "java/lang/StackOverflowError") = false) (hoom : (cls == "java/lang/OutOfMemoryError") = false)
    (hat : ∀ w ∈ vx_atM cls names, w.before args s = true) (hgood : ∀ w ∈ vx_atM cls names, vx_ot w = true)
    (hU : vx_Zq Bundle.tN "UNASSIGNED_STACK" Bundle.steD A s s.heap) (hN : vx_Zq Bundle.tN "SUPPRESSED_SENTINEL" Bundle.listD A s s.heap) (hS : va_S A s.heap H locs) (hsize : ls.size = c.maxLocals)
    (htext : (text == notModelled) = false) (hnb : (stringBytes (stringToUtf16 text)).size ≤ nb) (hnb1 : nb ≤ 1000)
    (hRframes : names.length + 4 < R.frames) (hRlocals : (rest.map fun v => v.category).sum + 10240 ≤ R.locals) (hshort : 13 * names.length + 55 ≤ 10240) (hRcells : cells + 3 ≤ R.cells) (hRslots : slots + (nb + 10) ≤ R.slots) (hlocks : meth.locks = false)
    (k : ∀ (H1 : Heap) (q9 : Addr) (ce : Cell), H.size ≤ H1.size → (∀ q : Nat, q < H.size → H1[q]? = H[q]?) → va_S A s.heap H1 locs → H1[q9]? = some ce → ce.vm = .none → s.vm.findClass cls = some ce.cls → vx_W p l e R s m args below meth c H1 locs (cells + 3) (slots + (nb + 10)) Q (F0 m pc ls rest) q9) :
    vx_Note p l e R s m args below meth c H locs cells slots Q (F0 m pc ls rest) cls text := by
  intro T hT X
  have htr : e.platform.stackTraces = false := (show e.platform.stackTraces = l.stackTraces by rw [X.admits.platform]).trans hl
  have Y := vx_rebase X (R' := { frames := R.frames, locals := R.locals, cells := 3, slots := nb + 10 }) (Nat.le_refl _) (Nat.le_refl _) hRcells hRslots
  have hhp : ((T.setVm s.vm).setFrames (.invoking m args :: below)).heap = H := hT
  have hW0 : s.WarmedH ((T.setVm s.vm).setFrames (.invoking m args :: below)).vm := State.WarmedH.refl s
  have hat' : ∀ w ∈ vx_atM cls names, w.before args ((T.setVm s.vm).setFrames (.invoking m args :: below)) = true := fun w hw => vx_ot_at hW0 rfl (hgood w hw) (hat w hw)
  have hU' : vx_Zq Bundle.tN "UNASSIGNED_STACK" Bundle.steD A ((T.setVm s.vm).setFrames (.invoking m args :: below)) ((T.setVm s.vm).setFrames (.invoking m args :: below)).heap := by rw [hhp]; exact vx_Zq.moved hW0.alike (hU.kept hS.2.1)
  have hN' : vx_Zq Bundle.tN "SUPPRESSED_SENTINEL" Bundle.listD A ((T.setVm s.vm).setFrames (.invoking m args :: below)) ((T.setVm s.vm).setFrames (.invoking m args :: below)).heap := by rw [hhp]; exact vx_Zq.moved hW0.alike (hN.kept hS.2.1)
  obtain ⟨S, q, ce, st, Z, hce, hcl', hv⟩ := vx_vmAt Y hexec htr (cls := cls) (names := names) (text := text) hcls hnames hsoe hoom (vx_own hat' (vx_isRefq hU'.1) (vx_isRefq hN'.1) hU'.2.word hN'.2.word) (fun x hx => nomatch hx) htext
    (by rw [Launch.admits_arrayLengthLimit X.admits]; omega) (by rw [Launch.admits_maxHeapBytes X.admits]; simp only [componentBytes]; omega)
    (g := F0 m pc ls rest) rfl hsize hRframes (by show 2 * 0 + (rest.map fun v => v.category).sum + 10240 ≤ R.locals; omega) hshort (by show 0 + 3 ≤ 3; omega) (by show 0 + (_ + 4 + 6) ≤ nb + 10; omega) hlocks
  obtain ⟨f1, f2⟩ := vx_frame Z.same
  have f1' : H.size ≤ S.heap.size := by rw [← hT]; exact f1
  have f2' : ∀ q : Nat, q < H.size → S.heap[q]? = H[q]? := fun q hq => by
    rw [← hT]
    exact f2 q (by rw [← hT] at hq; exact hq) (fun z hz => nomatch hz)
  have X5 := vx_back9 X Y Z
  have X6 : Stand p l e R s m args below meth c S locs (cells + 3) (slots + (nb + 10)) := { X5 with same := X5.same.mono (by omega) (by omega) }
  obtain ⟨t, a1, b1⟩ := k S.heap q ce f1' f2' ⟨Nat.le_trans hS.1 f1', fun q h1 h2 => (f2' q (Nat.lt_of_lt_of_le h1 hS.1)).trans (hS.2.1 q h1 h2), hS.2.2⟩ hce hv hcl' S rfl X6
  exact ⟨t, st t a1, b1⟩
/-- from the machine's note that NullPointerException is thrown here -/
def vx_NoteN (p : Program) (l : Launch) (e : Env) (R : Room) (s : State) (m : MethodId) (args : Array Value) (below : List Frame) (meth : Method) (c : Code) (H : Heap) (locs : List Loc) (cells slots : Nat) (Q : State → Prop) (g : JFrame) : Prop :=
  ∀ T : State, T.heap = H → Stand p l e R s m args below meth c T locs cells slots → ∃ t, Steps p.tables e below ((T.setTop g).pushFrame (.throwNew "java/lang/NullPointerException" none none)) t ∧ Q t
theorem vx_npe {pc : Nat} {ls : Array Slot} {rest : List Value} {Q : State → Prop} (hexec : p.tables.exec = Jvm.exec) (hl : l.stackTraces = false) {nb : Nat} {A : Nat → Prop}
    (hat : ∀ w ∈ vx_atN nb, w.before args s = true) (hgood : ∀ w ∈ vx_atN nb, vx_ot w = true)
    (hU : vx_Zq Bundle.tN "UNASSIGNED_STACK" Bundle.steD A s s.heap) (hN : vx_Zq Bundle.tN "SUPPRESSED_SENTINEL" Bundle.listD A s s.heap) (hS : va_S A s.heap H locs) (hsize : ls.size = c.maxLocals)
    (hRframes : 7 < R.frames) (hRlocals : (rest.map fun v => v.category).sum + 10240 ≤ R.locals) (hRcells : cells + 1 ≤ R.cells) (hRslots : slots + nb ≤ R.slots) (hlocks : meth.locks = false)
    (k : ∀ (H1 : Heap) (q9 : Addr) (ce : Cell), H.size ≤ H1.size → (∀ q : Nat, q < H.size → H1[q]? = H[q]?) → va_S A s.heap H1 locs → H1[q9]? = some ce → ce.vm = .none → s.vm.findClass "java/lang/NullPointerException" = some ce.cls → vx_W p l e R s m args below meth c H1 locs (cells + 1) (slots + nb) Q (F0 m pc ls rest) q9) :
    vx_NoteN p l e R s m args below meth c H locs cells slots Q (F0 m pc ls rest) := by
  intro T hT X
  have htr : e.platform.stackTraces = false := (show e.platform.stackTraces = l.stackTraces by rw [X.admits.platform]).trans hl
  have Y := vx_rebase X (R' := { frames := R.frames, locals := R.locals, cells := 1, slots := nb }) (Nat.le_refl _) (Nat.le_refl _) hRcells hRslots
  have hhp : ((T.setVm s.vm).setFrames (.invoking m args :: below)).heap = H := hT
  have hW0 : s.WarmedH ((T.setVm s.vm).setFrames (.invoking m args :: below)).vm := State.WarmedH.refl s
  have hat' : ∀ w ∈ vx_atN nb, w.before args ((T.setVm s.vm).setFrames (.invoking m args :: below)) = true := fun w hw => vx_ot_at hW0 rfl (hgood w hw) (hat w hw)
  have hU' : vx_Zq Bundle.tN "UNASSIGNED_STACK" Bundle.steD A ((T.setVm s.vm).setFrames (.invoking m args :: below)) ((T.setVm s.vm).setFrames (.invoking m args :: below)).heap := by rw [hhp]; exact vx_Zq.moved hW0.alike (hU.kept hS.2.1)
  have hN' : vx_Zq Bundle.tN "SUPPRESSED_SENTINEL" Bundle.listD A ((T.setVm s.vm).setFrames (.invoking m args :: below)) ((T.setVm s.vm).setFrames (.invoking m args :: below)).heap := by rw [hhp]; exact vx_Zq.moved hW0.alike (hN.kept hS.2.1)
  obtain ⟨S, q, ce, st, Z, hce, hcl', hv⟩ := vx_npeAt Y hexec htr (n := nb) (vx_own hat' (vx_isRefq hU'.1) (vx_isRefq hN'.1) hU'.2.word hN'.2.word) (fun x hx => nomatch hx)
    (g := F0 m pc ls rest) rfl hsize hRframes (by show 2 * 0 + (rest.map fun v => v.category).sum + 10240 ≤ R.locals; omega) (by show 0 + 1 ≤ 1; omega) (by show 0 + nb ≤ nb; omega) hlocks
  obtain ⟨f1, f2⟩ := vx_frame Z.same
  have f1' : H.size ≤ S.heap.size := by rw [← hT]; exact f1
  have f2' : ∀ q : Nat, q < H.size → S.heap[q]? = H[q]? := fun q hq => by
    rw [← hT]
    exact f2 q (by rw [← hT] at hq; exact hq) (fun z hz => nomatch hz)
  have X5 := vx_back9 X Y Z
  have X6 : Stand p l e R s m args below meth c S locs (cells + 1) (slots + nb) := { X5 with same := X5.same.mono (by omega) (by omega) }
  obtain ⟨t, a1, b1⟩ := k S.heap q ce f1' f2' ⟨Nat.le_trans hS.1 f1', fun q h1 h2 => (f2' q (Nat.lt_of_lt_of_le h1 hS.1)).trans (hS.2.1 q h1 h2), hS.2.2⟩ hce hv hcl' S rfl X6
  exact ⟨t, st t a1, b1⟩
variable {Q : State → Prop} {cc : ByteArray} {pc : Nat} {ls : Array Slot} {rest : List Value}
theorem vx_idivZ (hexec : p.tables.exec = Jvm.exec) (hb : c.code = cc) {a b : Int32} (h0 : b = 0) (d : decode cc pc = .ok (.idiv, 1)) (k : vx_Note p l e R s m args below meth c H locs cells slots Q (F0 m pc ls rest) "java/lang/ArithmeticException" "/ by zero") :
    W p l e R s m args below meth c H locs cells slots Q (F0 m pc ls (.int b :: .int a :: rest)) := by
  intro T hT X
  obtain ⟨t, st, q⟩ := k T hT X
  exact ⟨t, X.idivZero hexec (g := F0 m pc ls (.int b :: .int a :: rest)) rfl (a := a) (rest := rest) (by rw [h0]) (by rw [hb]; exact d) t st, q⟩
theorem vx_iremZ (hexec : p.tables.exec = Jvm.exec) (hb : c.code = cc) {a b : Int32} (h0 : b = 0) (d : decode cc pc = .ok (.irem, 1)) (k : vx_Note p l e R s m args below meth c H locs cells slots Q (F0 m pc ls rest) "java/lang/ArithmeticException" "/ by zero") :
    W p l e R s m args below meth c H locs cells slots Q (F0 m pc ls (.int b :: .int a :: rest)) := by
  intro T hT X
  obtain ⟨t, st, q⟩ := k T hT X
  exact ⟨t, X.iremZero hexec (g := F0 m pc ls (.int b :: .int a :: rest)) rfl (a := a) (rest := rest) (by rw [h0]) (by rw [hb]; exact d) t st, q⟩
theorem vx_ldivZ (hexec : p.tables.exec = Jvm.exec) (hb : c.code = cc) {a b : Int64} (h0 : b = 0) (d : decode cc pc = .ok (.ldiv, 1)) (k : vx_Note p l e R s m args below meth c H locs cells slots Q (F0 m pc ls rest) "java/lang/ArithmeticException" "/ by zero") :
    W p l e R s m args below meth c H locs cells slots Q (F0 m pc ls (.long b :: .long a :: rest)) := by
  intro T hT X
  obtain ⟨t, st, q⟩ := k T hT X
  exact ⟨t, X.ldivZero hexec (g := F0 m pc ls (.long b :: .long a :: rest)) rfl (a := a) (rest := rest) (by rw [h0]) (by rw [hb]; exact d) t st, q⟩
theorem vx_lremZ (hexec : p.tables.exec = Jvm.exec) (hb : c.code = cc) {a b : Int64} (h0 : b = 0) (d : decode cc pc = .ok (.lrem, 1)) (k : vx_Note p l e R s m args below meth c H locs cells slots Q (F0 m pc ls rest) "java/lang/ArithmeticException" "/ by zero") :
    W p l e R s m args below meth c H locs cells slots Q (F0 m pc ls (.long b :: .long a :: rest)) := by
  intro T hT X
  obtain ⟨t, st, q⟩ := k T hT X
  exact ⟨t, X.lremZero hexec (g := F0 m pc ls (.long b :: .long a :: rest)) rfl (a := a) (rest := rest) (by rw [h0]) (by rw [hb]; exact d) t st, q⟩
theorem vx_ialdZ {D : va_G} {cl : List vw_C} {ws : va_W} {tys : List (ClassId × FieldType)} {a : Nat} (hexec : p.tables.exec = Jvm.exec) (hb : c.code = cc) (hK : va_K D cl tys s) (hP : va_P D cl ws H) (q0 t0 : Nat) {cA : ClassId} {n : Nat} {f : Nat → Int32} (ha : ws[q0]? = some (a, .inl (cA, n, .inl f))) (ht : tys[t0]? = some (cA, .int)) {i : Int32} (hout : ¬ vp_in i n) (hdg : decode cc pc = .ok (.iaload, 1))
    (k : ∀ tx : String, tx = (toString "Index " ++ toString i ++ toString " out of bounds for length " ++ toString n : String) → vx_Note p l e R s m args below meth c H locs cells slots Q (F0 m pc ls rest) "java/lang/ArrayIndexOutOfBoundsException" tx) : W p l e R s m args below meth c H locs cells slots Q (F0 m pc ls (.int i :: .ref a :: rest)) := by
  intro T hT X
  obtain ⟨t, st, q⟩ := k _ rfl T hT X
  refine ⟨t, ?_, q⟩
  have h1 := X.ialoadOut hexec (by rw [hT]; exact hP q0 _ ha) ((hK.2 t0 _ ht).1 n (fun j => .int (f j))) (j := i) (by show (i < 0 ∨ (arrV _ _ _).slots.size ≤ _); rw [arrV_size]; exact Classical.byContradiction hout) (g := F0 m pc ls (.int i :: .ref a :: rest)) rfl (rest := rest) rfl (by rw [hb]; exact hdg) t
  simp only [arrV_size] at h1
  exact h1 st
theorem vx_iastZ {D : va_G} {cl : List vw_C} {ws : va_W} {tys : List (ClassId × FieldType)} {a : Nat} (hexec : p.tables.exec = Jvm.exec) (hb : c.code = cc) (hK : va_K D cl tys s) (hP : va_P D cl ws H) (q0 t0 : Nat) {cA : ClassId} {n : Nat} {f : Nat → Int32} (ha : ws[q0]? = some (a, .inl (cA, n, .inl f))) (ht : tys[t0]? = some (cA, .int)) {i : Int32} {x : Int32} (hout : ¬ vp_in i n) (hdg : decode cc pc = .ok (.iastore, 1))
    (k : ∀ tx : String, tx = (toString "Index " ++ toString i ++ toString " out of bounds for length " ++ toString n : String) → vx_Note p l e R s m args below meth c H locs cells slots Q (F0 m pc ls rest) "java/lang/ArrayIndexOutOfBoundsException" tx) : W p l e R s m args below meth c H locs cells slots Q (F0 m pc ls (.int x :: .int i :: .ref a :: rest)) := by
  intro T hT X
  obtain ⟨t, st, q⟩ := k _ rfl T hT X
  refine ⟨t, ?_, q⟩
  have h1 := X.iastoreOut hexec (by rw [hT]; exact hP q0 _ ha) ((hK.2 t0 _ ht).1 n (fun j => .int (f j))) (j := i) (by show (i < 0 ∨ (arrV _ _ _).slots.size ≤ _); rw [arrV_size]; exact Classical.byContradiction hout) (g := F0 m pc ls (.int x :: .int i :: .ref a :: rest)) rfl (rest := rest) rfl (by rw [hb]; exact hdg) t
  simp only [arrV_size] at h1
  exact h1 st
theorem vx_baldZ {D : va_G} {cl : List vw_C} {ws : va_W} {tys : List (ClassId × FieldType)} {a : Nat} (hexec : p.tables.exec = Jvm.exec) (hb : c.code = cc) (hK : va_K D cl tys s) (hP : va_P D cl ws H) (q0 t0 : Nat) {cA : ClassId} {n : Nat} {f : Nat → Int32} (ha : ws[q0]? = some (a, .inl (cA, n, .inl f))) (ht : tys[t0]? = some (cA, .byte)) {i : Int32} (hout : ¬ vp_in i n) (hdg : decode cc pc = .ok (.baload, 1))
    (k : ∀ tx : String, tx = (toString "Index " ++ toString i ++ toString " out of bounds for length " ++ toString n : String) → vx_Note p l e R s m args below meth c H locs cells slots Q (F0 m pc ls rest) "java/lang/ArrayIndexOutOfBoundsException" tx) : W p l e R s m args below meth c H locs cells slots Q (F0 m pc ls (.int i :: .ref a :: rest)) := by
  intro T hT X
  obtain ⟨t, st, q⟩ := k _ rfl T hT X
  refine ⟨t, ?_, q⟩
  have h1 := X.baloadOut hexec (by rw [hT]; exact hP q0 _ ha) ((hK.2 t0 _ ht).1 n (fun j => .int (f j))) (j := i) (by show (i < 0 ∨ (arrV _ _ _).slots.size ≤ _); rw [arrV_size]; exact Classical.byContradiction hout) (g := F0 m pc ls (.int i :: .ref a :: rest)) rfl (rest := rest) rfl (by rw [hb]; exact hdg) t
  simp only [arrV_size] at h1
  exact h1 st
theorem vx_bastZ {D : va_G} {cl : List vw_C} {ws : va_W} {tys : List (ClassId × FieldType)} {a : Nat} (hexec : p.tables.exec = Jvm.exec) (hb : c.code = cc) (hK : va_K D cl tys s) (hP : va_P D cl ws H) (q0 t0 : Nat) {cA : ClassId} {n : Nat} {f : Nat → Int32} (ha : ws[q0]? = some (a, .inl (cA, n, .inl f))) (ht : tys[t0]? = some (cA, .byte)) {i : Int32} {x : Int32} (hout : ¬ vp_in i n) (hdg : decode cc pc = .ok (.bastore, 1))
    (k : ∀ tx : String, tx = (toString "Index " ++ toString i ++ toString " out of bounds for length " ++ toString n : String) → vx_Note p l e R s m args below meth c H locs cells slots Q (F0 m pc ls rest) "java/lang/ArrayIndexOutOfBoundsException" tx) : W p l e R s m args below meth c H locs cells slots Q (F0 m pc ls (.int x :: .int i :: .ref a :: rest)) := by
  intro T hT X
  obtain ⟨t, st, q⟩ := k _ rfl T hT X
  refine ⟨t, ?_, q⟩
  have h1 := X.bastoreOut hexec (by rw [hT]; exact hP q0 _ ha) ((hK.2 t0 _ ht).1 n (fun j => .int (f j))) (j := i) (by show (i < 0 ∨ (arrV _ _ _).slots.size ≤ _); rw [arrV_size]; exact Classical.byContradiction hout) (g := F0 m pc ls (.int x :: .int i :: .ref a :: rest)) rfl (rest := rest) rfl (by rw [hb]; exact hdg) t
  simp only [arrV_size] at h1
  exact h1 st
theorem vx_zaldZ {D : va_G} {cl : List vw_C} {ws : va_W} {tys : List (ClassId × FieldType)} {a : Nat} (hexec : p.tables.exec = Jvm.exec) (hb : c.code = cc) (hK : va_K D cl tys s) (hP : va_P D cl ws H) (q0 t0 : Nat) {cA : ClassId} {n : Nat} {f : Nat → Int32} (ha : ws[q0]? = some (a, .inl (cA, n, .inl f))) (ht : tys[t0]? = some (cA, .boolean)) {i : Int32} (hout : ¬ vp_in i n) (hdg : decode cc pc = .ok (.baload, 1))
    (k : ∀ tx : String, tx = (toString "Index " ++ toString i ++ toString " out of bounds for length " ++ toString n : String) → vx_Note p l e R s m args below meth c H locs cells slots Q (F0 m pc ls rest) "java/lang/ArrayIndexOutOfBoundsException" tx) : W p l e R s m args below meth c H locs cells slots Q (F0 m pc ls (.int i :: .ref a :: rest)) := by
  intro T hT X
  obtain ⟨t, st, q⟩ := k _ rfl T hT X
  refine ⟨t, ?_, q⟩
  have h1 := X.baloadOut hexec (by rw [hT]; exact hP q0 _ ha) ((hK.2 t0 _ ht).1 n (fun j => .int (f j))) (j := i) (by show (i < 0 ∨ (arrV _ _ _).slots.size ≤ _); rw [arrV_size]; exact Classical.byContradiction hout) (g := F0 m pc ls (.int i :: .ref a :: rest)) rfl (rest := rest) rfl (by rw [hb]; exact hdg) t
  simp only [arrV_size] at h1
  exact h1 st
theorem vx_zastZ {D : va_G} {cl : List vw_C} {ws : va_W} {tys : List (ClassId × FieldType)} {a : Nat} (hexec : p.tables.exec = Jvm.exec) (hb : c.code = cc) (hK : va_K D cl tys s) (hP : va_P D cl ws H) (q0 t0 : Nat) {cA : ClassId} {n : Nat} {f : Nat → Int32} (ha : ws[q0]? = some (a, .inl (cA, n, .inl f))) (ht : tys[t0]? = some (cA, .boolean)) {i : Int32} {x : Int32} (hout : ¬ vp_in i n) (hdg : decode cc pc = .ok (.bastore, 1))
    (k : ∀ tx : String, tx = (toString "Index " ++ toString i ++ toString " out of bounds for length " ++ toString n : String) → vx_Note p l e R s m args below meth c H locs cells slots Q (F0 m pc ls rest) "java/lang/ArrayIndexOutOfBoundsException" tx) : W p l e R s m args below meth c H locs cells slots Q (F0 m pc ls (.int x :: .int i :: .ref a :: rest)) := by
  intro T hT X
  obtain ⟨t, st, q⟩ := k _ rfl T hT X
  refine ⟨t, ?_, q⟩
  have h1 := X.bastoreOut hexec (by rw [hT]; exact hP q0 _ ha) ((hK.2 t0 _ ht).1 n (fun j => .int (f j))) (j := i) (by show (i < 0 ∨ (arrV _ _ _).slots.size ≤ _); rw [arrV_size]; exact Classical.byContradiction hout) (g := F0 m pc ls (.int x :: .int i :: .ref a :: rest)) rfl (rest := rest) rfl (by rw [hb]; exact hdg) t
  simp only [arrV_size] at h1
  exact h1 st
theorem vx_caldZ {D : va_G} {cl : List vw_C} {ws : va_W} {tys : List (ClassId × FieldType)} {a : Nat} (hexec : p.tables.exec = Jvm.exec) (hb : c.code = cc) (hK : va_K D cl tys s) (hP : va_P D cl ws H) (q0 t0 : Nat) {cA : ClassId} {n : Nat} {f : Nat → Int32} (ha : ws[q0]? = some (a, .inl (cA, n, .inl f))) (ht : tys[t0]? = some (cA, .char)) {i : Int32} (hout : ¬ vp_in i n) (hdg : decode cc pc = .ok (.caload, 1))
    (k : ∀ tx : String, tx = (toString "Index " ++ toString i ++ toString " out of bounds for length " ++ toString n : String) → vx_Note p l e R s m args below meth c H locs cells slots Q (F0 m pc ls rest) "java/lang/ArrayIndexOutOfBoundsException" tx) : W p l e R s m args below meth c H locs cells slots Q (F0 m pc ls (.int i :: .ref a :: rest)) := by
  intro T hT X
  obtain ⟨t, st, q⟩ := k _ rfl T hT X
  refine ⟨t, ?_, q⟩
  have h1 := X.caloadOut hexec (by rw [hT]; exact hP q0 _ ha) ((hK.2 t0 _ ht).1 n (fun j => .int (f j))) (j := i) (by show (i < 0 ∨ (arrV _ _ _).slots.size ≤ _); rw [arrV_size]; exact Classical.byContradiction hout) (g := F0 m pc ls (.int i :: .ref a :: rest)) rfl (rest := rest) rfl (by rw [hb]; exact hdg) t
  simp only [arrV_size] at h1
  exact h1 st
theorem vx_castZ {D : va_G} {cl : List vw_C} {ws : va_W} {tys : List (ClassId × FieldType)} {a : Nat} (hexec : p.tables.exec = Jvm.exec) (hb : c.code = cc) (hK : va_K D cl tys s) (hP : va_P D cl ws H) (q0 t0 : Nat) {cA : ClassId} {n : Nat} {f : Nat → Int32} (ha : ws[q0]? = some (a, .inl (cA, n, .inl f))) (ht : tys[t0]? = some (cA, .char)) {i : Int32} {x : Int32} (hout : ¬ vp_in i n) (hdg : decode cc pc = .ok (.castore, 1))
    (k : ∀ tx : String, tx = (toString "Index " ++ toString i ++ toString " out of bounds for length " ++ toString n : String) → vx_Note p l e R s m args below meth c H locs cells slots Q (F0 m pc ls rest) "java/lang/ArrayIndexOutOfBoundsException" tx) : W p l e R s m args below meth c H locs cells slots Q (F0 m pc ls (.int x :: .int i :: .ref a :: rest)) := by
  intro T hT X
  obtain ⟨t, st, q⟩ := k _ rfl T hT X
  refine ⟨t, ?_, q⟩
  have h1 := X.castoreOut hexec (by rw [hT]; exact hP q0 _ ha) ((hK.2 t0 _ ht).1 n (fun j => .int (f j))) (j := i) (by show (i < 0 ∨ (arrV _ _ _).slots.size ≤ _); rw [arrV_size]; exact Classical.byContradiction hout) (g := F0 m pc ls (.int x :: .int i :: .ref a :: rest)) rfl (rest := rest) rfl (by rw [hb]; exact hdg) t
  simp only [arrV_size] at h1
  exact h1 st
theorem vx_saldZ {D : va_G} {cl : List vw_C} {ws : va_W} {tys : List (ClassId × FieldType)} {a : Nat} (hexec : p.tables.exec = Jvm.exec) (hb : c.code = cc) (hK : va_K D cl tys s) (hP : va_P D cl ws H) (q0 t0 : Nat) {cA : ClassId} {n : Nat} {f : Nat → Int32} (ha : ws[q0]? = some (a, .inl (cA, n, .inl f))) (ht : tys[t0]? = some (cA, .short)) {i : Int32} (hout : ¬ vp_in i n) (hdg : decode cc pc = .ok (.saload, 1))
    (k : ∀ tx : String, tx = (toString "Index " ++ toString i ++ toString " out of bounds for length " ++ toString n : String) → vx_Note p l e R s m args below meth c H locs cells slots Q (F0 m pc ls rest) "java/lang/ArrayIndexOutOfBoundsException" tx) : W p l e R s m args below meth c H locs cells slots Q (F0 m pc ls (.int i :: .ref a :: rest)) := by
  intro T hT X
  obtain ⟨t, st, q⟩ := k _ rfl T hT X
  refine ⟨t, ?_, q⟩
  have h1 := X.saloadOut hexec (by rw [hT]; exact hP q0 _ ha) ((hK.2 t0 _ ht).1 n (fun j => .int (f j))) (j := i) (by show (i < 0 ∨ (arrV _ _ _).slots.size ≤ _); rw [arrV_size]; exact Classical.byContradiction hout) (g := F0 m pc ls (.int i :: .ref a :: rest)) rfl (rest := rest) rfl (by rw [hb]; exact hdg) t
  simp only [arrV_size] at h1
  exact h1 st
theorem vx_sastZ {D : va_G} {cl : List vw_C} {ws : va_W} {tys : List (ClassId × FieldType)} {a : Nat} (hexec : p.tables.exec = Jvm.exec) (hb : c.code = cc) (hK : va_K D cl tys s) (hP : va_P D cl ws H) (q0 t0 : Nat) {cA : ClassId} {n : Nat} {f : Nat → Int32} (ha : ws[q0]? = some (a, .inl (cA, n, .inl f))) (ht : tys[t0]? = some (cA, .short)) {i : Int32} {x : Int32} (hout : ¬ vp_in i n) (hdg : decode cc pc = .ok (.sastore, 1))
    (k : ∀ tx : String, tx = (toString "Index " ++ toString i ++ toString " out of bounds for length " ++ toString n : String) → vx_Note p l e R s m args below meth c H locs cells slots Q (F0 m pc ls rest) "java/lang/ArrayIndexOutOfBoundsException" tx) : W p l e R s m args below meth c H locs cells slots Q (F0 m pc ls (.int x :: .int i :: .ref a :: rest)) := by
  intro T hT X
  obtain ⟨t, st, q⟩ := k _ rfl T hT X
  refine ⟨t, ?_, q⟩
  have h1 := X.sastoreOut hexec (by rw [hT]; exact hP q0 _ ha) ((hK.2 t0 _ ht).1 n (fun j => .int (f j))) (j := i) (by show (i < 0 ∨ (arrV _ _ _).slots.size ≤ _); rw [arrV_size]; exact Classical.byContradiction hout) (g := F0 m pc ls (.int x :: .int i :: .ref a :: rest)) rfl (rest := rest) rfl (by rw [hb]; exact hdg) t
  simp only [arrV_size] at h1
  exact h1 st
theorem vx_laldZ {D : va_G} {cl : List vw_C} {ws : va_W} {tys : List (ClassId × FieldType)} {a : Nat} (hexec : p.tables.exec = Jvm.exec) (hb : c.code = cc) (hK : va_K D cl tys s) (hP : va_P D cl ws H) (q0 t0 : Nat) {cA : ClassId} {n : Nat} {f : Nat → Int64} (ha : ws[q0]? = some (a, .inl (cA, n, .inr (.inl f)))) (ht : tys[t0]? = some (cA, .long)) {i : Int32} (hout : ¬ vp_in i n) (hdg : decode cc pc = .ok (.laload, 1))
    (k : ∀ tx : String, tx = (toString "Index " ++ toString i ++ toString " out of bounds for length " ++ toString n : String) → vx_Note p l e R s m args below meth c H locs cells slots Q (F0 m pc ls rest) "java/lang/ArrayIndexOutOfBoundsException" tx) : W p l e R s m args below meth c H locs cells slots Q (F0 m pc ls (.int i :: .ref a :: rest)) := by
  intro T hT X
  obtain ⟨t, st, q⟩ := k _ rfl T hT X
  refine ⟨t, ?_, q⟩
  have h1 := X.laloadOut hexec (by rw [hT]; exact hP q0 _ ha) ((hK.2 t0 _ ht).1 n (fun j => .long (f j))) (j := i) (by show (i < 0 ∨ (arrV _ _ _).slots.size ≤ _); rw [arrV_size]; exact Classical.byContradiction hout) (g := F0 m pc ls (.int i :: .ref a :: rest)) rfl (rest := rest) rfl (by rw [hb]; exact hdg) t
  simp only [arrV_size] at h1
  exact h1 st
theorem vx_lastZ {D : va_G} {cl : List vw_C} {ws : va_W} {tys : List (ClassId × FieldType)} {a : Nat} (hexec : p.tables.exec = Jvm.exec) (hb : c.code = cc) (hK : va_K D cl tys s) (hP : va_P D cl ws H) (q0 t0 : Nat) {cA : ClassId} {n : Nat} {f : Nat → Int64} (ha : ws[q0]? = some (a, .inl (cA, n, .inr (.inl f)))) (ht : tys[t0]? = some (cA, .long)) {i : Int32} {x : Int64} (hout : ¬ vp_in i n) (hdg : decode cc pc = .ok (.lastore, 1))
    (k : ∀ tx : String, tx = (toString "Index " ++ toString i ++ toString " out of bounds for length " ++ toString n : String) → vx_Note p l e R s m args below meth c H locs cells slots Q (F0 m pc ls rest) "java/lang/ArrayIndexOutOfBoundsException" tx) : W p l e R s m args below meth c H locs cells slots Q (F0 m pc ls (.long x :: .int i :: .ref a :: rest)) := by
  intro T hT X
  obtain ⟨t, st, q⟩ := k _ rfl T hT X
  refine ⟨t, ?_, q⟩
  have h1 := X.lastoreOut hexec (by rw [hT]; exact hP q0 _ ha) ((hK.2 t0 _ ht).1 n (fun j => .long (f j))) (j := i) (by show (i < 0 ∨ (arrV _ _ _).slots.size ≤ _); rw [arrV_size]; exact Classical.byContradiction hout) (g := F0 m pc ls (.long x :: .int i :: .ref a :: rest)) rfl (rest := rest) rfl (by rw [hb]; exact hdg) t
  simp only [arrV_size] at h1
  exact h1 st
theorem vx_faldZ {D : va_G} {cl : List vw_C} {ws : va_W} {tys : List (ClassId × FieldType)} {a : Nat} (hexec : p.tables.exec = Jvm.exec) (hb : c.code = cc) (hK : va_K D cl tys s) (hP : va_P D cl ws H) (q0 t0 : Nat) {cA : ClassId} {n : Nat} {f : Nat → UInt32} (ha : ws[q0]? = some (a, .inl (cA, n, .inr (.inr (.inl f))))) (ht : tys[t0]? = some (cA, .float)) {i : Int32} (hout : ¬ vp_in i n) (hdg : decode cc pc = .ok (.faload, 1))
    (k : ∀ tx : String, tx = (toString "Index " ++ toString i ++ toString " out of bounds for length " ++ toString n : String) → vx_Note p l e R s m args below meth c H locs cells slots Q (F0 m pc ls rest) "java/lang/ArrayIndexOutOfBoundsException" tx) : W p l e R s m args below meth c H locs cells slots Q (F0 m pc ls (.int i :: .ref a :: rest)) := by
  intro T hT X
  obtain ⟨t, st, q⟩ := k _ rfl T hT X
  refine ⟨t, ?_, q⟩
  have h1 := X.faloadOut hexec (by rw [hT]; exact hP q0 _ ha) ((hK.2 t0 _ ht).1 n (fun j => .float (f j))) (j := i) (by show (i < 0 ∨ (arrV _ _ _).slots.size ≤ _); rw [arrV_size]; exact Classical.byContradiction hout) (g := F0 m pc ls (.int i :: .ref a :: rest)) rfl (rest := rest) rfl (by rw [hb]; exact hdg) t
  simp only [arrV_size] at h1
  exact h1 st
theorem vx_fastZ {D : va_G} {cl : List vw_C} {ws : va_W} {tys : List (ClassId × FieldType)} {a : Nat} (hexec : p.tables.exec = Jvm.exec) (hb : c.code = cc) (hK : va_K D cl tys s) (hP : va_P D cl ws H) (q0 t0 : Nat) {cA : ClassId} {n : Nat} {f : Nat → UInt32} (ha : ws[q0]? = some (a, .inl (cA, n, .inr (.inr (.inl f))))) (ht : tys[t0]? = some (cA, .float)) {i : Int32} {x : UInt32} (hout : ¬ vp_in i n) (hdg : decode cc pc = .ok (.fastore, 1))
    (k : ∀ tx : String, tx = (toString "Index " ++ toString i ++ toString " out of bounds for length " ++ toString n : String) → vx_Note p l e R s m args below meth c H locs cells slots Q (F0 m pc ls rest) "java/lang/ArrayIndexOutOfBoundsException" tx) : W p l e R s m args below meth c H locs cells slots Q (F0 m pc ls (.float x :: .int i :: .ref a :: rest)) := by
  intro T hT X
  obtain ⟨t, st, q⟩ := k _ rfl T hT X
  refine ⟨t, ?_, q⟩
  have h1 := X.fastoreOut hexec (by rw [hT]; exact hP q0 _ ha) ((hK.2 t0 _ ht).1 n (fun j => .float (f j))) (j := i) (by show (i < 0 ∨ (arrV _ _ _).slots.size ≤ _); rw [arrV_size]; exact Classical.byContradiction hout) (g := F0 m pc ls (.float x :: .int i :: .ref a :: rest)) rfl (rest := rest) rfl (by rw [hb]; exact hdg) t
  simp only [arrV_size] at h1
  exact h1 st
theorem vx_daldZ {D : va_G} {cl : List vw_C} {ws : va_W} {tys : List (ClassId × FieldType)} {a : Nat} (hexec : p.tables.exec = Jvm.exec) (hb : c.code = cc) (hK : va_K D cl tys s) (hP : va_P D cl ws H) (q0 t0 : Nat) {cA : ClassId} {n : Nat} {f : Nat → UInt64} (ha : ws[q0]? = some (a, .inl (cA, n, .inr (.inr (.inr (.inl f)))))) (ht : tys[t0]? = some (cA, .double)) {i : Int32} (hout : ¬ vp_in i n) (hdg : decode cc pc = .ok (.daload, 1))
    (k : ∀ tx : String, tx = (toString "Index " ++ toString i ++ toString " out of bounds for length " ++ toString n : String) → vx_Note p l e R s m args below meth c H locs cells slots Q (F0 m pc ls rest) "java/lang/ArrayIndexOutOfBoundsException" tx) : W p l e R s m args below meth c H locs cells slots Q (F0 m pc ls (.int i :: .ref a :: rest)) := by
  intro T hT X
  obtain ⟨t, st, q⟩ := k _ rfl T hT X
  refine ⟨t, ?_, q⟩
  have h1 := X.daloadOut hexec (by rw [hT]; exact hP q0 _ ha) ((hK.2 t0 _ ht).1 n (fun j => .double (f j))) (j := i) (by show (i < 0 ∨ (arrV _ _ _).slots.size ≤ _); rw [arrV_size]; exact Classical.byContradiction hout) (g := F0 m pc ls (.int i :: .ref a :: rest)) rfl (rest := rest) rfl (by rw [hb]; exact hdg) t
  simp only [arrV_size] at h1
  exact h1 st
theorem vx_dastZ {D : va_G} {cl : List vw_C} {ws : va_W} {tys : List (ClassId × FieldType)} {a : Nat} (hexec : p.tables.exec = Jvm.exec) (hb : c.code = cc) (hK : va_K D cl tys s) (hP : va_P D cl ws H) (q0 t0 : Nat) {cA : ClassId} {n : Nat} {f : Nat → UInt64} (ha : ws[q0]? = some (a, .inl (cA, n, .inr (.inr (.inr (.inl f)))))) (ht : tys[t0]? = some (cA, .double)) {i : Int32} {x : UInt64} (hout : ¬ vp_in i n) (hdg : decode cc pc = .ok (.dastore, 1))
    (k : ∀ tx : String, tx = (toString "Index " ++ toString i ++ toString " out of bounds for length " ++ toString n : String) → vx_Note p l e R s m args below meth c H locs cells slots Q (F0 m pc ls rest) "java/lang/ArrayIndexOutOfBoundsException" tx) : W p l e R s m args below meth c H locs cells slots Q (F0 m pc ls (.double x :: .int i :: .ref a :: rest)) := by
  intro T hT X
  obtain ⟨t, st, q⟩ := k _ rfl T hT X
  refine ⟨t, ?_, q⟩
  have h1 := X.dastoreOut hexec (by rw [hT]; exact hP q0 _ ha) ((hK.2 t0 _ ht).1 n (fun j => .double (f j))) (j := i) (by show (i < 0 ∨ (arrV _ _ _).slots.size ≤ _); rw [arrV_size]; exact Classical.byContradiction hout) (g := F0 m pc ls (.double x :: .int i :: .ref a :: rest)) rfl (rest := rest) rfl (by rw [hb]; exact hdg) t
  simp only [arrV_size] at h1
  exact h1 st
theorem vx_arraylengthN (hexec : p.tables.exec = Jvm.exec) (hb : c.code = cc) (hdg : decode cc pc = .ok (.arraylength, 1)) (k : vx_NoteN p l e R s m args below meth c H locs cells slots Q (F0 m pc ls rest)) : W p l e R s m args below meth c H locs cells slots Q (F0 m pc ls (.null :: rest)) := by
  intro T hT X
  obtain ⟨t, st, q⟩ := k T hT X
  exact ⟨t, X.arraylengthNull hexec (g := F0 m pc ls (.null :: rest)) rfl (rest := rest) rfl (by rw [hb]; exact hdg) t st, q⟩
theorem vx_ialoadN (hexec : p.tables.exec = Jvm.exec) (hb : c.code = cc) {i : Int32} (hdg : decode cc pc = .ok (.iaload, 1)) (k : vx_NoteN p l e R s m args below meth c H locs cells slots Q (F0 m pc ls rest)) : W p l e R s m args below meth c H locs cells slots Q (F0 m pc ls (.int i :: .null :: rest)) := by
  intro T hT X
  obtain ⟨t, st, q⟩ := k T hT X
  exact ⟨t, X.ialoadNull hexec (g := F0 m pc ls (.int i :: .null :: rest)) rfl (rest := rest) rfl (by rw [hb]; exact hdg) t st, q⟩
theorem vx_laloadN (hexec : p.tables.exec = Jvm.exec) (hb : c.code = cc) {i : Int32} (hdg : decode cc pc = .ok (.laload, 1)) (k : vx_NoteN p l e R s m args below meth c H locs cells slots Q (F0 m pc ls rest)) : W p l e R s m args below meth c H locs cells slots Q (F0 m pc ls (.int i :: .null :: rest)) := by
  intro T hT X
  obtain ⟨t, st, q⟩ := k T hT X
  exact ⟨t, X.laloadNull hexec (g := F0 m pc ls (.int i :: .null :: rest)) rfl (rest := rest) rfl (by rw [hb]; exact hdg) t st, q⟩
theorem vx_faloadN (hexec : p.tables.exec = Jvm.exec) (hb : c.code = cc) {i : Int32} (hdg : decode cc pc = .ok (.faload, 1)) (k : vx_NoteN p l e R s m args below meth c H locs cells slots Q (F0 m pc ls rest)) : W p l e R s m args below meth c H locs cells slots Q (F0 m pc ls (.int i :: .null :: rest)) := by
  intro T hT X
  obtain ⟨t, st, q⟩ := k T hT X
  exact ⟨t, X.faloadNull hexec (g := F0 m pc ls (.int i :: .null :: rest)) rfl (rest := rest) rfl (by rw [hb]; exact hdg) t st, q⟩
theorem vx_daloadN (hexec : p.tables.exec = Jvm.exec) (hb : c.code = cc) {i : Int32} (hdg : decode cc pc = .ok (.daload, 1)) (k : vx_NoteN p l e R s m args below meth c H locs cells slots Q (F0 m pc ls rest)) : W p l e R s m args below meth c H locs cells slots Q (F0 m pc ls (.int i :: .null :: rest)) := by
  intro T hT X
  obtain ⟨t, st, q⟩ := k T hT X
  exact ⟨t, X.daloadNull hexec (g := F0 m pc ls (.int i :: .null :: rest)) rfl (rest := rest) rfl (by rw [hb]; exact hdg) t st, q⟩
theorem vx_aaloadN (hexec : p.tables.exec = Jvm.exec) (hb : c.code = cc) {i : Int32} (hdg : decode cc pc = .ok (.aaload, 1)) (k : vx_NoteN p l e R s m args below meth c H locs cells slots Q (F0 m pc ls rest)) : W p l e R s m args below meth c H locs cells slots Q (F0 m pc ls (.int i :: .null :: rest)) := by
  intro T hT X
  obtain ⟨t, st, q⟩ := k T hT X
  exact ⟨t, X.aaloadNull hexec (g := F0 m pc ls (.int i :: .null :: rest)) rfl (rest := rest) rfl (by rw [hb]; exact hdg) t st, q⟩
theorem vx_baloadN (hexec : p.tables.exec = Jvm.exec) (hb : c.code = cc) {i : Int32} (hdg : decode cc pc = .ok (.baload, 1)) (k : vx_NoteN p l e R s m args below meth c H locs cells slots Q (F0 m pc ls rest)) : W p l e R s m args below meth c H locs cells slots Q (F0 m pc ls (.int i :: .null :: rest)) := by
  intro T hT X
  obtain ⟨t, st, q⟩ := k T hT X
  exact ⟨t, X.baloadNull hexec (g := F0 m pc ls (.int i :: .null :: rest)) rfl (rest := rest) rfl (by rw [hb]; exact hdg) t st, q⟩
theorem vx_caloadN (hexec : p.tables.exec = Jvm.exec) (hb : c.code = cc) {i : Int32} (hdg : decode cc pc = .ok (.caload, 1)) (k : vx_NoteN p l e R s m args below meth c H locs cells slots Q (F0 m pc ls rest)) : W p l e R s m args below meth c H locs cells slots Q (F0 m pc ls (.int i :: .null :: rest)) := by
  intro T hT X
  obtain ⟨t, st, q⟩ := k T hT X
  exact ⟨t, X.caloadNull hexec (g := F0 m pc ls (.int i :: .null :: rest)) rfl (rest := rest) rfl (by rw [hb]; exact hdg) t st, q⟩
theorem vx_saloadN (hexec : p.tables.exec = Jvm.exec) (hb : c.code = cc) {i : Int32} (hdg : decode cc pc = .ok (.saload, 1)) (k : vx_NoteN p l e R s m args below meth c H locs cells slots Q (F0 m pc ls rest)) : W p l e R s m args below meth c H locs cells slots Q (F0 m pc ls (.int i :: .null :: rest)) := by
  intro T hT X
  obtain ⟨t, st, q⟩ := k T hT X
  exact ⟨t, X.saloadNull hexec (g := F0 m pc ls (.int i :: .null :: rest)) rfl (rest := rest) rfl (by rw [hb]; exact hdg) t st, q⟩
theorem vx_iastoreN (hexec : p.tables.exec = Jvm.exec) (hb : c.code = cc) {x : Int32} {i : Int32} (hdg : decode cc pc = .ok (.iastore, 1)) (k : vx_NoteN p l e R s m args below meth c H locs cells slots Q (F0 m pc ls rest)) : W p l e R s m args below meth c H locs cells slots Q (F0 m pc ls (.int x :: .int i :: .null :: rest)) := by
  intro T hT X
  obtain ⟨t, st, q⟩ := k T hT X
  exact ⟨t, X.iastoreNull hexec (g := F0 m pc ls (.int x :: .int i :: .null :: rest)) rfl (rest := rest) rfl (by rw [hb]; exact hdg) t st, q⟩
theorem vx_lastoreN (hexec : p.tables.exec = Jvm.exec) (hb : c.code = cc) {x : Int64} {i : Int32} (hdg : decode cc pc = .ok (.lastore, 1)) (k : vx_NoteN p l e R s m args below meth c H locs cells slots Q (F0 m pc ls rest)) : W p l e R s m args below meth c H locs cells slots Q (F0 m pc ls (.long x :: .int i :: .null :: rest)) := by
  intro T hT X
  obtain ⟨t, st, q⟩ := k T hT X
  exact ⟨t, X.lastoreNull hexec (g := F0 m pc ls (.long x :: .int i :: .null :: rest)) rfl (rest := rest) rfl (by rw [hb]; exact hdg) t st, q⟩
theorem vx_fastoreN (hexec : p.tables.exec = Jvm.exec) (hb : c.code = cc) {x : UInt32} {i : Int32} (hdg : decode cc pc = .ok (.fastore, 1)) (k : vx_NoteN p l e R s m args below meth c H locs cells slots Q (F0 m pc ls rest)) : W p l e R s m args below meth c H locs cells slots Q (F0 m pc ls (.float x :: .int i :: .null :: rest)) := by
  intro T hT X
  obtain ⟨t, st, q⟩ := k T hT X
  exact ⟨t, X.fastoreNull hexec (g := F0 m pc ls (.float x :: .int i :: .null :: rest)) rfl (rest := rest) rfl (by rw [hb]; exact hdg) t st, q⟩
theorem vx_dastoreN (hexec : p.tables.exec = Jvm.exec) (hb : c.code = cc) {x : UInt64} {i : Int32} (hdg : decode cc pc = .ok (.dastore, 1)) (k : vx_NoteN p l e R s m args below meth c H locs cells slots Q (F0 m pc ls rest)) : W p l e R s m args below meth c H locs cells slots Q (F0 m pc ls (.double x :: .int i :: .null :: rest)) := by
  intro T hT X
  obtain ⟨t, st, q⟩ := k T hT X
  exact ⟨t, X.dastoreNull hexec (g := F0 m pc ls (.double x :: .int i :: .null :: rest)) rfl (rest := rest) rfl (by rw [hb]; exact hdg) t st, q⟩
theorem vx_bastoreN (hexec : p.tables.exec = Jvm.exec) (hb : c.code = cc) {x : Int32} {i : Int32} (hdg : decode cc pc = .ok (.bastore, 1)) (k : vx_NoteN p l e R s m args below meth c H locs cells slots Q (F0 m pc ls rest)) : W p l e R s m args below meth c H locs cells slots Q (F0 m pc ls (.int x :: .int i :: .null :: rest)) := by
  intro T hT X
  obtain ⟨t, st, q⟩ := k T hT X
  exact ⟨t, X.bastoreNull hexec (g := F0 m pc ls (.int x :: .int i :: .null :: rest)) rfl (rest := rest) rfl (by rw [hb]; exact hdg) t st, q⟩
theorem vx_castoreN (hexec : p.tables.exec = Jvm.exec) (hb : c.code = cc) {x : Int32} {i : Int32} (hdg : decode cc pc = .ok (.castore, 1)) (k : vx_NoteN p l e R s m args below meth c H locs cells slots Q (F0 m pc ls rest)) : W p l e R s m args below meth c H locs cells slots Q (F0 m pc ls (.int x :: .int i :: .null :: rest)) := by
  intro T hT X
  obtain ⟨t, st, q⟩ := k T hT X
  exact ⟨t, X.castoreNull hexec (g := F0 m pc ls (.int x :: .int i :: .null :: rest)) rfl (rest := rest) rfl (by rw [hb]; exact hdg) t st, q⟩
theorem vx_sastoreN (hexec : p.tables.exec = Jvm.exec) (hb : c.code = cc) {x : Int32} {i : Int32} (hdg : decode cc pc = .ok (.sastore, 1)) (k : vx_NoteN p l e R s m args below meth c H locs cells slots Q (F0 m pc ls rest)) : W p l e R s m args below meth c H locs cells slots Q (F0 m pc ls (.int x :: .int i :: .null :: rest)) := by
  intro T hT X
  obtain ⟨t, st, q⟩ := k T hT X
  exact ⟨t, X.sastoreNull hexec (g := F0 m pc ls (.int x :: .int i :: .null :: rest)) rfl (rest := rest) rfl (by rw [hb]; exact hdg) t st, q⟩
theorem vx_invokeN {own C : String} {index maxL : Nat} {y : MethodName} {bytes : ByteArray} {ret : Option FieldType} (hexec : p.tables.exec = Jvm.exec) (hb : c.code = cc) (hown : s.vm.findClass own = some m.cls) (hlink : (Cond.methodLink own index y).before args s = true) (hinst : (Cond.instanceMethod y).before args s = true) (hcode : (Cond.code y bytes maxL ret).before args s = true) (hsel : (Cond.selects C y y).before args s = true)
    (hx : y.cls ≠ "java/lang/invoke/MethodHandle" ∧ y.cls ≠ "java/lang/invoke/VarHandle") {As : List Value} (hlen : (parseMethodDescriptor y.desc).map (fun d => d.parameters.length) = some As.length) (hdg : decode cc pc = .ok (.invokevirtual index, 3))
    (k : vx_NoteN p l e R s m args below meth c H locs cells slots Q (F0 m pc ls rest)) {st0 : List Value} (hst : st0 = As.reverse ++ .null :: rest) : W p l e R s m args below meth c H locs cells slots Q (F0 m pc ls st0) := by
  intro T hT X
  obtain ⟨r0, r, hn, hrm, hstR, hsigR⟩ := va_Decl.of hinst hcode
  obtain ⟨c2, r2, m2, q1, q2, q3, q4, kP, hkP, hkPi⟩ := Cond.selects_spec hsel
  cases hn.symm.trans q3
  have hl9 : As.length = r.sig.parameters.length := by
    rw [hsigR] at hlen
    exact (Option.some.inj hlen).symm
  obtain ⟨vm', X1, st1⟩ := X.invokevirtualNull hexec hown hlink hn hrm hstR hkP hkPi hx (g := F0 m pc ls st0) rfl (argsL := As) (rest := rest) hl9 hst (by rw [hb]; exact hdg)
  obtain ⟨t, st, q⟩ := k (T.setVm vm') hT X1
  exact ⟨t, st1 t st, q⟩
theorem vx_newarrayZ {atype : ArrayType} (hexec : p.tables.exec = Jvm.exec) (hb : c.code = cc) {n : Int32} (h0 : n < 0) (hdg : decode cc pc = .ok (.newarray atype, 2)) (k : ∀ tx : String, tx = toString n → vx_Note p l e R s m args below meth c H locs cells slots Q (F0 m pc ls rest) "java/lang/NegativeArraySizeException" tx) : W p l e R s m args below meth c H locs cells slots Q (F0 m pc ls (.int n :: rest)) := by
  intro T hT X
  obtain ⟨t, st, q⟩ := k _ rfl T hT X
  exact ⟨t, X.newarrayNegative hexec (g := F0 m pc ls (.int n :: rest)) rfl h0 (rest := rest) rfl (by rw [hb]; exact hdg) t st, q⟩
end
end VXM
/-! ===== END ===== -/
end
section
/-! NAMES, fields, methods: rows printed by TURN, cut out of claim/NAMES.whole.lean.txt -/
def RX0 : String := "Foundrymark$Chart"
def TX0 : u_T := fun k => match k with
  | 0 => ("Foundrymark$Chart", "centre", "I", false)
  | 1 => ("Foundrymark$Chart", "width", "I", false)
  | 2 => ("Foundrymark$Chart", "side", "I", false)
  | 3 => ("Foundrymark$Chart", "row", "I", false)
  | _ => ("Foundrymark$Chart", "measured", "I", false)
def tyX0 : Nat → FieldType := fun k => match k with
  | 0 => .int
  | 1 => .int
  | 2 => .int
  | 3 => .int
  | _ => .int
theorem nmX0 : ∀ a, a < 5 → ∀ b, b < 5 → a ≠ b → (TX0 a).2.1 ≠ (TX0 b).2.1 := by decide +kernel
theorem tyX0_ok : ∀ k, k < 5 → parseFieldDescriptor (TX0 k).2.2.1 = some (tyX0 k) := by decide +kernel
abbrev cX0_init : ByteArray := prog_2_method_1_code
def yX0_init : MethodName := ⟨RX0, "<init>", "()V"⟩
abbrev cX0_begin : ByteArray := prog_2_method_2_code
def yX0_begin : MethodName := ⟨RX0, "begin", "(II)V"⟩
abbrev cX0_alarms : ByteArray := prog_2_method_3_code
def yX0_alarms : MethodName := ⟨RX0, "alarms", "(I)Z"⟩
def RX1 : String := "Foundrymark$Component"
def TX1 : u_T := fun k => match k with
  | 0 => ("Foundrymark$Component", "part", "LFoundrymark$Part;", true)
  | 1 => ("Foundrymark$Component", "pieces", "I", true)
  | _ => ("Foundrymark$Component", "option", "I", true)
def tyX1 : Nat → FieldType := fun k => match k with
  | 0 => .object "Foundrymark$Part"
  | 1 => .int
  | _ => .int
theorem nmX1 : ∀ a, a < 3 → ∀ b, b < 3 → a ≠ b → (TX1 a).2.1 ≠ (TX1 b).2.1 := by decide +kernel
theorem tyX1_ok : ∀ k, k < 3 → parseFieldDescriptor (TX1 k).2.2.1 = some (tyX1 k) := by decide +kernel
abbrev cX1_init : ByteArray := prog_3_method_1_code
def yX1_init : MethodName := ⟨RX1, "<init>", "(LFoundrymark$Part;II)V"⟩
abbrev cX1_isFor : ByteArray := prog_3_method_2_code
def yX1_isFor : MethodName := ⟨RX1, "isFor", "(I)Z"⟩
def RX2 : String := "Foundrymark$Job"
def TX2 : u_T := fun k => match k with
  | 0 => ("Foundrymark$Job", "pieces", "I", false)
  | 1 => ("Foundrymark$Job", "scrapped", "I", false)
  | 2 => ("Foundrymark$Job", "operation", "I", false)
  | 3 => ("Foundrymark$Job", "finishedAt", "I", false)
  | 4 => ("Foundrymark$Job", "cost", "J", false)
  | 5 => ("Foundrymark$Job", "waitsAt", "LFoundrymark$Machine;", false)
  | _ => ("Foundrymark$Job", "lot", "LFoundrymark$Lot;", false)
def tyX2 : Nat → FieldType := fun k => match k with
  | 0 => .int
  | 1 => .int
  | 2 => .int
  | 3 => .int
  | 4 => .long
  | 5 => .object "Foundrymark$Machine"
  | _ => .object "Foundrymark$Lot"
theorem nmX2 : ∀ a, a < 7 → ∀ b, b < 7 → a ≠ b → (TX2 a).2.1 ≠ (TX2 b).2.1 := by decide +kernel
theorem tyX2_ok : ∀ k, k < 7 → parseFieldDescriptor (TX2 k).2.2.1 = some (tyX2 k) := by decide +kernel
abbrev cX2_init : ByteArray := prog_4_method_1_code
def yX2_init : MethodName := ⟨RX2, "<init>", "()V"⟩
def RX3 : String := "Foundrymark$Lot"
def TX3 : u_T := fun k => match k with
  | 0 => ("Foundrymark$Lot", "number", "I", true)
  | 1 => ("Foundrymark$Lot", "part", "LFoundrymark$Part;", true)
  | 2 => ("Foundrymark$Lot", "quantity", "I", true)
  | 3 => ("Foundrymark$Lot", "inside", "LFoundrymark$NumberSet;", true)
  | 4 => ("Foundrymark$Lot", "intoLots", "LFoundrymark$NumberSet;", true)
  | 5 => ("Foundrymark$Lot", "intoOrders", "LFoundrymark$NumberSet;", true)
  | 6 => ("Foundrymark$Lot", "rest", "I", false)
  | 7 => ("Foundrymark$Lot", "reserved", "I", false)
  | 8 => ("Foundrymark$Lot", "delivered", "I", false)
  | _ => ("Foundrymark$Lot", "cost", "J", false)
def tyX3 : Nat → FieldType := fun k => match k with
  | 0 => .int
  | 1 => .object "Foundrymark$Part"
  | 2 => .int
  | 3 => .object "Foundrymark$NumberSet"
  | 4 => .object "Foundrymark$NumberSet"
  | 5 => .object "Foundrymark$NumberSet"
  | 6 => .int
  | 7 => .int
  | 8 => .int
  | _ => .long
theorem nmX3 : ∀ a, a < 10 → ∀ b, b < 10 → a ≠ b → (TX3 a).2.1 ≠ (TX3 b).2.1 := by decide +kernel
theorem tyX3_ok : ∀ k, k < 10 → parseFieldDescriptor (TX3 k).2.2.1 = some (tyX3 k) := by decide +kernel
abbrev cX3_init : ByteArray := prog_5_method_1_code
def yX3_init : MethodName := ⟨RX3, "<init>", "(ILFoundrymark$Part;IJ)V"⟩
abbrev cX3_take : ByteArray := prog_5_method_2_code
def yX3_take : MethodName := ⟨RX3, "take", "(I)J"⟩
def RX4 : String := "Foundrymark$Machine"
def TX4 : u_T := fun k => match k with
  | 0 => ("Foundrymark$Machine", "rate", "I", true)
  | 1 => ("Foundrymark$Machine", "setup", "I", true)
  | 2 => ("Foundrymark$Machine", "life", "I", true)
  | 3 => ("Foundrymark$Machine", "repair", "I", true)
  | 4 => ("Foundrymark$Machine", "state", "C", false)
  | 5 => ("Foundrymark$Machine", "family", "I", false)
  | 6 => ("Foundrymark$Machine", "wear", "I", false)
  | 7 => ("Foundrymark$Machine", "begunAt", "I", false)
  | 8 => ("Foundrymark$Machine", "endsAt", "I", false)
  | 9 => ("Foundrymark$Machine", "busy", "I", false)
  | _ => ("Foundrymark$Machine", "doing", "LFoundrymark$Order;", false)
def tyX4 : Nat → FieldType := fun k => match k with
  | 0 => .int
  | 1 => .int
  | 2 => .int
  | 3 => .int
  | 4 => .char
  | 5 => .int
  | 6 => .int
  | 7 => .int
  | 8 => .int
  | 9 => .int
  | _ => .object "Foundrymark$Order"
theorem nmX4 : ∀ a, a < 11 → ∀ b, b < 11 → a ≠ b → (TX4 a).2.1 ≠ (TX4 b).2.1 := by decide +kernel
theorem tyX4_ok : ∀ k, k < 11 → parseFieldDescriptor (TX4 k).2.2.1 = some (tyX4 k) := by decide +kernel
abbrev cX4_init : ByteArray := prog_6_method_1_code
def yX4_init : MethodName := ⟨RX4, "<init>", "(IIII)V"⟩
abbrev cX4_begin : ByteArray := prog_6_method_2_code
def yX4_begin : MethodName := ⟨RX4, "begin", "(LFoundrymark$Order;II)V"⟩
abbrev cX4_end : ByteArray := prog_6_method_3_code
def yX4_end : MethodName := ⟨RX4, "end", "(II)V"⟩
abbrev cX4_busyUntil : ByteArray := prog_6_method_4_code
def yX4_busyUntil : MethodName := ⟨RX4, "busyUntil", "(I)I"⟩
def RX5 : String := "Foundrymark$NumberSet"
def TX5 : u_T := fun k => match k with
  | 0 => ("Foundrymark$NumberSet", "low", "J", false)
  | _ => ("Foundrymark$NumberSet", "high", "J", false)
def tyX5 : Nat → FieldType := fun k => match k with
  | 0 => .long
  | _ => .long
theorem nmX5 : ∀ a, a < 2 → ∀ b, b < 2 → a ≠ b → (TX5 a).2.1 ≠ (TX5 b).2.1 := by decide +kernel
theorem tyX5_ok : ∀ k, k < 2 → parseFieldDescriptor (TX5 k).2.2.1 = some (tyX5 k) := by decide +kernel
abbrev cX5_init : ByteArray := prog_7_method_1_code
def yX5_init : MethodName := ⟨RX5, "<init>", "()V"⟩
abbrev cX5_add : ByteArray := prog_7_method_2_code
def yX5_add : MethodName := ⟨RX5, "add", "(I)V"⟩
abbrev cX5_remove : ByteArray := prog_7_method_3_code
def yX5_remove : MethodName := ⟨RX5, "remove", "(I)V"⟩
abbrev cX5_has : ByteArray := prog_7_method_4_code
def yX5_has : MethodName := ⟨RX5, "has", "(I)Z"⟩
abbrev cX5_meets : ByteArray := prog_7_method_5_code
def yX5_meets : MethodName := ⟨RX5, "meets", "(LFoundrymark$NumberSet;)Z"⟩
abbrev cX5_addWith : ByteArray := prog_7_method_6_code
def yX5_addWith : MethodName := ⟨RX5, "addWith", "(LFoundrymark$Lot;)V"⟩
abbrev cX5_size : ByteArray := prog_7_method_7_code
def yX5_size : MethodName := ⟨RX5, "size", "()I"⟩
def RX6 : String := "Foundrymark$Operation"
def TX6 : u_T := fun k => match k with
  | 0 => ("Foundrymark$Operation", "machine", "LFoundrymark$Machine;", true)
  | 1 => ("Foundrymark$Operation", "alternative", "LFoundrymark$Machine;", true)
  | _ => ("Foundrymark$Operation", "time", "I", true)
def tyX6 : Nat → FieldType := fun k => match k with
  | 0 => .object "Foundrymark$Machine"
  | 1 => .object "Foundrymark$Machine"
  | _ => .int
theorem nmX6 : ∀ a, a < 3 → ∀ b, b < 3 → a ≠ b → (TX6 a).2.1 ≠ (TX6 b).2.1 := by decide +kernel
theorem tyX6_ok : ∀ k, k < 3 → parseFieldDescriptor (TX6 k).2.2.1 = some (tyX6 k) := by decide +kernel
abbrev cX6_init : ByteArray := prog_8_method_1_code
def yX6_init : MethodName := ⟨RX6, "<init>", "(LFoundrymark$Machine;LFoundrymark$Machine;I)V"⟩
def RX7 : String := "Foundrymark$Order"
def TX7 : u_T := fun k => match k with
  | 0 => ("Foundrymark$Order", "number", "I", true)
  | 1 => ("Foundrymark$Order", "part", "LFoundrymark$Part;", true)
  | 2 => ("Foundrymark$Order", "quantity", "I", true)
  | 3 => ("Foundrymark$Order", "option", "I", true)
  | 4 => ("Foundrymark$Order", "due", "I", true)
  | 5 => ("Foundrymark$Order", "job", "LFoundrymark$Job;", true)
  | 6 => ("Foundrymark$Order", "inside", "LFoundrymark$NumberSet;", true)
  | 7 => ("Foundrymark$Order", "pieces", "[I", true)
  | 8 => ("Foundrymark$Order", "state", "C", false)
  | 9 => ("Foundrymark$Order", "deliveredAt", "I", false)
  | 10 => ("Foundrymark$Order", "delivered", "I", false)
  | _ => ("Foundrymark$Order", "deliveredCost", "J", false)
def tyX7 : Nat → FieldType := fun k => match k with
  | 0 => .int
  | 1 => .object "Foundrymark$Part"
  | 2 => .int
  | 3 => .int
  | 4 => .int
  | 5 => .object "Foundrymark$Job"
  | 6 => .object "Foundrymark$NumberSet"
  | 7 => .array .int
  | 8 => .char
  | 9 => .int
  | 10 => .int
  | _ => .long
theorem nmX7 : ∀ a, a < 12 → ∀ b, b < 12 → a ≠ b → (TX7 a).2.1 ≠ (TX7 b).2.1 := by decide +kernel
theorem tyX7_ok : ∀ k, k < 12 → parseFieldDescriptor (TX7 k).2.2.1 = some (tyX7 k) := by decide +kernel
abbrev cX7_init : ByteArray := prog_9_method_1_code
def yX7_init : MethodName := ⟨RX7, "<init>", "(ILFoundrymark$Part;III)V"⟩
abbrev cX7_piecesOf : ByteArray := prog_9_method_2_code
def yX7_piecesOf : MethodName := ⟨RX7, "piecesOf", "(LFoundrymark$Lot;)I"⟩
abbrev cX7_addPieces : ByteArray := prog_9_method_3_code
def yX7_addPieces : MethodName := ⟨RX7, "addPieces", "(LFoundrymark$Lot;I)V"⟩
abbrev cX7_isInWork : ByteArray := prog_9_method_4_code
def yX7_isInWork : MethodName := ⟨RX7, "isInWork", "()Z"⟩
abbrev cX7_isSoundAlone : ByteArray := prog_9_method_5_code
def yX7_isSoundAlone : MethodName := ⟨RX7, "isSoundAlone", "()Z"⟩
def RX8 : String := "Foundrymark$Part"
def TX8 : u_T := fun k => match k with
  | 0 => ("Foundrymark$Part", "number", "I", true)
  | 1 => ("Foundrymark$Part", "isMade", "Z", true)
  | 2 => ("Foundrymark$Part", "family", "I", true)
  | 3 => ("Foundrymark$Part", "components", "[LFoundrymark$Component;", true)
  | 4 => ("Foundrymark$Part", "operations", "[LFoundrymark$Operation;", true)
  | 5 => ("Foundrymark$Part", "chart", "LFoundrymark$Chart;", true)
  | 6 => ("Foundrymark$Part", "componentCount", "I", false)
  | _ => ("Foundrymark$Part", "operationCount", "I", false)
def tyX8 : Nat → FieldType := fun k => match k with
  | 0 => .int
  | 1 => .boolean
  | 2 => .int
  | 3 => .array (.object "Foundrymark$Component")
  | 4 => .array (.object "Foundrymark$Operation")
  | 5 => .object "Foundrymark$Chart"
  | 6 => .int
  | _ => .int
theorem nmX8 : ∀ a, a < 8 → ∀ b, b < 8 → a ≠ b → (TX8 a).2.1 ≠ (TX8 b).2.1 := by decide +kernel
theorem tyX8_ok : ∀ k, k < 8 → parseFieldDescriptor (TX8 k).2.2.1 = some (tyX8 k) := by decide +kernel
abbrev cX8_init : ByteArray := prog_10_method_1_code
def yX8_init : MethodName := ⟨RX8, "<init>", "(IZI)V"⟩
abbrev cX8_hasRoomForComponent : ByteArray := prog_10_method_2_code
def yX8_hasRoomForComponent : MethodName := ⟨RX8, "hasRoomForComponent", "()Z"⟩
abbrev cX8_putComponent : ByteArray := prog_10_method_3_code
def yX8_putComponent : MethodName := ⟨RX8, "putComponent", "(LFoundrymark$Component;)I"⟩
abbrev cX8_hasRoomForOperation : ByteArray := prog_10_method_4_code
def yX8_hasRoomForOperation : MethodName := ⟨RX8, "hasRoomForOperation", "()Z"⟩
abbrev cX8_putOperation : ByteArray := prog_10_method_5_code
def yX8_putOperation : MethodName := ⟨RX8, "putOperation", "(LFoundrymark$Operation;)I"⟩
abbrev cX8_operationAt : ByteArray := prog_10_method_6_code
def yX8_operationAt : MethodName := ⟨RX8, "operationAt", "(I)LFoundrymark$Operation;"⟩
def RX9 : String := "Foundrymark$Supplier"
def TX9 : u_T := fun k => match k with
  | 0 => ("Foundrymark$Supplier", "rule", "C", false)
  | 1 => ("Foundrymark$Supplier", "refusals", "I", false)
  | _ => ("Foundrymark$Supplier", "seen", "I", false)
def tyX9 : Nat → FieldType := fun k => match k with
  | 0 => .char
  | 1 => .int
  | _ => .int
theorem nmX9 : ∀ a, a < 3 → ∀ b, b < 3 → a ≠ b → (TX9 a).2.1 ≠ (TX9 b).2.1 := by decide +kernel
theorem tyX9_ok : ∀ k, k < 3 → parseFieldDescriptor (TX9 k).2.2.1 = some (tyX9 k) := by decide +kernel
abbrev cX9_init : ByteArray := prog_11_method_1_code
def yX9_init : MethodName := ⟨RX9, "<init>", "()V"⟩
abbrev cX9_refuses : ByteArray := prog_11_method_2_code
def yX9_refuses : MethodName := ⟨RX9, "refuses", "(I)Z"⟩
abbrev cX9_mostBad : ByteArray := prog_11_method_3_code
def yX9_mostBad : MethodName := ⟨RX9, "mostBad", "()I"⟩
abbrev cX9_nextRule : ByteArray := prog_11_method_4_code
def yX9_nextRule : MethodName := ⟨RX9, "nextRule", "(Z)C"⟩
abbrev cX9_areAccepted : ByteArray := prog_11_method_5_code
def yX9_areAccepted : MethodName := ⟨RX9, "areAccepted", "(I)Z"⟩
def RX10 : String := "Foundrymark"
def TX10 : u_T := fun k => match k with
  | 0 => ("Foundrymark", "machines", "[LFoundrymark$Machine;", true)
  | 1 => ("Foundrymark", "parts", "[LFoundrymark$Part;", true)
  | 2 => ("Foundrymark", "suppliers", "[LFoundrymark$Supplier;", true)
  | 3 => ("Foundrymark", "lots", "[LFoundrymark$Lot;", true)
  | 4 => ("Foundrymark", "orders", "[LFoundrymark$Order;", true)
  | 5 => ("Foundrymark", "onHold", "LFoundrymark$NumberSet;", true)
  | 6 => ("Foundrymark", "machineCount", "I", false)
  | 7 => ("Foundrymark", "partCount", "I", false)
  | 8 => ("Foundrymark", "lotCount", "I", false)
  | 9 => ("Foundrymark", "boughtCount", "I", false)
  | 10 => ("Foundrymark", "orderCount", "I", false)
  | 11 => ("Foundrymark", "now", "I", false)
  | 12 => ("Foundrymark", "costIn", "J", false)
  | _ => ("Foundrymark", "costLost", "J", false)
def tyX10 : Nat → FieldType := fun k => match k with
  | 0 => .array (.object "Foundrymark$Machine")
  | 1 => .array (.object "Foundrymark$Part")
  | 2 => .array (.object "Foundrymark$Supplier")
  | 3 => .array (.object "Foundrymark$Lot")
  | 4 => .array (.object "Foundrymark$Order")
  | 5 => .object "Foundrymark$NumberSet"
  | 6 => .int
  | 7 => .int
  | 8 => .int
  | 9 => .int
  | 10 => .int
  | 11 => .int
  | 12 => .long
  | _ => .long
theorem nmX10 : ∀ a, a < 14 → ∀ b, b < 14 → a ≠ b → (TX10 a).2.1 ≠ (TX10 b).2.1 := by decide +kernel
theorem tyX10_ok : ∀ k, k < 14 → parseFieldDescriptor (TX10 k).2.2.1 = some (tyX10 k) := by decide +kernel
abbrev cX10_init : ByteArray := prog_1_method_1_code
def yX10_init : MethodName := ⟨RX10, "<init>", "()V"⟩
abbrev cX10_addMachine : ByteArray := prog_1_method_2_code
def yX10_addMachine : MethodName := ⟨RX10, "addMachine", "(IIII)I"⟩
abbrev cX10_addPart : ByteArray := prog_1_method_3_code
def yX10_addPart : MethodName := ⟨RX10, "addPart", "(ZI)I"⟩
abbrev cX10_addComponent : ByteArray := prog_1_method_4_code
def yX10_addComponent : MethodName := ⟨RX10, "addComponent", "(IIII)I"⟩
abbrev cX10_addOperation : ByteArray := prog_1_method_5_code
def yX10_addOperation : MethodName := ⟨RX10, "addOperation", "(IIII)I"⟩
abbrev cX10_receive : ByteArray := prog_1_method_6_code
def yX10_receive : MethodName := ⟨RX10, "receive", "(IIIII)I"⟩
abbrev cX10_rule : ByteArray := prog_1_method_7_code
def yX10_rule : MethodName := ⟨RX10, "rule", "(I)C"⟩
abbrev cX10_hold : ByteArray := prog_1_method_8_code
def yX10_hold : MethodName := ⟨RX10, "hold", "(IZ)I"⟩
abbrev cX10_isHeld : ByteArray := prog_1_method_9_code
def yX10_isHeld : MethodName := ⟨RX10, "isHeld", "(I)Z"⟩
abbrev cX10_setChart : ByteArray := prog_1_method_10_code
def yX10_setChart : MethodName := ⟨RX10, "setChart", "(III)I"⟩
abbrev cX10_measure : ByteArray := prog_1_method_11_code
def yX10_measure : MethodName := ⟨RX10, "measure", "(II)Z"⟩
abbrev cX10_lots : ByteArray := prog_1_method_12_code
def yX10_lots : MethodName := ⟨RX10, "lots", "()I"⟩
abbrev cX10_partOf : ByteArray := prog_1_method_13_code
def yX10_partOf : MethodName := ⟨RX10, "partOf", "(I)I"⟩
abbrev cX10_rest : ByteArray := prog_1_method_14_code
def yX10_rest : MethodName := ⟨RX10, "rest", "(I)I"⟩
abbrev cX10_reserved : ByteArray := prog_1_method_15_code
def yX10_reserved : MethodName := ⟨RX10, "reserved", "(I)I"⟩
abbrev cX10_costOf : ByteArray := prog_1_method_16_code
def yX10_costOf : MethodName := ⟨RX10, "costOf", "(I)J"⟩
abbrev cX10_order : ByteArray := prog_1_method_17_code
def yX10_order : MethodName := ⟨RX10, "order", "(IIII)I"⟩
abbrev cX10_promise : ByteArray := prog_1_method_18_code
def yX10_promise : MethodName := ⟨RX10, "promise", "(I)Z"⟩
abbrev cX10_withdraw : ByteArray := prog_1_method_19_code
def yX10_withdraw : MethodName := ⟨RX10, "withdraw", "(I)I"⟩
abbrev cX10_release : ByteArray := prog_1_method_20_code
def yX10_release : MethodName := ⟨RX10, "release", "(I)Z"⟩
abbrev cX10_scrap : ByteArray := prog_1_method_21_code
def yX10_scrap : MethodName := ⟨RX10, "scrap", "(II)I"⟩
abbrev cX10_advance : ByteArray := prog_1_method_22_code
def yX10_advance : MethodName := ⟨RX10, "advance", "(I)I"⟩
abbrev cX10_deliver : ByteArray := prog_1_method_23_code
def yX10_deliver : MethodName := ⟨RX10, "deliver", "(I)Z"⟩
abbrev cX10_stateOf : ByteArray := prog_1_method_24_code
def yX10_stateOf : MethodName := ⟨RX10, "stateOf", "(I)C"⟩
abbrev cX10_lotOf : ByteArray := prog_1_method_25_code
def yX10_lotOf : MethodName := ⟨RX10, "lotOf", "(I)I"⟩
abbrev cX10_finishedAt : ByteArray := prog_1_method_26_code
def yX10_finishedAt : MethodName := ⟨RX10, "finishedAt", "(I)I"⟩
abbrev cX10_machineIs : ByteArray := prog_1_method_27_code
def yX10_machineIs : MethodName := ⟨RX10, "machineIs", "(I)C"⟩
abbrev cX10_wear : ByteArray := prog_1_method_28_code
def yX10_wear : MethodName := ⟨RX10, "wear", "(I)I"⟩
abbrev cX10_waiting : ByteArray := prog_1_method_29_code
def yX10_waiting : MethodName := ⟨RX10, "waiting", "(I)I"⟩
abbrev cX10_isIn : ByteArray := prog_1_method_30_code
def yX10_isIn : MethodName := ⟨RX10, "isIn", "(II)Z"⟩
abbrev cX10_touched : ByteArray := prog_1_method_31_code
def yX10_touched : MethodName := ⟨RX10, "touched", "(I)I"⟩
abbrev cX10_lotsIn : ByteArray := prog_1_method_32_code
def yX10_lotsIn : MethodName := ⟨RX10, "lotsIn", "(I)I"⟩
abbrev cX10_deliveredCost : ByteArray := prog_1_method_33_code
def yX10_deliveredCost : MethodName := ⟨RX10, "deliveredCost", "(I)J"⟩
abbrev cX10_inTimeShare : ByteArray := prog_1_method_34_code
def yX10_inTimeShare : MethodName := ⟨RX10, "inTimeShare", "()F"⟩
abbrev cX10_meanBusy : ByteArray := prog_1_method_35_code
def yX10_meanBusy : MethodName := ⟨RX10, "meanBusy", "()D"⟩
abbrev cX10_isSound : ByteArray := prog_1_method_36_code
def yX10_isSound : MethodName := ⟨RX10, "isSound", "()Z"⟩
abbrev cX10_isFrom : ByteArray := prog_1_method_37_code
def yX10_isFrom : MethodName := ⟨RX10, "isFrom", "(III)Z"⟩
abbrev cX10_knownMachine : ByteArray := prog_1_method_38_code
def yX10_knownMachine : MethodName := ⟨RX10, "knownMachine", "(I)LFoundrymark$Machine;"⟩
abbrev cX10_knownPart : ByteArray := prog_1_method_39_code
def yX10_knownPart : MethodName := ⟨RX10, "knownPart", "(I)LFoundrymark$Part;"⟩
abbrev cX10_knownLot : ByteArray := prog_1_method_40_code
def yX10_knownLot : MethodName := ⟨RX10, "knownLot", "(I)LFoundrymark$Lot;"⟩
abbrev cX10_knownOrder : ByteArray := prog_1_method_41_code
def yX10_knownOrder : MethodName := ⟨RX10, "knownOrder", "(I)LFoundrymark$Order;"⟩
abbrev cX10_findSupplier : ByteArray := prog_1_method_42_code
def yX10_findSupplier : MethodName := ⟨RX10, "findSupplier", "(I)LFoundrymark$Supplier;"⟩
abbrev cX10_putLot : ByteArray := prog_1_method_43_code
def yX10_putLot : MethodName := ⟨RX10, "putLot", "(LFoundrymark$Part;IJ)LFoundrymark$Lot;"⟩
abbrev cX10_isBarred : ByteArray := prog_1_method_44_code
def yX10_isBarred : MethodName := ⟨RX10, "isBarred", "(LFoundrymark$Lot;)Z"⟩
abbrev cX10_putOnHold : ByteArray := prog_1_method_45_code
def yX10_putOnHold : MethodName := ⟨RX10, "putOnHold", "(LFoundrymark$Lot;)I"⟩
abbrev cX10_hasBarredPieces : ByteArray := prog_1_method_46_code
def yX10_hasBarredPieces : MethodName := ⟨RX10, "hasBarredPieces", "(LFoundrymark$Order;)Z"⟩
abbrev cX10_freePieces : ByteArray := prog_1_method_47_code
def yX10_freePieces : MethodName := ⟨RX10, "freePieces", "(LFoundrymark$Lot;)I"⟩
abbrev cX10_freePiecesOf : ByteArray := prog_1_method_48_code
def yX10_freePiecesOf : MethodName := ⟨RX10, "freePiecesOf", "(LFoundrymark$Part;)I"⟩
abbrev cX10_reserveAll : ByteArray := prog_1_method_49_code
def yX10_reserveAll : MethodName := ⟨RX10, "reserveAll", "(LFoundrymark$Order;)Z"⟩
abbrev cX10_reserve : ByteArray := prog_1_method_50_code
def yX10_reserve : MethodName := ⟨RX10, "reserve", "(LFoundrymark$Order;LFoundrymark$Component;)Z"⟩
abbrev cX10_dropPromise : ByteArray := prog_1_method_51_code
def yX10_dropPromise : MethodName := ⟨RX10, "dropPromise", "(LFoundrymark$Order;)I"⟩
abbrev cX10_takeReserved : ByteArray := prog_1_method_52_code
def yX10_takeReserved : MethodName := ⟨RX10, "takeReserved", "(LFoundrymark$Order;)V"⟩
abbrev cX10_sendOn : ByteArray := prog_1_method_53_code
def yX10_sendOn : MethodName := ⟨RX10, "sendOn", "(LFoundrymark$Order;)LFoundrymark$Machine;"⟩
abbrev cX10_chooseMachine : ByteArray := prog_1_method_54_code
def yX10_chooseMachine : MethodName := ⟨RX10, "chooseMachine", "(LFoundrymark$Operation;)LFoundrymark$Machine;"⟩
abbrev cX10_load : ByteArray := prog_1_method_55_code
def yX10_load : MethodName := ⟨RX10, "load", "(LFoundrymark$Machine;)I"⟩
abbrev cX10_countWaiting : ByteArray := prog_1_method_56_code
def yX10_countWaiting : MethodName := ⟨RX10, "countWaiting", "(LFoundrymark$Machine;)I"⟩
abbrev cX10_firstWaiting : ByteArray := prog_1_method_57_code
def yX10_firstWaiting : MethodName := ⟨RX10, "firstWaiting", "(LFoundrymark$Machine;)LFoundrymark$Order;"⟩
abbrev cX10_passTime : ByteArray := prog_1_method_58_code
def yX10_passTime : MethodName := ⟨RX10, "passTime", "()V"⟩
abbrev cX10_beginNext : ByteArray := prog_1_method_59_code
def yX10_beginNext : MethodName := ⟨RX10, "beginNext", "(LFoundrymark$Machine;)V"⟩
abbrev cX10_endWork : ByteArray := prog_1_method_60_code
def yX10_endWork : MethodName := ⟨RX10, "endWork", "(LFoundrymark$Machine;)V"⟩
abbrev cX10_finish : ByteArray := prog_1_method_61_code
def yX10_finish : MethodName := ⟨RX10, "finish", "(LFoundrymark$Order;)V"⟩
abbrev cX10_noteSources : ByteArray := prog_1_method_62_code
def yX10_noteSources : MethodName := ⟨RX10, "noteSources", "(LFoundrymark$Order;LFoundrymark$Lot;)V"⟩
abbrev cX10_takeForDelivery : ByteArray := prog_1_method_63_code
def yX10_takeForDelivery : MethodName := ⟨RX10, "takeForDelivery", "(LFoundrymark$Order;)V"⟩
abbrev cX10_deliverOf : ByteArray := prog_1_method_64_code
def yX10_deliverOf : MethodName := ⟨RX10, "deliverOf", "(LFoundrymark$Lot;ILFoundrymark$Order;)I"⟩
abbrev cX10_noteOrderOnLots : ByteArray := prog_1_method_65_code
def yX10_noteOrderOnLots : MethodName := ⟨RX10, "noteOrderOnLots", "(LFoundrymark$Order;)V"⟩
abbrev cX10_areLotsSound : ByteArray := prog_1_method_66_code
def yX10_areLotsSound : MethodName := ⟨RX10, "areLotsSound", "()Z"⟩
abbrev cX10_piecesIn : ByteArray := prog_1_method_67_code
def yX10_piecesIn : MethodName := ⟨RX10, "piecesIn", "(LFoundrymark$Lot;Z)I"⟩
abbrev cX10_areJobsSound : ByteArray := prog_1_method_68_code
def yX10_areJobsSound : MethodName := ⟨RX10, "areJobsSound", "()Z"⟩
abbrev cX10_areCostsSound : ByteArray := prog_1_method_69_code
def yX10_areCostsSound : MethodName := ⟨RX10, "areCostsSound", "()Z"⟩
abbrev cX10_arePromisesSound : ByteArray := prog_1_method_70_code
def yX10_arePromisesSound : MethodName := ⟨RX10, "arePromisesSound", "()Z"⟩
abbrev cX10_areTracesSound : ByteArray := prog_1_method_71_code
def yX10_areTracesSound : MethodName := ⟨RX10, "areTracesSound", "()Z"⟩
abbrev cX10_isTraceSound : ByteArray := prog_1_method_72_code
def yX10_isTraceSound : MethodName := ⟨RX10, "isTraceSound", "(LFoundrymark$Lot;)Z"⟩
def RX11 : String := "FoundrymarkModel$Lot"
def TX11 : u_T := fun k => match k with
  | 0 => ("FoundrymarkModel$Lot", "number", "I", true)
  | 1 => ("FoundrymarkModel$Lot", "part", "I", true)
  | 2 => ("FoundrymarkModel$Lot", "rest", "I", false)
  | 3 => ("FoundrymarkModel$Lot", "reserved", "I", false)
  | 4 => ("FoundrymarkModel$Lot", "cost", "J", false)
  | 5 => ("FoundrymarkModel$Lot", "isOnHold", "Z", false)
  | _ => ("FoundrymarkModel$Lot", "of", "Ljava/util/ArrayList;", true)
def tyX11 : Nat → FieldType := fun k => match k with
  | 0 => .int
  | 1 => .int
  | 2 => .int
  | 3 => .int
  | 4 => .long
  | 5 => .boolean
  | _ => .object "java/util/ArrayList"
theorem nmX11 : ∀ a, a < 7 → ∀ b, b < 7 → a ≠ b → (TX11 a).2.1 ≠ (TX11 b).2.1 := by decide +kernel
theorem tyX11_ok : ∀ k, k < 7 → parseFieldDescriptor (TX11 k).2.2.1 = some (tyX11 k) := by decide +kernel
abbrev cX11_init : ByteArray := prog_14_method_1_code
def yX11_init : MethodName := ⟨RX11, "<init>", "(IIIJ)V"⟩
abbrev cX11_isHeld : ByteArray := prog_14_method_2_code
def yX11_isHeld : MethodName := ⟨RX11, "isHeld", "()Z"⟩
abbrev cX11_has : ByteArray := prog_14_method_3_code
def yX11_has : MethodName := ⟨RX11, "has", "(LFoundrymarkModel$Lot;)Z"⟩
def RX12 : String := "FoundrymarkModel$Machine"
def TX12 : u_T := fun k => match k with
  | 0 => ("FoundrymarkModel$Machine", "rate", "I", true)
  | 1 => ("FoundrymarkModel$Machine", "setup", "I", true)
  | 2 => ("FoundrymarkModel$Machine", "life", "I", true)
  | 3 => ("FoundrymarkModel$Machine", "repair", "I", true)
  | 4 => ("FoundrymarkModel$Machine", "family", "I", false)
  | 5 => ("FoundrymarkModel$Machine", "wear", "I", false)
  | 6 => ("FoundrymarkModel$Machine", "state", "C", false)
  | 7 => ("FoundrymarkModel$Machine", "ends", "I", false)
  | 8 => ("FoundrymarkModel$Machine", "began", "I", false)
  | 9 => ("FoundrymarkModel$Machine", "order", "LFoundrymarkModel$Order;", false)
  | _ => ("FoundrymarkModel$Machine", "busy", "I", false)
def tyX12 : Nat → FieldType := fun k => match k with
  | 0 => .int
  | 1 => .int
  | 2 => .int
  | 3 => .int
  | 4 => .int
  | 5 => .int
  | 6 => .char
  | 7 => .int
  | 8 => .int
  | 9 => .object "FoundrymarkModel$Order"
  | _ => .int
theorem nmX12 : ∀ a, a < 11 → ∀ b, b < 11 → a ≠ b → (TX12 a).2.1 ≠ (TX12 b).2.1 := by decide +kernel
theorem tyX12_ok : ∀ k, k < 11 → parseFieldDescriptor (TX12 k).2.2.1 = some (tyX12 k) := by decide +kernel
abbrev cX12_init : ByteArray := prog_15_method_1_code
def yX12_init : MethodName := ⟨RX12, "<init>", "(IIII)V"⟩
def RX13 : String := "FoundrymarkModel$Order"
def TX13 : u_T := fun k => match k with
  | 0 => ("FoundrymarkModel$Order", "number", "I", true)
  | 1 => ("FoundrymarkModel$Order", "part", "I", true)
  | 2 => ("FoundrymarkModel$Order", "quantity", "I", true)
  | 3 => ("FoundrymarkModel$Order", "option", "I", true)
  | 4 => ("FoundrymarkModel$Order", "due", "I", true)
  | 5 => ("FoundrymarkModel$Order", "state", "C", false)
  | 6 => ("FoundrymarkModel$Order", "lots", "Ljava/util/ArrayList;", true)
  | 7 => ("FoundrymarkModel$Order", "pieces", "Ljava/util/ArrayList;", true)
  | 8 => ("FoundrymarkModel$Order", "left", "I", false)
  | 9 => ("FoundrymarkModel$Order", "operation", "I", false)
  | 10 => ("FoundrymarkModel$Order", "machine", "I", false)
  | 11 => ("FoundrymarkModel$Order", "cost", "J", false)
  | 12 => ("FoundrymarkModel$Order", "made", "LFoundrymarkModel$Lot;", false)
  | 13 => ("FoundrymarkModel$Order", "finished", "I", false)
  | 14 => ("FoundrymarkModel$Order", "delivered", "I", false)
  | 15 => ("FoundrymarkModel$Order", "deliveredCost", "J", false)
  | _ => ("FoundrymarkModel$Order", "given", "Ljava/util/ArrayList;", true)
def tyX13 : Nat → FieldType := fun k => match k with
  | 0 => .int
  | 1 => .int
  | 2 => .int
  | 3 => .int
  | 4 => .int
  | 5 => .char
  | 6 => .object "java/util/ArrayList"
  | 7 => .object "java/util/ArrayList"
  | 8 => .int
  | 9 => .int
  | 10 => .int
  | 11 => .long
  | 12 => .object "FoundrymarkModel$Lot"
  | 13 => .int
  | 14 => .int
  | 15 => .long
  | _ => .object "java/util/ArrayList"
theorem nmX13 : ∀ a, a < 17 → ∀ b, b < 17 → a ≠ b → (TX13 a).2.1 ≠ (TX13 b).2.1 := by decide +kernel
theorem tyX13_ok : ∀ k, k < 17 → parseFieldDescriptor (TX13 k).2.2.1 = some (tyX13 k) := by decide +kernel
abbrev cX13_init : ByteArray := prog_16_method_1_code
def yX13_init : MethodName := ⟨RX13, "<init>", "(IIIII)V"⟩
abbrev cX13_isReleased : ByteArray := prog_16_method_2_code
def yX13_isReleased : MethodName := ⟨RX13, "isReleased", "()Z"⟩
def RX14 : String := "FoundrymarkModel$Part"
def TX14 : u_T := fun k => match k with
  | 0 => ("FoundrymarkModel$Part", "isMade", "Z", true)
  | 1 => ("FoundrymarkModel$Part", "family", "I", true)
  | 2 => ("FoundrymarkModel$Part", "components", "Ljava/util/ArrayList;", true)
  | 3 => ("FoundrymarkModel$Part", "operations", "Ljava/util/ArrayList;", true)
  | 4 => ("FoundrymarkModel$Part", "centre", "I", false)
  | 5 => ("FoundrymarkModel$Part", "width", "I", false)
  | 6 => ("FoundrymarkModel$Part", "above", "I", false)
  | 7 => ("FoundrymarkModel$Part", "below", "I", false)
  | _ => ("FoundrymarkModel$Part", "measured", "I", false)
def tyX14 : Nat → FieldType := fun k => match k with
  | 0 => .boolean
  | 1 => .int
  | 2 => .object "java/util/ArrayList"
  | 3 => .object "java/util/ArrayList"
  | 4 => .int
  | 5 => .int
  | 6 => .int
  | 7 => .int
  | _ => .int
theorem nmX14 : ∀ a, a < 9 → ∀ b, b < 9 → a ≠ b → (TX14 a).2.1 ≠ (TX14 b).2.1 := by decide +kernel
theorem tyX14_ok : ∀ k, k < 9 → parseFieldDescriptor (TX14 k).2.2.1 = some (tyX14 k) := by decide +kernel
abbrev cX14_init : ByteArray := prog_17_method_1_code
def yX14_init : MethodName := ⟨RX14, "<init>", "(ZI)V"⟩
def RX15 : String := "FoundrymarkModel"
def TX15 : u_T := fun k => match k with
  | 0 => ("FoundrymarkModel", "thrown", "I", false)
  | 1 => ("FoundrymarkModel", "machines", "Ljava/util/ArrayList;", true)
  | 2 => ("FoundrymarkModel", "parts", "Ljava/util/ArrayList;", true)
  | 3 => ("FoundrymarkModel", "lots", "Ljava/util/ArrayList;", true)
  | 4 => ("FoundrymarkModel", "orders", "Ljava/util/ArrayList;", true)
  | 5 => ("FoundrymarkModel", "bought", "I", false)
  | 6 => ("FoundrymarkModel", "rules", "[C", true)
  | 7 => ("FoundrymarkModel", "refused", "Ljava/util/ArrayList;", true)
  | _ => ("FoundrymarkModel", "time", "I", false)
def tyX15 : Nat → FieldType := fun k => match k with
  | 0 => .int
  | 1 => .object "java/util/ArrayList"
  | 2 => .object "java/util/ArrayList"
  | 3 => .object "java/util/ArrayList"
  | 4 => .object "java/util/ArrayList"
  | 5 => .int
  | 6 => .array .char
  | 7 => .object "java/util/ArrayList"
  | _ => .int
theorem nmX15 : ∀ a, a < 9 → ∀ b, b < 9 → a ≠ b → (TX15 a).2.1 ≠ (TX15 b).2.1 := by decide +kernel
theorem tyX15_ok : ∀ k, k < 9 → parseFieldDescriptor (TX15 k).2.2.1 = some (tyX15 k) := by decide +kernel
abbrev cX15_init : ByteArray := prog_13_method_1_code
def yX15_init : MethodName := ⟨RX15, "<init>", "()V"⟩
abbrev cX15_thrown : ByteArray := prog_13_method_2_code
def yX15_thrown : MethodName := ⟨RX15, "thrown", "()I"⟩
abbrev cX15_fails : ByteArray := prog_13_method_3_code
def yX15_fails : MethodName := ⟨RX15, "fails", "(I)Z"⟩
abbrev cX15_in : ByteArray := prog_13_method_4_code
def yX15_in : MethodName := ⟨RX15, "in", "(III)Z"⟩
abbrev cX15_addMachine : ByteArray := prog_13_method_5_code
def yX15_addMachine : MethodName := ⟨RX15, "addMachine", "(IIII)I"⟩
abbrev cX15_addPart : ByteArray := prog_13_method_6_code
def yX15_addPart : MethodName := ⟨RX15, "addPart", "(ZI)I"⟩
abbrev cX15_isPart : ByteArray := prog_13_method_7_code
def yX15_isPart : MethodName := ⟨RX15, "isPart", "(I)Z"⟩
abbrev cX15_addComponent : ByteArray := prog_13_method_8_code
def yX15_addComponent : MethodName := ⟨RX15, "addComponent", "(IIII)I"⟩
abbrev cX15_isMachine : ByteArray := prog_13_method_9_code
def yX15_isMachine : MethodName := ⟨RX15, "isMachine", "(I)Z"⟩
abbrev cX15_addOperation : ByteArray := prog_13_method_10_code
def yX15_addOperation : MethodName := ⟨RX15, "addOperation", "(IIII)I"⟩
abbrev cX15_lot : ByteArray := prog_13_method_11_code
def yX15_lot : MethodName := ⟨RX15, "lot", "(IIJ)LFoundrymarkModel$Lot;"⟩
abbrev cX15_receive : ByteArray := prog_13_method_12_code
def yX15_receive : MethodName := ⟨RX15, "receive", "(IIIII)I"⟩
abbrev cX15_among : ByteArray := prog_13_method_13_code
def yX15_among : MethodName := ⟨RX15, "among", "(Ljava/util/ArrayList;IZ)I"⟩
abbrev cX15_rule : ByteArray := prog_13_method_14_code
def yX15_rule : MethodName := ⟨RX15, "rule", "(I)C"⟩
abbrev cX15_failsLot : ByteArray := prog_13_method_15_code
def yX15_failsLot : MethodName := ⟨RX15, "failsLot", "(I)Z"⟩
abbrev cX15_lose : ByteArray := prog_13_method_16_code
def yX15_lose : MethodName := ⟨RX15, "lose", "()I"⟩
abbrev cX15_free : ByteArray := prog_13_method_17_code
def yX15_free : MethodName := ⟨RX15, "free", "(LFoundrymarkModel$Order;)I"⟩
abbrev cX15_hold : ByteArray := prog_13_method_18_code
def yX15_hold : MethodName := ⟨RX15, "hold", "(IZ)I"⟩
abbrev cX15_isHeld : ByteArray := prog_13_method_19_code
def yX15_isHeld : MethodName := ⟨RX15, "isHeld", "(I)Z"⟩
abbrev cX15_setChart : ByteArray := prog_13_method_20_code
def yX15_setChart : MethodName := ⟨RX15, "setChart", "(III)I"⟩
abbrev cX15_measure : ByteArray := prog_13_method_21_code
def yX15_measure : MethodName := ⟨RX15, "measure", "(II)Z"⟩
abbrev cX15_lots : ByteArray := prog_13_method_22_code
def yX15_lots : MethodName := ⟨RX15, "lots", "()I"⟩
abbrev cX15_partOf : ByteArray := prog_13_method_23_code
def yX15_partOf : MethodName := ⟨RX15, "partOf", "(I)I"⟩
abbrev cX15_rest : ByteArray := prog_13_method_24_code
def yX15_rest : MethodName := ⟨RX15, "rest", "(I)I"⟩
abbrev cX15_reserved : ByteArray := prog_13_method_25_code
def yX15_reserved : MethodName := ⟨RX15, "reserved", "(I)I"⟩
abbrev cX15_costOf : ByteArray := prog_13_method_26_code
def yX15_costOf : MethodName := ⟨RX15, "costOf", "(I)J"⟩
abbrev cX15_order : ByteArray := prog_13_method_27_code
def yX15_order : MethodName := ⟨RX15, "order", "(IIII)I"⟩
abbrev cX15_failsOrder : ByteArray := prog_13_method_28_code
def yX15_failsOrder : MethodName := ⟨RX15, "failsOrder", "(I)Z"⟩
abbrev cX15_reserve : ByteArray := prog_13_method_29_code
def yX15_reserve : MethodName := ⟨RX15, "reserve", "(LFoundrymarkModel$Order;)Z"⟩
abbrev cX15_promise : ByteArray := prog_13_method_30_code
def yX15_promise : MethodName := ⟨RX15, "promise", "(I)Z"⟩
abbrev cX15_withdraw : ByteArray := prog_13_method_31_code
def yX15_withdraw : MethodName := ⟨RX15, "withdraw", "(I)I"⟩
abbrev cX15_take : ByteArray := prog_13_method_32_code
def yX15_take : MethodName := ⟨RX15, "take", "(LFoundrymarkModel$Lot;I)J"⟩
abbrev cX15_release : ByteArray := prog_13_method_33_code
def yX15_release : MethodName := ⟨RX15, "release", "(I)Z"⟩
abbrev cX15_jobs : ByteArray := prog_13_method_34_code
def yX15_jobs : MethodName := ⟨RX15, "jobs", "(I)I"⟩
abbrev cX15_waits : ByteArray := prog_13_method_35_code
def yX15_waits : MethodName := ⟨RX15, "waits", "(I)I"⟩
abbrev cX15_goOn : ByteArray := prog_13_method_36_code
def yX15_goOn : MethodName := ⟨RX15, "goOn", "(LFoundrymarkModel$Order;)V"⟩
abbrev cX15_begin : ByteArray := prog_13_method_37_code
def yX15_begin : MethodName := ⟨RX15, "begin", "()V"⟩
abbrev cX15_end : ByteArray := prog_13_method_38_code
def yX15_end : MethodName := ⟨RX15, "end", "()V"⟩
abbrev cX15_scrap : ByteArray := prog_13_method_39_code
def yX15_scrap : MethodName := ⟨RX15, "scrap", "(II)I"⟩
abbrev cX15_advance : ByteArray := prog_13_method_40_code
def yX15_advance : MethodName := ⟨RX15, "advance", "(I)I"⟩
abbrev cX15_sources : ByteArray := prog_13_method_41_code
def yX15_sources : MethodName := ⟨RX15, "sources", "(LFoundrymarkModel$Order;)Ljava/util/ArrayList;"⟩
abbrev cX15_deliver : ByteArray := prog_13_method_42_code
def yX15_deliver : MethodName := ⟨RX15, "deliver", "(I)Z"⟩
abbrev cX15_stateOf : ByteArray := prog_13_method_43_code
def yX15_stateOf : MethodName := ⟨RX15, "stateOf", "(I)C"⟩
abbrev cX15_lotOf : ByteArray := prog_13_method_44_code
def yX15_lotOf : MethodName := ⟨RX15, "lotOf", "(I)I"⟩
abbrev cX15_finishedAt : ByteArray := prog_13_method_45_code
def yX15_finishedAt : MethodName := ⟨RX15, "finishedAt", "(I)I"⟩
abbrev cX15_failsMachine : ByteArray := prog_13_method_46_code
def yX15_failsMachine : MethodName := ⟨RX15, "failsMachine", "(I)Z"⟩
abbrev cX15_machineIs : ByteArray := prog_13_method_47_code
def yX15_machineIs : MethodName := ⟨RX15, "machineIs", "(I)C"⟩
abbrev cX15_wear : ByteArray := prog_13_method_48_code
def yX15_wear : MethodName := ⟨RX15, "wear", "(I)I"⟩
abbrev cX15_waiting : ByteArray := prog_13_method_49_code
def yX15_waiting : MethodName := ⟨RX15, "waiting", "(I)I"⟩
abbrev cX15_isIn : ByteArray := prog_13_method_50_code
def yX15_isIn : MethodName := ⟨RX15, "isIn", "(II)Z"⟩
abbrev cX15_isIn_ : ByteArray := prog_13_method_51_code
def yX15_isIn_ : MethodName := ⟨RX15, "isIn", "(LFoundrymarkModel$Lot;LFoundrymarkModel$Order;)Z"⟩
abbrev cX15_touched : ByteArray := prog_13_method_52_code
def yX15_touched : MethodName := ⟨RX15, "touched", "(I)I"⟩
abbrev cX15_lotsIn : ByteArray := prog_13_method_53_code
def yX15_lotsIn : MethodName := ⟨RX15, "lotsIn", "(I)I"⟩
abbrev cX15_deliveredCost : ByteArray := prog_13_method_54_code
def yX15_deliveredCost : MethodName := ⟨RX15, "deliveredCost", "(I)J"⟩
abbrev cX15_inTimeShare : ByteArray := prog_13_method_55_code
def yX15_inTimeShare : MethodName := ⟨RX15, "inTimeShare", "()F"⟩
abbrev cX15_meanBusy : ByteArray := prog_13_method_56_code
def yX15_meanBusy : MethodName := ⟨RX15, "meanBusy", "()D"⟩
abbrev cX15_isSound : ByteArray := prog_13_method_57_code
def yX15_isSound : MethodName := ⟨RX15, "isSound", "()Z"⟩
def RJx145de : String := "java/io/Serializable"
def TJx145de : u_T := fun k => match k with
  | _ => ("", "", "", false)
def tyJx145de : Nat → FieldType := fun k => match k with
  | _ => .int
theorem nmJx145de : ∀ a, a < 0 → ∀ b, b < 0 → a ≠ b → (TJx145de a).2.1 ≠ (TJx145de b).2.1 := by decide +kernel
theorem tyJx145de_ok : ∀ k, k < 0 → parseFieldDescriptor (TJx145de k).2.2.1 = some (tyJx145de k) := by decide +kernel
def RJx00060 : String := "java/lang/ArrayIndexOutOfBoundsException"
def TJx00060 : u_T := fun k => match k with
  | 0 => ("java/lang/Throwable", "backtrace", "Ljava/lang/Object;", false)
  | 1 => ("java/lang/Throwable", "detailMessage", "Ljava/lang/String;", false)
  | 2 => ("java/lang/Throwable", "cause", "Ljava/lang/Throwable;", false)
  | 3 => ("java/lang/Throwable", "stackTrace", "[Ljava/lang/StackTraceElement;", false)
  | 4 => ("java/lang/Throwable", "depth", "I", false)
  | _ => ("java/lang/Throwable", "suppressedExceptions", "Ljava/util/List;", false)
def tyJx00060 : Nat → FieldType := fun k => match k with
  | 0 => .object "java/lang/Object"
  | 1 => .object "java/lang/String"
  | 2 => .object "java/lang/Throwable"
  | 3 => .array (.object "java/lang/StackTraceElement")
  | 4 => .int
  | _ => .object "java/util/List"
theorem nmJx00060 : ∀ a, a < 6 → ∀ b, b < 6 → a ≠ b → (TJx00060 a).2.1 ≠ (TJx00060 b).2.1 := by decide +kernel
theorem tyJx00060_ok : ∀ k, k < 6 → parseFieldDescriptor (TJx00060 k).2.2.1 = some (tyJx00060 k) := by decide +kernel
abbrev cJx00060_init_a7421 : ByteArray := prog_20_method_2_code
def yJx00060_init_a7421 : MethodName := ⟨RJx00060, "<init>", "(Ljava/lang/String;)V"⟩
def RJ14 : String := "java/lang/Boolean"
def TJ14 : u_T := fun k => match k with
  | _ => ("", "", "", false)
def tyJ14 : Nat → FieldType := fun k => match k with
  | _ => .int
theorem nmJ14 : ∀ a, a < 0 → ∀ b, b < 0 → a ≠ b → (TJ14 a).2.1 ≠ (TJ14 b).2.1 := by decide +kernel
theorem tyJ14_ok : ∀ k, k < 0 → parseFieldDescriptor (TJ14 k).2.2.1 = some (tyJ14 k) := by decide +kernel
abbrev cJ14_booleanValue_aae02 : ByteArray := prog_21_method_4_code
def yJ14_booleanValue_aae02 : MethodName := ⟨RJ14, "booleanValue", "()Z"⟩
abbrev cJ14_valueOf_4531c : ByteArray := prog_21_method_5_code
def yJ14_valueOf_4531c : MethodName := ⟨RJ14, "valueOf", "(Z)Ljava/lang/Boolean;"⟩
def RJx8e188 : String := "java/lang/Cloneable"
def TJx8e188 : u_T := fun k => match k with
  | _ => ("", "", "", false)
def tyJx8e188 : Nat → FieldType := fun k => match k with
  | _ => .int
theorem nmJx8e188 : ∀ a, a < 0 → ∀ b, b < 0 → a ≠ b → (TJx8e188 a).2.1 ≠ (TJx8e188 b).2.1 := by decide +kernel
theorem tyJx8e188_ok : ∀ k, k < 0 → parseFieldDescriptor (TJx8e188 k).2.2.1 = some (tyJx8e188 k) := by decide +kernel
def RJxb160c : String := "java/lang/Comparable"
def TJxb160c : u_T := fun k => match k with
  | _ => ("", "", "", false)
def tyJxb160c : Nat → FieldType := fun k => match k with
  | _ => .int
theorem nmJxb160c : ∀ a, a < 0 → ∀ b, b < 0 → a ≠ b → (TJxb160c a).2.1 ≠ (TJxb160c b).2.1 := by decide +kernel
theorem tyJxb160c_ok : ∀ k, k < 0 → parseFieldDescriptor (TJxb160c k).2.2.1 = some (tyJxb160c k) := by decide +kernel
def RJxabbfe : String := "java/lang/Integer$IntegerCache"
def TJxabbfe : u_T := fun k => match k with
  | _ => ("", "", "", false)
def tyJxabbfe : Nat → FieldType := fun k => match k with
  | _ => .int
theorem nmJxabbfe : ∀ a, a < 0 → ∀ b, b < 0 → a ≠ b → (TJxabbfe a).2.1 ≠ (TJxabbfe b).2.1 := by decide +kernel
theorem tyJxabbfe_ok : ∀ k, k < 0 → parseFieldDescriptor (TJxabbfe k).2.2.1 = some (tyJxabbfe k) := by decide +kernel
def RJ6 : String := "java/lang/Integer"
def TJ6 : u_T := fun k => match k with
  | _ => ("java/lang/Integer", "value", "I", true)
def tyJ6 : Nat → FieldType := fun k => match k with
  | _ => .int
theorem nmJ6 : ∀ a, a < 1 → ∀ b, b < 1 → a ≠ b → (TJ6 a).2.1 ≠ (TJ6 b).2.1 := by decide +kernel
theorem tyJ6_ok : ∀ k, k < 1 → parseFieldDescriptor (TJ6 k).2.2.1 = some (tyJ6 k) := by decide +kernel
abbrev cJ6_valueOf_2dffe : ByteArray := prog_28_method_22_code
def yJ6_valueOf_2dffe : MethodName := ⟨RJ6, "valueOf", "(I)Ljava/lang/Integer;"⟩
abbrev cJ6_init_d00df : ByteArray := prog_28_method_23_code
def yJ6_init_d00df : MethodName := ⟨RJ6, "<init>", "(I)V"⟩
abbrev cJ6_intValue_8abf5 : ByteArray := prog_28_method_27_code
def yJ6_intValue_8abf5 : MethodName := ⟨RJ6, "intValue", "()I"⟩
abbrev cJ6_compare_7cf53 : ByteArray := prog_28_method_40_code
def yJ6_compare_7cf53 : MethodName := ⟨RJ6, "compare", "(II)I"⟩
abbrev cJ6_bitCount_0f7a4 : ByteArray := prog_28_method_49_code
def yJ6_bitCount_0f7a4 : MethodName := ⟨RJ6, "bitCount", "(I)I"⟩
def RJxab1ab : String := "java/lang/Iterable"
def TJxab1ab : u_T := fun k => match k with
  | _ => ("", "", "", false)
def tyJxab1ab : Nat → FieldType := fun k => match k with
  | _ => .int
theorem nmJxab1ab : ∀ a, a < 0 → ∀ b, b < 0 → a ≠ b → (TJxab1ab a).2.1 ≠ (TJxab1ab b).2.1 := by decide +kernel
theorem tyJxab1ab_ok : ∀ k, k < 0 → parseFieldDescriptor (TJxab1ab k).2.2.1 = some (tyJxab1ab k) := by decide +kernel
def RJ13 : String := "java/lang/Long"
def TJ13 : u_T := fun k => match k with
  | _ => ("", "", "", false)
def tyJ13 : Nat → FieldType := fun k => match k with
  | _ => .int
theorem nmJ13 : ∀ a, a < 0 → ∀ b, b < 0 → a ≠ b → (TJ13 a).2.1 ≠ (TJ13 b).2.1 := by decide +kernel
theorem tyJ13_ok : ∀ k, k < 0 → parseFieldDescriptor (TJ13 k).2.2.1 = some (tyJ13 k) := by decide +kernel
abbrev cJ13_bitCount_95d88 : ByteArray := prog_31_method_50_code
def yJ13_bitCount_95d88 : MethodName := ⟨RJ13, "bitCount", "(J)I"⟩
def RJ9 : String := "java/lang/Math"
def TJ9 : u_T := fun k => match k with
  | _ => ("", "", "", false)
def tyJ9 : Nat → FieldType := fun k => match k with
  | _ => .int
theorem nmJ9 : ∀ a, a < 0 → ∀ b, b < 0 → a ≠ b → (TJ9 a).2.1 ≠ (TJ9 b).2.1 := by decide +kernel
theorem tyJ9_ok : ∀ k, k < 0 → parseFieldDescriptor (TJ9 k).2.2.1 = some (tyJ9 k) := by decide +kernel
abbrev cJ9_abs_0f7a4 : ByteArray := prog_32_method_59_code
def yJ9_abs_0f7a4 : MethodName := ⟨RJ9, "abs", "(I)I"⟩
abbrev cJ9_max_7cf53 : ByteArray := prog_32_method_65_code
def yJ9_max_7cf53 : MethodName := ⟨RJ9, "max", "(II)I"⟩
abbrev cJ9_min_7cf53 : ByteArray := prog_32_method_69_code
def yJ9_min_7cf53 : MethodName := ⟨RJ9, "min", "(II)I"⟩
def RJxd2413 : String := "java/lang/Number"
def TJxd2413 : u_T := fun k => match k with
  | _ => ("", "", "", false)
def tyJxd2413 : Nat → FieldType := fun k => match k with
  | _ => .int
theorem nmJxd2413 : ∀ a, a < 0 → ∀ b, b < 0 → a ≠ b → (TJxd2413 a).2.1 ≠ (TJxd2413 b).2.1 := by decide +kernel
theorem tyJxd2413_ok : ∀ k, k < 0 → parseFieldDescriptor (TJxd2413 k).2.2.1 = some (tyJxd2413 k) := by decide +kernel
abbrev cJxd2413_init_da8c8 : ByteArray := prog_33_method_1_code
def yJxd2413_init_da8c8 : MethodName := ⟨RJxd2413, "<init>", "()V"⟩
def RJ0 : String := "java/lang/String"
def TJ0 : u_T := fun k => match k with
  | 0 => ("java/lang/String", "value", "[B", true)
  | _ => ("java/lang/String", "coder", "B", true)
def tyJ0 : Nat → FieldType := fun k => match k with
  | 0 => .array .byte
  | _ => .byte
theorem nmJ0 : ∀ a, a < 2 → ∀ b, b < 2 → a ≠ b → (TJ0 a).2.1 ≠ (TJ0 b).2.1 := by decide +kernel
theorem tyJ0_ok : ∀ k, k < 2 → parseFieldDescriptor (TJ0 k).2.2.1 = some (tyJ0 k) := by decide +kernel
def RJ10 : String := "java/lang/System"
def TJ10 : u_T := fun k => match k with
  | _ => ("", "", "", false)
def tyJ10 : Nat → FieldType := fun k => match k with
  | _ => .int
theorem nmJ10 : ∀ a, a < 0 → ∀ b, b < 0 → a ≠ b → (TJ10 a).2.1 ≠ (TJ10 b).2.1 := by decide +kernel
theorem tyJ10_ok : ∀ k, k < 0 → parseFieldDescriptor (TJ10 k).2.2.1 = some (tyJ10 k) := by decide +kernel
def RJxfd54e : String := "java/lang/constant/Constable"
def TJxfd54e : u_T := fun k => match k with
  | _ => ("", "", "", false)
def tyJxfd54e : Nat → FieldType := fun k => match k with
  | _ => .int
theorem nmJxfd54e : ∀ a, a < 0 → ∀ b, b < 0 → a ≠ b → (TJxfd54e a).2.1 ≠ (TJxfd54e b).2.1 := by decide +kernel
theorem tyJxfd54e_ok : ∀ k, k < 0 → parseFieldDescriptor (TJxfd54e k).2.2.1 = some (tyJxfd54e k) := by decide +kernel
def RJx3cf43 : String := "java/lang/constant/ConstantDesc"
def TJx3cf43 : u_T := fun k => match k with
  | _ => ("", "", "", false)
def tyJx3cf43 : Nat → FieldType := fun k => match k with
  | _ => .int
theorem nmJx3cf43 : ∀ a, a < 0 → ∀ b, b < 0 → a ≠ b → (TJx3cf43 a).2.1 ≠ (TJx3cf43 b).2.1 := by decide +kernel
theorem tyJx3cf43_ok : ∀ k, k < 0 → parseFieldDescriptor (TJx3cf43 k).2.2.1 = some (tyJx3cf43 k) := by decide +kernel
def RJxa1e45 : String := "java/util/AbstractCollection"
def TJxa1e45 : u_T := fun k => match k with
  | _ => ("", "", "", false)
def tyJxa1e45 : Nat → FieldType := fun k => match k with
  | _ => .int
theorem nmJxa1e45 : ∀ a, a < 0 → ∀ b, b < 0 → a ≠ b → (TJxa1e45 a).2.1 ≠ (TJxa1e45 b).2.1 := by decide +kernel
theorem tyJxa1e45_ok : ∀ k, k < 0 → parseFieldDescriptor (TJxa1e45 k).2.2.1 = some (tyJxa1e45 k) := by decide +kernel
abbrev cJxa1e45_init_da8c8 : ByteArray := prog_41_method_1_code
def yJxa1e45_init_da8c8 : MethodName := ⟨RJxa1e45, "<init>", "()V"⟩
def RJxc12de : String := "java/util/AbstractList"
def TJxc12de : u_T := fun k => match k with
  | _ => ("", "", "", false)
def tyJxc12de : Nat → FieldType := fun k => match k with
  | _ => .int
theorem nmJxc12de : ∀ a, a < 0 → ∀ b, b < 0 → a ≠ b → (TJxc12de a).2.1 ≠ (TJxc12de b).2.1 := by decide +kernel
theorem tyJxc12de_ok : ∀ k, k < 0 → parseFieldDescriptor (TJxc12de k).2.2.1 = some (tyJxc12de k) := by decide +kernel
abbrev cJxc12de_init_da8c8 : ByteArray := prog_42_method_1_code
def yJxc12de_init_da8c8 : MethodName := ⟨RJxc12de, "<init>", "()V"⟩
def RJx35411 : String := "java/util/ArrayList$Itr"
def TJx35411 : u_T := fun k => match k with
  | 0 => ("java/util/ArrayList$Itr", "cursor", "I", false)
  | 1 => ("java/util/ArrayList$Itr", "lastRet", "I", false)
  | 2 => ("java/util/ArrayList$Itr", "expectedModCount", "I", false)
  | _ => ("java/util/ArrayList$Itr", "this$0", "Ljava/util/ArrayList;", true)
def tyJx35411 : Nat → FieldType := fun k => match k with
  | 0 => .int
  | 1 => .int
  | 2 => .int
  | _ => .object "java/util/ArrayList"
theorem nmJx35411 : ∀ a, a < 4 → ∀ b, b < 4 → a ≠ b → (TJx35411 a).2.1 ≠ (TJx35411 b).2.1 := by decide +kernel
theorem tyJx35411_ok : ∀ k, k < 4 → parseFieldDescriptor (TJx35411 k).2.2.1 = some (tyJx35411 k) := by decide +kernel
abbrev cJx35411_init_45d68 : ByteArray := prog_44_method_1_code
def yJx35411_init_45d68 : MethodName := ⟨RJx35411, "<init>", "(Ljava/util/ArrayList;)V"⟩
abbrev cJx35411_hasNext_aae02 : ByteArray := prog_44_method_2_code
def yJx35411_hasNext_aae02 : MethodName := ⟨RJx35411, "hasNext", "()Z"⟩
abbrev cJx35411_next_0502b : ByteArray := prog_44_method_3_code
def yJx35411_next_0502b : MethodName := ⟨RJx35411, "next", "()Ljava/lang/Object;"⟩
abbrev cJx35411_checkForComodification_da8c8 : ByteArray := prog_44_method_6_code
def yJx35411_checkForComodification_da8c8 : MethodName := ⟨RJx35411, "checkForComodification", "()V"⟩
def RJx4a65c : String := "java/util/ArrayList"
def TJx4a65c : u_T := fun k => match k with
  | 0 => ("java/util/AbstractList", "modCount", "I", false)
  | 1 => ("java/util/ArrayList", "elementData", "[Ljava/lang/Object;", false)
  | _ => ("java/util/ArrayList", "size", "I", false)
def tyJx4a65c : Nat → FieldType := fun k => match k with
  | 0 => .int
  | 1 => .array (.object "java/lang/Object")
  | _ => .int
theorem nmJx4a65c : ∀ a, a < 3 → ∀ b, b < 3 → a ≠ b → (TJx4a65c a).2.1 ≠ (TJx4a65c b).2.1 := by decide +kernel
theorem tyJx4a65c_ok : ∀ k, k < 3 → parseFieldDescriptor (TJx4a65c k).2.2.1 = some (tyJx4a65c k) := by decide +kernel
abbrev cJx4a65c_init_da8c8 : ByteArray := prog_43_method_2_code
def yJx4a65c_init_da8c8 : MethodName := ⟨RJx4a65c, "<init>", "()V"⟩
abbrev cJx4a65c_grow_92f84 : ByteArray := prog_43_method_6_code
def yJx4a65c_grow_92f84 : MethodName := ⟨RJx4a65c, "grow", "(I)[Ljava/lang/Object;"⟩
abbrev cJx4a65c_grow_d5877 : ByteArray := prog_43_method_7_code
def yJx4a65c_grow_d5877 : MethodName := ⟨RJx4a65c, "grow", "()[Ljava/lang/Object;"⟩
abbrev cJx4a65c_size_8abf5 : ByteArray := prog_43_method_8_code
def yJx4a65c_size_8abf5 : MethodName := ⟨RJx4a65c, "size", "()I"⟩
abbrev cJx4a65c_isEmpty_aae02 : ByteArray := prog_43_method_9_code
def yJx4a65c_isEmpty_aae02 : MethodName := ⟨RJx4a65c, "isEmpty", "()Z"⟩
abbrev cJx4a65c_toArray_d5877 : ByteArray := prog_43_method_16_code
def yJx4a65c_toArray_d5877 : MethodName := ⟨RJx4a65c, "toArray", "()[Ljava/lang/Object;"⟩
abbrev cJx4a65c_elementData_915e3 : ByteArray := prog_43_method_18_code
def yJx4a65c_elementData_915e3 : MethodName := ⟨RJx4a65c, "elementData", "(I)Ljava/lang/Object;"⟩
abbrev cJx4a65c_get_915e3 : ByteArray := prog_43_method_20_code
def yJx4a65c_get_915e3 : MethodName := ⟨RJx4a65c, "get", "(I)Ljava/lang/Object;"⟩
abbrev cJx4a65c_add_72be8 : ByteArray := prog_43_method_24_code
def yJx4a65c_add_72be8 : MethodName := ⟨RJx4a65c, "add", "(Ljava/lang/Object;[Ljava/lang/Object;I)V"⟩
abbrev cJx4a65c_add_9ea2d : ByteArray := prog_43_method_25_code
def yJx4a65c_add_9ea2d : MethodName := ⟨RJx4a65c, "add", "(Ljava/lang/Object;)Z"⟩
abbrev cJx4a65c_clear_da8c8 : ByteArray := prog_43_method_40_code
def yJx4a65c_clear_da8c8 : MethodName := ⟨RJx4a65c, "clear", "()V"⟩
abbrev cJx4a65c_addAll_f0b43 : ByteArray := prog_43_method_41_code
def yJx4a65c_addAll_f0b43 : MethodName := ⟨RJx4a65c, "addAll", "(Ljava/util/Collection;)Z"⟩
abbrev cJx4a65c_iterator_32c93 : ByteArray := prog_43_method_55_code
def yJx4a65c_iterator_32c93 : MethodName := ⟨RJx4a65c, "iterator", "()Ljava/util/Iterator;"⟩
def RJ7 : String := "java/util/Arrays"
def TJ7 : u_T := fun k => match k with
  | _ => ("", "", "", false)
def tyJ7 : Nat → FieldType := fun k => match k with
  | _ => .int
theorem nmJ7 : ∀ a, a < 0 → ∀ b, b < 0 → a ≠ b → (TJ7 a).2.1 ≠ (TJ7 b).2.1 := by decide +kernel
theorem tyJ7_ok : ∀ k, k < 0 → parseFieldDescriptor (TJ7 k).2.2.1 = some (tyJ7 k) := by decide +kernel
abbrev cJ7_copyOf_1904c : ByteArray := prog_45_method_119_code
def yJ7_copyOf_1904c : MethodName := ⟨RJ7, "copyOf", "([Ljava/lang/Object;I)[Ljava/lang/Object;"⟩
abbrev cJ7_copyOf_6403c : ByteArray := prog_45_method_120_code
def yJ7_copyOf_6403c : MethodName := ⟨RJ7, "copyOf", "([Ljava/lang/Object;ILjava/lang/Class;)[Ljava/lang/Object;"⟩
def RJx5ef63 : String := "java/util/Collection"
def TJx5ef63 : u_T := fun k => match k with
  | _ => ("", "", "", false)
def tyJx5ef63 : Nat → FieldType := fun k => match k with
  | _ => .int
theorem nmJx5ef63 : ∀ a, a < 0 → ∀ b, b < 0 → a ≠ b → (TJx5ef63 a).2.1 ≠ (TJx5ef63 b).2.1 := by decide +kernel
theorem tyJx5ef63_ok : ∀ k, k < 0 → parseFieldDescriptor (TJx5ef63 k).2.2.1 = some (tyJx5ef63 k) := by decide +kernel
def RJx4d0d8 : String := "java/util/Iterator"
def TJx4d0d8 : u_T := fun k => match k with
  | _ => ("", "", "", false)
def tyJx4d0d8 : Nat → FieldType := fun k => match k with
  | _ => .int
theorem nmJx4d0d8 : ∀ a, a < 0 → ∀ b, b < 0 → a ≠ b → (TJx4d0d8 a).2.1 ≠ (TJx4d0d8 b).2.1 := by decide +kernel
theorem tyJx4d0d8_ok : ∀ k, k < 0 → parseFieldDescriptor (TJx4d0d8 k).2.2.1 = some (tyJx4d0d8 k) := by decide +kernel
def RJxbd725 : String := "java/util/List"
def TJxbd725 : u_T := fun k => match k with
  | _ => ("", "", "", false)
def tyJxbd725 : Nat → FieldType := fun k => match k with
  | _ => .int
theorem nmJxbd725 : ∀ a, a < 0 → ∀ b, b < 0 → a ≠ b → (TJxbd725 a).2.1 ≠ (TJxbd725 b).2.1 := by decide +kernel
theorem tyJxbd725_ok : ∀ k, k < 0 → parseFieldDescriptor (TJxbd725 k).2.2.1 = some (tyJxbd725 k) := by decide +kernel
def RJ15 : String := "java/util/Objects"
def TJ15 : u_T := fun k => match k with
  | _ => ("", "", "", false)
def tyJ15 : Nat → FieldType := fun k => match k with
  | _ => .int
theorem nmJ15 : ∀ a, a < 0 → ∀ b, b < 0 → a ≠ b → (TJ15 a).2.1 ≠ (TJ15 b).2.1 := by decide +kernel
theorem tyJ15_ok : ∀ k, k < 0 → parseFieldDescriptor (TJ15 k).2.2.1 = some (tyJ15 k) := by decide +kernel
abbrev cJ15_checkIndex_7cf53 : ByteArray := prog_50_method_17_code
def yJ15_checkIndex_7cf53 : MethodName := ⟨RJ15, "checkIndex", "(II)I"⟩
def RJxf0a74 : String := "java/util/RandomAccess"
def TJxf0a74 : u_T := fun k => match k with
  | _ => ("", "", "", false)
def tyJxf0a74 : Nat → FieldType := fun k => match k with
  | _ => .int
theorem nmJxf0a74 : ∀ a, a < 0 → ∀ b, b < 0 → a ≠ b → (TJxf0a74 a).2.1 ≠ (TJxf0a74 b).2.1 := by decide +kernel
theorem tyJxf0a74_ok : ∀ k, k < 0 → parseFieldDescriptor (TJxf0a74 k).2.2.1 = some (tyJxf0a74 k) := by decide +kernel
def RJxa66e6 : String := "java/util/SequencedCollection"
def TJxa66e6 : u_T := fun k => match k with
  | _ => ("", "", "", false)
def tyJxa66e6 : Nat → FieldType := fun k => match k with
  | _ => .int
theorem nmJxa66e6 : ∀ a, a < 0 → ∀ b, b < 0 → a ≠ b → (TJxa66e6 a).2.1 ≠ (TJxa66e6 b).2.1 := by decide +kernel
theorem tyJxa66e6_ok : ∀ k, k < 0 → parseFieldDescriptor (TJxa66e6 k).2.2.1 = some (tyJxa66e6 k) := by decide +kernel
def RJ8 : String := "jdk/internal/util/ArraysSupport"
def TJ8 : u_T := fun k => match k with
  | _ => ("", "", "", false)
def tyJ8 : Nat → FieldType := fun k => match k with
  | _ => .int
theorem nmJ8 : ∀ a, a < 0 → ∀ b, b < 0 → a ≠ b → (TJ8 a).2.1 ≠ (TJ8 b).2.1 := by decide +kernel
theorem tyJ8_ok : ∀ k, k < 0 → parseFieldDescriptor (TJ8 k).2.2.1 = some (tyJ8 k) := by decide +kernel
abbrev cJ8_newLength_cabcc : ByteArray := prog_53_method_27_code
def yJ8_newLength_cabcc : MethodName := ⟨RJ8, "newLength", "(III)I"⟩
abbrev cJ8_hugeLength_7cf53 : ByteArray := prog_53_method_28_code
def yJ8_hugeLength_7cf53 : MethodName := ⟨RJ8, "hugeLength", "(II)I"⟩
def RJ3 : String := "jdk/internal/util/Preconditions"
def TJ3 : u_T := fun k => match k with
  | _ => ("", "", "", false)
def tyJ3 : Nat → FieldType := fun k => match k with
  | _ => .int
theorem nmJ3 : ∀ a, a < 0 → ∀ b, b < 0 → a ≠ b → (TJ3 a).2.1 ≠ (TJ3 b).2.1 := by decide +kernel
theorem tyJ3_ok : ∀ k, k < 0 → parseFieldDescriptor (TJ3 k).2.2.1 = some (tyJ3 k) := by decide +kernel
abbrev cJ3_checkIndex_8e157 : ByteArray := prog_54_method_11_code
def yJ3_checkIndex_8e157 : MethodName := ⟨RJ3, "checkIndex", "(IILjava/util/function/BiFunction;)I"⟩
def RL : String := "FoundrymarkLaw"
abbrev cL_addMachine : ByteArray := method_3_code
def yL_addMachine : MethodName := ⟨RL, "addMachine", "(LFoundrymark;IIII[J)I"⟩
abbrev cL_addPart : ByteArray := method_4_code
def yL_addPart : MethodName := ⟨RL, "addPart", "(LFoundrymark;ZI[J)I"⟩
abbrev cL_addComponent : ByteArray := method_5_code
def yL_addComponent : MethodName := ⟨RL, "addComponent", "(LFoundrymark;IIII[J)I"⟩
abbrev cL_addOperation : ByteArray := method_6_code
def yL_addOperation : MethodName := ⟨RL, "addOperation", "(LFoundrymark;IIII[J)I"⟩
abbrev cL_receive : ByteArray := method_7_code
def yL_receive : MethodName := ⟨RL, "receive", "(LFoundrymark;IIIII[J)I"⟩
abbrev cL_rule : ByteArray := method_8_code
def yL_rule : MethodName := ⟨RL, "rule", "(LFoundrymark;I[J)I"⟩
abbrev cL_hold : ByteArray := method_9_code
def yL_hold : MethodName := ⟨RL, "hold", "(LFoundrymark;IZ[J)I"⟩
abbrev cL_isHeld : ByteArray := method_10_code
def yL_isHeld : MethodName := ⟨RL, "isHeld", "(LFoundrymark;I[J)I"⟩
abbrev cL_setChart : ByteArray := method_11_code
def yL_setChart : MethodName := ⟨RL, "setChart", "(LFoundrymark;III[J)I"⟩
abbrev cL_measure : ByteArray := method_12_code
def yL_measure : MethodName := ⟨RL, "measure", "(LFoundrymark;II[J)I"⟩
abbrev cL_partOf : ByteArray := method_13_code
def yL_partOf : MethodName := ⟨RL, "partOf", "(LFoundrymark;I[J)I"⟩
abbrev cL_rest : ByteArray := method_14_code
def yL_rest : MethodName := ⟨RL, "rest", "(LFoundrymark;I[J)I"⟩
abbrev cL_reserved : ByteArray := method_15_code
def yL_reserved : MethodName := ⟨RL, "reserved", "(LFoundrymark;I[J)I"⟩
abbrev cL_costOf : ByteArray := method_16_code
def yL_costOf : MethodName := ⟨RL, "costOf", "(LFoundrymark;I[J)I"⟩
abbrev cL_order : ByteArray := method_17_code
def yL_order : MethodName := ⟨RL, "order", "(LFoundrymark;IIII[J)I"⟩
abbrev cL_promise : ByteArray := method_18_code
def yL_promise : MethodName := ⟨RL, "promise", "(LFoundrymark;I[J)I"⟩
abbrev cL_withdraw : ByteArray := method_19_code
def yL_withdraw : MethodName := ⟨RL, "withdraw", "(LFoundrymark;I[J)I"⟩
abbrev cL_release : ByteArray := method_20_code
def yL_release : MethodName := ⟨RL, "release", "(LFoundrymark;I[J)I"⟩
abbrev cL_scrap : ByteArray := method_21_code
def yL_scrap : MethodName := ⟨RL, "scrap", "(LFoundrymark;II[J)I"⟩
abbrev cL_advance : ByteArray := method_22_code
def yL_advance : MethodName := ⟨RL, "advance", "(LFoundrymark;I[J)I"⟩
abbrev cL_deliver : ByteArray := method_23_code
def yL_deliver : MethodName := ⟨RL, "deliver", "(LFoundrymark;I[J)I"⟩
abbrev cL_stateOf : ByteArray := method_24_code
def yL_stateOf : MethodName := ⟨RL, "stateOf", "(LFoundrymark;I[J)I"⟩
abbrev cL_lotOf : ByteArray := method_25_code
def yL_lotOf : MethodName := ⟨RL, "lotOf", "(LFoundrymark;I[J)I"⟩
abbrev cL_finishedAt : ByteArray := method_26_code
def yL_finishedAt : MethodName := ⟨RL, "finishedAt", "(LFoundrymark;I[J)I"⟩
abbrev cL_machineIs : ByteArray := method_27_code
def yL_machineIs : MethodName := ⟨RL, "machineIs", "(LFoundrymark;I[J)I"⟩
abbrev cL_wear : ByteArray := method_28_code
def yL_wear : MethodName := ⟨RL, "wear", "(LFoundrymark;I[J)I"⟩
abbrev cL_waiting : ByteArray := method_29_code
def yL_waiting : MethodName := ⟨RL, "waiting", "(LFoundrymark;I[J)I"⟩
abbrev cL_isIn : ByteArray := method_30_code
def yL_isIn : MethodName := ⟨RL, "isIn", "(LFoundrymark;II[J)I"⟩
abbrev cL_touched : ByteArray := method_31_code
def yL_touched : MethodName := ⟨RL, "touched", "(LFoundrymark;I[J)I"⟩
abbrev cL_lotsIn : ByteArray := method_32_code
def yL_lotsIn : MethodName := ⟨RL, "lotsIn", "(LFoundrymark;I[J)I"⟩
abbrev cL_deliveredCost : ByteArray := method_33_code
def yL_deliveredCost : MethodName := ⟨RL, "deliveredCost", "(LFoundrymark;I[J)I"⟩
abbrev cL_inTimeShare : ByteArray := method_34_code
def yL_inTimeShare : MethodName := ⟨RL, "inTimeShare", "(LFoundrymark;[D)I"⟩
abbrev cL_meanBusy : ByteArray := method_35_code
def yL_meanBusy : MethodName := ⟨RL, "meanBusy", "(LFoundrymark;[D)I"⟩
abbrev cL_law : ByteArray := code
def yL_law : MethodName := ⟨RL, "law", "([I)Z"⟩
abbrev vwCl : List vw_C := [(RJ0, TJ0, 2), (RJ6, TJ6, 1), (RJx00060, TJx00060, 6), (RJx35411, TJx35411, 4), (RJx4a65c, TJx4a65c, 3), (RX0, TX0, 5), (RX1, TX1, 3), (RX2, TX2, 7), (RX3, TX3, 10), (RX4, TX4, 11), (RX5, TX5, 2), (RX6, TX6, 3), (RX7, TX7, 12), (RX8, TX8, 8), (RX9, TX9, 3), (RX10, TX10, 14), (RX11, TX11, 7), (RX12, TX12, 11), (RX13, TX13, 17), (RX14, TX14, 9), (RX15, TX15, 9)]
end
section
/-! decode rows of the methods that are walked (printed by TURN) -/
theorem dX0_init_0 : decode cX0_init 0 = .ok (.aload_n 0, 1) := by decide +kernel
theorem dX0_init_1 : decode cX0_init 1 = .ok (.invokespecial 1, 3) := by decide +kernel
theorem dX0_init_4 : decode cX0_init 4 = .ok (.aload_n 0, 1) := by decide +kernel
theorem dX0_init_5 : decode cX0_init 5 = .ok (.bipush 100, 2) := by decide +kernel
theorem dX0_init_7 : decode cX0_init 7 = .ok (.putfield 7, 3) := by decide +kernel
theorem dX0_init_10 : decode cX0_init 10 = .ok (.aload_n 0, 1) := by decide +kernel
theorem dX0_init_11 : decode cX0_init 11 = .ok (.bipush 10, 2) := by decide +kernel
theorem dX0_init_13 : decode cX0_init 13 = .ok (.putfield 13, 3) := by decide +kernel
theorem dX0_init_16 : decode cX0_init 16 = .ok (.return_, 1) := by decide +kernel
theorem dX10_addComponent_0 : decode cX10_addComponent 0 = .ok (.aload_n 0, 1) := by decide +kernel
theorem dX10_addComponent_1 : decode cX10_addComponent 1 = .ok (.iload_n 1, 1) := by decide +kernel
theorem dX10_addComponent_2 : decode cX10_addComponent 2 = .ok (.invokevirtual 80, 3) := by decide +kernel
theorem dX10_addComponent_5 : decode cX10_addComponent 5 = .ok (.astore 5, 2) := by decide +kernel
theorem dX10_addComponent_7 : decode cX10_addComponent 7 = .ok (.aload_n 0, 1) := by decide +kernel
theorem dX10_addComponent_8 : decode cX10_addComponent 8 = .ok (.iload_n 2, 1) := by decide +kernel
theorem dX10_addComponent_9 : decode cX10_addComponent 9 = .ok (.invokevirtual 80, 3) := by decide +kernel
theorem dX10_addComponent_12 : decode cX10_addComponent 12 = .ok (.astore 6, 2) := by decide +kernel
theorem dX10_addComponent_14 : decode cX10_addComponent 14 = .ok (.aload 5, 2) := by decide +kernel
theorem dX10_addComponent_16 : decode cX10_addComponent 16 = .ok (.getfield 84, 3) := by decide +kernel
theorem dX10_addComponent_19 : decode cX10_addComponent 19 = .ok (.ifCond .eq 8, 3) := by decide +kernel
theorem dX10_addComponent_22 : decode cX10_addComponent 22 = .ok (.iload_n 2, 1) := by decide +kernel
theorem dX10_addComponent_23 : decode cX10_addComponent 23 = .ok (.iload_n 1, 1) := by decide +kernel
theorem dX10_addComponent_24 : decode cX10_addComponent 24 = .ok (.if_icmp .lt 13, 3) := by decide +kernel
theorem dX10_addComponent_27 : decode cX10_addComponent 27 = .ok (.new 88, 3) := by decide +kernel
theorem dX10_addComponent_30 : decode cX10_addComponent 30 = .ok (.dup, 1) := by decide +kernel
theorem dX10_addComponent_31 : decode cX10_addComponent 31 = .ok (.ldc 90, 2) := by decide +kernel
theorem dX10_addComponent_33 : decode cX10_addComponent 33 = .ok (.invokespecial 92, 3) := by decide +kernel
theorem dX10_addComponent_36 : decode cX10_addComponent 36 = .ok (.athrow, 1) := by decide +kernel
theorem dX10_addComponent_37 : decode cX10_addComponent 37 = .ok (.iload_n 3, 1) := by decide +kernel
theorem dX10_addComponent_38 : decode cX10_addComponent 38 = .ok (.iconst 1, 1) := by decide +kernel
theorem dX10_addComponent_39 : decode cX10_addComponent 39 = .ok (.bipush 9, 2) := by decide +kernel
theorem dX10_addComponent_41 : decode cX10_addComponent 41 = .ok (.invokestatic 47, 3) := by decide +kernel
theorem dX10_addComponent_44 : decode cX10_addComponent 44 = .ok (.ifCond .eq 13, 3) := by decide +kernel
theorem dX10_addComponent_47 : decode cX10_addComponent 47 = .ok (.iload 4, 2) := by decide +kernel
theorem dX10_addComponent_49 : decode cX10_addComponent 49 = .ok (.iconst (-1), 1) := by decide +kernel
theorem dX10_addComponent_50 : decode cX10_addComponent 50 = .ok (.iconst 2, 1) := by decide +kernel
theorem dX10_addComponent_51 : decode cX10_addComponent 51 = .ok (.invokestatic 47, 3) := by decide +kernel
theorem dX10_addComponent_54 : decode cX10_addComponent 54 = .ok (.ifCond .ne 13, 3) := by decide +kernel
theorem dX10_addComponent_57 : decode cX10_addComponent 57 = .ok (.new 51, 3) := by decide +kernel
theorem dX10_addComponent_60 : decode cX10_addComponent 60 = .ok (.dup, 1) := by decide +kernel
theorem dX10_addComponent_61 : decode cX10_addComponent 61 = .ok (.ldc 93, 2) := by decide +kernel
theorem dX10_addComponent_63 : decode cX10_addComponent 63 = .ok (.invokespecial 55, 3) := by decide +kernel
theorem dX10_addComponent_66 : decode cX10_addComponent 66 = .ok (.athrow, 1) := by decide +kernel
theorem dX10_addComponent_67 : decode cX10_addComponent 67 = .ok (.aload 5, 2) := by decide +kernel
theorem dX10_addComponent_69 : decode cX10_addComponent 69 = .ok (.invokevirtual 95, 3) := by decide +kernel
theorem dX10_addComponent_72 : decode cX10_addComponent 72 = .ok (.ifCond .ne 13, 3) := by decide +kernel
theorem dX10_addComponent_75 : decode cX10_addComponent 75 = .ok (.new 62, 3) := by decide +kernel
theorem dX10_addComponent_78 : decode cX10_addComponent 78 = .ok (.dup, 1) := by decide +kernel
theorem dX10_addComponent_79 : decode cX10_addComponent 79 = .ok (.ldc 99, 2) := by decide +kernel
theorem dX10_addComponent_81 : decode cX10_addComponent 81 = .ok (.invokespecial 66, 3) := by decide +kernel
theorem dX10_addComponent_84 : decode cX10_addComponent 84 = .ok (.athrow, 1) := by decide +kernel
theorem dX10_addComponent_85 : decode cX10_addComponent 85 = .ok (.aload 5, 2) := by decide +kernel
theorem dX10_addComponent_87 : decode cX10_addComponent 87 = .ok (.new 101, 3) := by decide +kernel
theorem dX10_addComponent_90 : decode cX10_addComponent 90 = .ok (.dup, 1) := by decide +kernel
theorem dX10_addComponent_91 : decode cX10_addComponent 91 = .ok (.aload 6, 2) := by decide +kernel
theorem dX10_addComponent_93 : decode cX10_addComponent 93 = .ok (.iload_n 3, 1) := by decide +kernel
theorem dX10_addComponent_94 : decode cX10_addComponent 94 = .ok (.iload 4, 2) := by decide +kernel
theorem dX10_addComponent_96 : decode cX10_addComponent 96 = .ok (.invokespecial 103, 3) := by decide +kernel
theorem dX10_addComponent_99 : decode cX10_addComponent 99 = .ok (.invokevirtual 106, 3) := by decide +kernel
theorem dX10_addComponent_102 : decode cX10_addComponent 102 = .ok (.ireturn, 1) := by decide +kernel
theorem dX10_addMachine_0 : decode cX10_addMachine 0 = .ok (.iload_n 1, 1) := by decide +kernel
theorem dX10_addMachine_1 : decode cX10_addMachine 1 = .ok (.iconst 0, 1) := by decide +kernel
theorem dX10_addMachine_2 : decode cX10_addMachine 2 = .ok (.bipush 20, 2) := by decide +kernel
theorem dX10_addMachine_4 : decode cX10_addMachine 4 = .ok (.invokestatic 47, 3) := by decide +kernel
theorem dX10_addMachine_7 : decode cX10_addMachine 7 = .ok (.ifCond .eq 35, 3) := by decide +kernel
theorem dX10_addMachine_10 : decode cX10_addMachine 10 = .ok (.iload_n 2, 1) := by decide +kernel
theorem dX10_addMachine_11 : decode cX10_addMachine 11 = .ok (.iconst 0, 1) := by decide +kernel
theorem dX10_addMachine_12 : decode cX10_addMachine 12 = .ok (.bipush 50, 2) := by decide +kernel
theorem dX10_addMachine_14 : decode cX10_addMachine 14 = .ok (.invokestatic 47, 3) := by decide +kernel
theorem dX10_addMachine_17 : decode cX10_addMachine 17 = .ok (.ifCond .eq 25, 3) := by decide +kernel
theorem dX10_addMachine_20 : decode cX10_addMachine 20 = .ok (.iload_n 3, 1) := by decide +kernel
theorem dX10_addMachine_21 : decode cX10_addMachine 21 = .ok (.iconst 5, 1) := by decide +kernel
theorem dX10_addMachine_22 : decode cX10_addMachine 22 = .ok (.sipush 500, 3) := by decide +kernel
theorem dX10_addMachine_25 : decode cX10_addMachine 25 = .ok (.invokestatic 47, 3) := by decide +kernel
theorem dX10_addMachine_28 : decode cX10_addMachine 28 = .ok (.ifCond .eq 14, 3) := by decide +kernel
theorem dX10_addMachine_31 : decode cX10_addMachine 31 = .ok (.iload 4, 2) := by decide +kernel
theorem dX10_addMachine_33 : decode cX10_addMachine 33 = .ok (.iconst 1, 1) := by decide +kernel
theorem dX10_addMachine_34 : decode cX10_addMachine 34 = .ok (.bipush 99, 2) := by decide +kernel
theorem dX10_addMachine_36 : decode cX10_addMachine 36 = .ok (.invokestatic 47, 3) := by decide +kernel
theorem dX10_addMachine_39 : decode cX10_addMachine 39 = .ok (.ifCond .ne 13, 3) := by decide +kernel
theorem dX10_addMachine_42 : decode cX10_addMachine 42 = .ok (.new 51, 3) := by decide +kernel
theorem dX10_addMachine_45 : decode cX10_addMachine 45 = .ok (.dup, 1) := by decide +kernel
theorem dX10_addMachine_46 : decode cX10_addMachine 46 = .ok (.ldc 53, 2) := by decide +kernel
theorem dX10_addMachine_48 : decode cX10_addMachine 48 = .ok (.invokespecial 55, 3) := by decide +kernel
theorem dX10_addMachine_51 : decode cX10_addMachine 51 = .ok (.athrow, 1) := by decide +kernel
theorem dX10_addMachine_52 : decode cX10_addMachine 52 = .ok (.aload_n 0, 1) := by decide +kernel
theorem dX10_addMachine_53 : decode cX10_addMachine 53 = .ok (.getfield 58, 3) := by decide +kernel
theorem dX10_addMachine_56 : decode cX10_addMachine 56 = .ok (.aload_n 0, 1) := by decide +kernel
theorem dX10_addMachine_57 : decode cX10_addMachine 57 = .ok (.getfield 11, 3) := by decide +kernel
theorem dX10_addMachine_60 : decode cX10_addMachine 60 = .ok (.arraylength, 1) := by decide +kernel
theorem dX10_addMachine_61 : decode cX10_addMachine 61 = .ok (.if_icmp .lt 13, 3) := by decide +kernel
theorem dX10_addMachine_64 : decode cX10_addMachine 64 = .ok (.new 62, 3) := by decide +kernel
theorem dX10_addMachine_67 : decode cX10_addMachine 67 = .ok (.dup, 1) := by decide +kernel
theorem dX10_addMachine_68 : decode cX10_addMachine 68 = .ok (.ldc 64, 2) := by decide +kernel
theorem dX10_addMachine_70 : decode cX10_addMachine 70 = .ok (.invokespecial 66, 3) := by decide +kernel
theorem dX10_addMachine_73 : decode cX10_addMachine 73 = .ok (.athrow, 1) := by decide +kernel
theorem dX10_addMachine_74 : decode cX10_addMachine 74 = .ok (.aload_n 0, 1) := by decide +kernel
theorem dX10_addMachine_75 : decode cX10_addMachine 75 = .ok (.getfield 11, 3) := by decide +kernel
theorem dX10_addMachine_78 : decode cX10_addMachine 78 = .ok (.aload_n 0, 1) := by decide +kernel
theorem dX10_addMachine_79 : decode cX10_addMachine 79 = .ok (.getfield 58, 3) := by decide +kernel
theorem dX10_addMachine_82 : decode cX10_addMachine 82 = .ok (.new 9, 3) := by decide +kernel
theorem dX10_addMachine_85 : decode cX10_addMachine 85 = .ok (.dup, 1) := by decide +kernel
theorem dX10_addMachine_86 : decode cX10_addMachine 86 = .ok (.iload_n 1, 1) := by decide +kernel
theorem dX10_addMachine_87 : decode cX10_addMachine 87 = .ok (.iload_n 2, 1) := by decide +kernel
theorem dX10_addMachine_88 : decode cX10_addMachine 88 = .ok (.iload_n 3, 1) := by decide +kernel
theorem dX10_addMachine_89 : decode cX10_addMachine 89 = .ok (.iload 4, 2) := by decide +kernel
theorem dX10_addMachine_91 : decode cX10_addMachine 91 = .ok (.invokespecial 67, 3) := by decide +kernel
theorem dX10_addMachine_94 : decode cX10_addMachine 94 = .ok (.aastore, 1) := by decide +kernel
theorem dX10_addMachine_95 : decode cX10_addMachine 95 = .ok (.aload_n 0, 1) := by decide +kernel
theorem dX10_addMachine_96 : decode cX10_addMachine 96 = .ok (.dup, 1) := by decide +kernel
theorem dX10_addMachine_97 : decode cX10_addMachine 97 = .ok (.getfield 58, 3) := by decide +kernel
theorem dX10_addMachine_100 : decode cX10_addMachine 100 = .ok (.iconst 1, 1) := by decide +kernel
theorem dX10_addMachine_101 : decode cX10_addMachine 101 = .ok (.iadd, 1) := by decide +kernel
theorem dX10_addMachine_102 : decode cX10_addMachine 102 = .ok (.putfield 58, 3) := by decide +kernel
theorem dX10_addMachine_105 : decode cX10_addMachine 105 = .ok (.aload_n 0, 1) := by decide +kernel
theorem dX10_addMachine_106 : decode cX10_addMachine 106 = .ok (.getfield 58, 3) := by decide +kernel
theorem dX10_addMachine_109 : decode cX10_addMachine 109 = .ok (.iconst 1, 1) := by decide +kernel
theorem dX10_addMachine_110 : decode cX10_addMachine 110 = .ok (.isub, 1) := by decide +kernel
theorem dX10_addMachine_111 : decode cX10_addMachine 111 = .ok (.ireturn, 1) := by decide +kernel
theorem dX10_addOperation_0 : decode cX10_addOperation 0 = .ok (.aload_n 0, 1) := by decide +kernel
theorem dX10_addOperation_1 : decode cX10_addOperation 1 = .ok (.iload_n 1, 1) := by decide +kernel
theorem dX10_addOperation_2 : decode cX10_addOperation 2 = .ok (.invokevirtual 80, 3) := by decide +kernel
theorem dX10_addOperation_5 : decode cX10_addOperation 5 = .ok (.astore 5, 2) := by decide +kernel
theorem dX10_addOperation_7 : decode cX10_addOperation 7 = .ok (.aload_n 0, 1) := by decide +kernel
theorem dX10_addOperation_8 : decode cX10_addOperation 8 = .ok (.iload_n 2, 1) := by decide +kernel
theorem dX10_addOperation_9 : decode cX10_addOperation 9 = .ok (.invokevirtual 110, 3) := by decide +kernel
theorem dX10_addOperation_12 : decode cX10_addOperation 12 = .ok (.astore 6, 2) := by decide +kernel
theorem dX10_addOperation_14 : decode cX10_addOperation 14 = .ok (.iload_n 3, 1) := by decide +kernel
theorem dX10_addOperation_15 : decode cX10_addOperation 15 = .ok (.iconst (-1), 1) := by decide +kernel
theorem dX10_addOperation_16 : decode cX10_addOperation 16 = .ok (.if_icmp .ne 7, 3) := by decide +kernel
theorem dX10_addOperation_19 : decode cX10_addOperation 19 = .ok (.aconst_null, 1) := by decide +kernel
theorem dX10_addOperation_20 : decode cX10_addOperation 20 = .ok (.goto 8, 3) := by decide +kernel
theorem dX10_addOperation_23 : decode cX10_addOperation 23 = .ok (.aload_n 0, 1) := by decide +kernel
theorem dX10_addOperation_24 : decode cX10_addOperation 24 = .ok (.iload_n 3, 1) := by decide +kernel
theorem dX10_addOperation_25 : decode cX10_addOperation 25 = .ok (.invokevirtual 110, 3) := by decide +kernel
theorem dX10_addOperation_28 : decode cX10_addOperation 28 = .ok (.astore 7, 2) := by decide +kernel
theorem dX10_addOperation_30 : decode cX10_addOperation 30 = .ok (.aload 5, 2) := by decide +kernel
theorem dX10_addOperation_32 : decode cX10_addOperation 32 = .ok (.getfield 84, 3) := by decide +kernel
theorem dX10_addOperation_35 : decode cX10_addOperation 35 = .ok (.ifCond .ne 13, 3) := by decide +kernel
theorem dX10_addOperation_38 : decode cX10_addOperation 38 = .ok (.new 88, 3) := by decide +kernel
theorem dX10_addOperation_41 : decode cX10_addOperation 41 = .ok (.dup, 1) := by decide +kernel
theorem dX10_addOperation_42 : decode cX10_addOperation 42 = .ok (.ldc 114, 2) := by decide +kernel
theorem dX10_addOperation_44 : decode cX10_addOperation 44 = .ok (.invokespecial 92, 3) := by decide +kernel
theorem dX10_addOperation_47 : decode cX10_addOperation 47 = .ok (.athrow, 1) := by decide +kernel
theorem dX10_addOperation_48 : decode cX10_addOperation 48 = .ok (.iload 4, 2) := by decide +kernel
theorem dX10_addOperation_50 : decode cX10_addOperation 50 = .ok (.iconst 1, 1) := by decide +kernel
theorem dX10_addOperation_51 : decode cX10_addOperation 51 = .ok (.bipush 20, 2) := by decide +kernel
theorem dX10_addOperation_53 : decode cX10_addOperation 53 = .ok (.invokestatic 47, 3) := by decide +kernel
theorem dX10_addOperation_56 : decode cX10_addOperation 56 = .ok (.ifCond .ne 13, 3) := by decide +kernel
theorem dX10_addOperation_59 : decode cX10_addOperation 59 = .ok (.new 51, 3) := by decide +kernel
theorem dX10_addOperation_62 : decode cX10_addOperation 62 = .ok (.dup, 1) := by decide +kernel
theorem dX10_addOperation_63 : decode cX10_addOperation 63 = .ok (.ldc 116, 2) := by decide +kernel
theorem dX10_addOperation_65 : decode cX10_addOperation 65 = .ok (.invokespecial 55, 3) := by decide +kernel
theorem dX10_addOperation_68 : decode cX10_addOperation 68 = .ok (.athrow, 1) := by decide +kernel
theorem dX10_addOperation_69 : decode cX10_addOperation 69 = .ok (.aload 5, 2) := by decide +kernel
theorem dX10_addOperation_71 : decode cX10_addOperation 71 = .ok (.invokevirtual 118, 3) := by decide +kernel
theorem dX10_addOperation_74 : decode cX10_addOperation 74 = .ok (.ifCond .ne 13, 3) := by decide +kernel
theorem dX10_addOperation_77 : decode cX10_addOperation 77 = .ok (.new 62, 3) := by decide +kernel
theorem dX10_addOperation_80 : decode cX10_addOperation 80 = .ok (.dup, 1) := by decide +kernel
theorem dX10_addOperation_81 : decode cX10_addOperation 81 = .ok (.ldc 121, 2) := by decide +kernel
theorem dX10_addOperation_83 : decode cX10_addOperation 83 = .ok (.invokespecial 66, 3) := by decide +kernel
theorem dX10_addOperation_86 : decode cX10_addOperation 86 = .ok (.athrow, 1) := by decide +kernel
theorem dX10_addOperation_87 : decode cX10_addOperation 87 = .ok (.aload 5, 2) := by decide +kernel
theorem dX10_addOperation_89 : decode cX10_addOperation 89 = .ok (.new 123, 3) := by decide +kernel
theorem dX10_addOperation_92 : decode cX10_addOperation 92 = .ok (.dup, 1) := by decide +kernel
theorem dX10_addOperation_93 : decode cX10_addOperation 93 = .ok (.aload 6, 2) := by decide +kernel
theorem dX10_addOperation_95 : decode cX10_addOperation 95 = .ok (.aload 7, 2) := by decide +kernel
theorem dX10_addOperation_97 : decode cX10_addOperation 97 = .ok (.iload 4, 2) := by decide +kernel
theorem dX10_addOperation_99 : decode cX10_addOperation 99 = .ok (.invokespecial 125, 3) := by decide +kernel
theorem dX10_addOperation_102 : decode cX10_addOperation 102 = .ok (.invokevirtual 128, 3) := by decide +kernel
theorem dX10_addOperation_105 : decode cX10_addOperation 105 = .ok (.ireturn, 1) := by decide +kernel
theorem dX10_addPart_0 : decode cX10_addPart 0 = .ok (.iload_n 2, 1) := by decide +kernel
theorem dX10_addPart_1 : decode cX10_addPart 1 = .ok (.iconst 0, 1) := by decide +kernel
theorem dX10_addPart_2 : decode cX10_addPart 2 = .ok (.iconst 3, 1) := by decide +kernel
theorem dX10_addPart_3 : decode cX10_addPart 3 = .ok (.invokestatic 47, 3) := by decide +kernel
theorem dX10_addPart_6 : decode cX10_addPart 6 = .ok (.ifCond .ne 13, 3) := by decide +kernel
theorem dX10_addPart_9 : decode cX10_addPart 9 = .ok (.new 51, 3) := by decide +kernel
theorem dX10_addPart_12 : decode cX10_addPart 12 = .ok (.dup, 1) := by decide +kernel
theorem dX10_addPart_13 : decode cX10_addPart 13 = .ok (.ldc 70, 2) := by decide +kernel
theorem dX10_addPart_15 : decode cX10_addPart 15 = .ok (.invokespecial 55, 3) := by decide +kernel
theorem dX10_addPart_18 : decode cX10_addPart 18 = .ok (.athrow, 1) := by decide +kernel
theorem dX10_addPart_19 : decode cX10_addPart 19 = .ok (.aload_n 0, 1) := by decide +kernel
theorem dX10_addPart_20 : decode cX10_addPart 20 = .ok (.getfield 72, 3) := by decide +kernel
theorem dX10_addPart_23 : decode cX10_addPart 23 = .ok (.aload_n 0, 1) := by decide +kernel
theorem dX10_addPart_24 : decode cX10_addPart 24 = .ok (.getfield 17, 3) := by decide +kernel
theorem dX10_addPart_27 : decode cX10_addPart 27 = .ok (.arraylength, 1) := by decide +kernel
theorem dX10_addPart_28 : decode cX10_addPart 28 = .ok (.if_icmp .lt 13, 3) := by decide +kernel
theorem dX10_addPart_31 : decode cX10_addPart 31 = .ok (.new 62, 3) := by decide +kernel
theorem dX10_addPart_34 : decode cX10_addPart 34 = .ok (.dup, 1) := by decide +kernel
theorem dX10_addPart_35 : decode cX10_addPart 35 = .ok (.ldc 75, 2) := by decide +kernel
theorem dX10_addPart_37 : decode cX10_addPart 37 = .ok (.invokespecial 66, 3) := by decide +kernel
theorem dX10_addPart_40 : decode cX10_addPart 40 = .ok (.athrow, 1) := by decide +kernel
theorem dX10_addPart_41 : decode cX10_addPart 41 = .ok (.aload_n 0, 1) := by decide +kernel
theorem dX10_addPart_42 : decode cX10_addPart 42 = .ok (.getfield 17, 3) := by decide +kernel
theorem dX10_addPart_45 : decode cX10_addPart 45 = .ok (.aload_n 0, 1) := by decide +kernel
theorem dX10_addPart_46 : decode cX10_addPart 46 = .ok (.getfield 72, 3) := by decide +kernel
theorem dX10_addPart_49 : decode cX10_addPart 49 = .ok (.new 15, 3) := by decide +kernel
theorem dX10_addPart_52 : decode cX10_addPart 52 = .ok (.dup, 1) := by decide +kernel
theorem dX10_addPart_53 : decode cX10_addPart 53 = .ok (.aload_n 0, 1) := by decide +kernel
theorem dX10_addPart_54 : decode cX10_addPart 54 = .ok (.getfield 72, 3) := by decide +kernel
theorem dX10_addPart_57 : decode cX10_addPart 57 = .ok (.iload_n 1, 1) := by decide +kernel
theorem dX10_addPart_58 : decode cX10_addPart 58 = .ok (.iload_n 2, 1) := by decide +kernel
theorem dX10_addPart_59 : decode cX10_addPart 59 = .ok (.invokespecial 77, 3) := by decide +kernel
theorem dX10_addPart_62 : decode cX10_addPart 62 = .ok (.aastore, 1) := by decide +kernel
theorem dX10_addPart_63 : decode cX10_addPart 63 = .ok (.aload_n 0, 1) := by decide +kernel
theorem dX10_addPart_64 : decode cX10_addPart 64 = .ok (.dup, 1) := by decide +kernel
theorem dX10_addPart_65 : decode cX10_addPart 65 = .ok (.getfield 72, 3) := by decide +kernel
theorem dX10_addPart_68 : decode cX10_addPart 68 = .ok (.iconst 1, 1) := by decide +kernel
theorem dX10_addPart_69 : decode cX10_addPart 69 = .ok (.iadd, 1) := by decide +kernel
theorem dX10_addPart_70 : decode cX10_addPart 70 = .ok (.putfield 72, 3) := by decide +kernel
theorem dX10_addPart_73 : decode cX10_addPart 73 = .ok (.aload_n 0, 1) := by decide +kernel
theorem dX10_addPart_74 : decode cX10_addPart 74 = .ok (.getfield 72, 3) := by decide +kernel
theorem dX10_addPart_77 : decode cX10_addPart 77 = .ok (.iconst 1, 1) := by decide +kernel
theorem dX10_addPart_78 : decode cX10_addPart 78 = .ok (.isub, 1) := by decide +kernel
theorem dX10_addPart_79 : decode cX10_addPart 79 = .ok (.ireturn, 1) := by decide +kernel
theorem dX10_advance_0 : decode cX10_advance 0 = .ok (.iload_n 1, 1) := by decide +kernel
theorem dX10_advance_1 : decode cX10_advance 1 = .ok (.iconst 1, 1) := by decide +kernel
theorem dX10_advance_2 : decode cX10_advance 2 = .ok (.sipush 500, 3) := by decide +kernel
theorem dX10_advance_5 : decode cX10_advance 5 = .ok (.invokestatic 47, 3) := by decide +kernel
theorem dX10_advance_8 : decode cX10_advance 8 = .ok (.ifCond .ne 13, 3) := by decide +kernel
theorem dX10_advance_11 : decode cX10_advance 11 = .ok (.new 51, 3) := by decide +kernel
theorem dX10_advance_14 : decode cX10_advance 14 = .ok (.dup, 1) := by decide +kernel
theorem dX10_advance_15 : decode cX10_advance 15 = .ok (.ldc 116, 2) := by decide +kernel
theorem dX10_advance_17 : decode cX10_advance 17 = .ok (.invokespecial 55, 3) := by decide +kernel
theorem dX10_advance_20 : decode cX10_advance 20 = .ok (.athrow, 1) := by decide +kernel
theorem dX10_advance_21 : decode cX10_advance 21 = .ok (.aload_n 0, 1) := by decide +kernel
theorem dX10_advance_22 : decode cX10_advance 22 = .ok (.getfield 294, 3) := by decide +kernel
theorem dX10_advance_25 : decode cX10_advance 25 = .ok (.iload_n 1, 1) := by decide +kernel
theorem dX10_advance_26 : decode cX10_advance 26 = .ok (.iadd, 1) := by decide +kernel
theorem dX10_advance_27 : decode cX10_advance 27 = .ok (.sipush 5000, 3) := by decide +kernel
theorem dX10_advance_30 : decode cX10_advance 30 = .ok (.if_icmp .le 14, 3) := by decide +kernel
theorem dX10_advance_33 : decode cX10_advance 33 = .ok (.new 62, 3) := by decide +kernel
theorem dX10_advance_36 : decode cX10_advance 36 = .ok (.dup, 1) := by decide +kernel
theorem dX10_advance_37 : decode cX10_advance 37 = .ok (.ldc_w 297, 3) := by decide +kernel
theorem dX10_advance_40 : decode cX10_advance 40 = .ok (.invokespecial 66, 3) := by decide +kernel
theorem dX10_advance_43 : decode cX10_advance 43 = .ok (.athrow, 1) := by decide +kernel
theorem dX10_advance_44 : decode cX10_advance 44 = .ok (.iconst 0, 1) := by decide +kernel
theorem dX10_advance_45 : decode cX10_advance 45 = .ok (.istore_n 2, 1) := by decide +kernel
theorem dX10_advance_46 : decode cX10_advance 46 = .ok (.iload_n 2, 1) := by decide +kernel
theorem dX10_advance_47 : decode cX10_advance 47 = .ok (.iload_n 1, 1) := by decide +kernel
theorem dX10_advance_48 : decode cX10_advance 48 = .ok (.if_icmp .ge 13, 3) := by decide +kernel
theorem dX10_advance_51 : decode cX10_advance 51 = .ok (.aload_n 0, 1) := by decide +kernel
theorem dX10_advance_52 : decode cX10_advance 52 = .ok (.invokevirtual 299, 3) := by decide +kernel
theorem dX10_advance_55 : decode cX10_advance 55 = .ok (.iinc 2 1, 3) := by decide +kernel
theorem dX10_advance_58 : decode cX10_advance 58 = .ok (.goto (-12), 3) := by decide +kernel
theorem dX10_advance_61 : decode cX10_advance 61 = .ok (.aload_n 0, 1) := by decide +kernel
theorem dX10_advance_62 : decode cX10_advance 62 = .ok (.getfield 294, 3) := by decide +kernel
theorem dX10_advance_65 : decode cX10_advance 65 = .ok (.ireturn, 1) := by decide +kernel
theorem dX10_areCostsSound_0 : decode cX10_areCostsSound 0 = .ok (.aload_n 0, 1) := by decide +kernel
theorem dX10_areCostsSound_1 : decode cX10_areCostsSound 1 = .ok (.getfield 495, 3) := by decide +kernel
theorem dX10_areCostsSound_4 : decode cX10_areCostsSound 4 = .ok (.lstore_n 1, 1) := by decide +kernel
theorem dX10_areCostsSound_5 : decode cX10_areCostsSound 5 = .ok (.aload_n 0, 1) := by decide +kernel
theorem dX10_areCostsSound_6 : decode cX10_areCostsSound 6 = .ok (.getfield 29, 3) := by decide +kernel
theorem dX10_areCostsSound_9 : decode cX10_areCostsSound 9 = .ok (.astore_n 3, 1) := by decide +kernel
theorem dX10_areCostsSound_10 : decode cX10_areCostsSound 10 = .ok (.aload_n 3, 1) := by decide +kernel
theorem dX10_areCostsSound_11 : decode cX10_areCostsSound 11 = .ok (.arraylength, 1) := by decide +kernel
theorem dX10_areCostsSound_12 : decode cX10_areCostsSound 12 = .ok (.istore 4, 2) := by decide +kernel
theorem dX10_areCostsSound_14 : decode cX10_areCostsSound 14 = .ok (.iconst 0, 1) := by decide +kernel
theorem dX10_areCostsSound_15 : decode cX10_areCostsSound 15 = .ok (.istore 5, 2) := by decide +kernel
theorem dX10_areCostsSound_17 : decode cX10_areCostsSound 17 = .ok (.iload 5, 2) := by decide +kernel
theorem dX10_areCostsSound_19 : decode cX10_areCostsSound 19 = .ok (.iload 4, 2) := by decide +kernel
theorem dX10_areCostsSound_21 : decode cX10_areCostsSound 21 = .ok (.if_icmp .ge 32, 3) := by decide +kernel
theorem dX10_areCostsSound_24 : decode cX10_areCostsSound 24 = .ok (.aload_n 3, 1) := by decide +kernel
theorem dX10_areCostsSound_25 : decode cX10_areCostsSound 25 = .ok (.iload 5, 2) := by decide +kernel
theorem dX10_areCostsSound_27 : decode cX10_areCostsSound 27 = .ok (.aaload, 1) := by decide +kernel
theorem dX10_areCostsSound_28 : decode cX10_areCostsSound 28 = .ok (.astore 6, 2) := by decide +kernel
theorem dX10_areCostsSound_30 : decode cX10_areCostsSound 30 = .ok (.lload_n 1, 1) := by decide +kernel
theorem dX10_areCostsSound_31 : decode cX10_areCostsSound 31 = .ok (.aload 6, 2) := by decide +kernel
theorem dX10_areCostsSound_33 : decode cX10_areCostsSound 33 = .ok (.ifnull 11, 3) := by decide +kernel
theorem dX10_areCostsSound_36 : decode cX10_areCostsSound 36 = .ok (.aload 6, 2) := by decide +kernel
theorem dX10_areCostsSound_38 : decode cX10_areCostsSound 38 = .ok (.getfield 225, 3) := by decide +kernel
theorem dX10_areCostsSound_41 : decode cX10_areCostsSound 41 = .ok (.goto 4, 3) := by decide +kernel
theorem dX10_areCostsSound_44 : decode cX10_areCostsSound 44 = .ok (.lconst 0, 1) := by decide +kernel
theorem dX10_areCostsSound_45 : decode cX10_areCostsSound 45 = .ok (.ladd, 1) := by decide +kernel
theorem dX10_areCostsSound_46 : decode cX10_areCostsSound 46 = .ok (.lstore_n 1, 1) := by decide +kernel
theorem dX10_areCostsSound_47 : decode cX10_areCostsSound 47 = .ok (.iinc 5 1, 3) := by decide +kernel
theorem dX10_areCostsSound_50 : decode cX10_areCostsSound 50 = .ok (.goto (-33), 3) := by decide +kernel
theorem dX10_areCostsSound_53 : decode cX10_areCostsSound 53 = .ok (.aload_n 0, 1) := by decide +kernel
theorem dX10_areCostsSound_54 : decode cX10_areCostsSound 54 = .ok (.getfield 35, 3) := by decide +kernel
theorem dX10_areCostsSound_57 : decode cX10_areCostsSound 57 = .ok (.astore_n 3, 1) := by decide +kernel
theorem dX10_areCostsSound_58 : decode cX10_areCostsSound 58 = .ok (.aload_n 3, 1) := by decide +kernel
theorem dX10_areCostsSound_59 : decode cX10_areCostsSound 59 = .ok (.arraylength, 1) := by decide +kernel
theorem dX10_areCostsSound_60 : decode cX10_areCostsSound 60 = .ok (.istore 4, 2) := by decide +kernel
theorem dX10_areCostsSound_62 : decode cX10_areCostsSound 62 = .ok (.iconst 0, 1) := by decide +kernel
theorem dX10_areCostsSound_63 : decode cX10_areCostsSound 63 = .ok (.istore 5, 2) := by decide +kernel
theorem dX10_areCostsSound_65 : decode cX10_areCostsSound 65 = .ok (.iload 5, 2) := by decide +kernel
theorem dX10_areCostsSound_67 : decode cX10_areCostsSound 67 = .ok (.iload 4, 2) := by decide +kernel
theorem dX10_areCostsSound_69 : decode cX10_areCostsSound 69 = .ok (.if_icmp .ge 41, 3) := by decide +kernel
theorem dX10_areCostsSound_72 : decode cX10_areCostsSound 72 = .ok (.aload_n 3, 1) := by decide +kernel
theorem dX10_areCostsSound_73 : decode cX10_areCostsSound 73 = .ok (.iload 5, 2) := by decide +kernel
theorem dX10_areCostsSound_75 : decode cX10_areCostsSound 75 = .ok (.aaload, 1) := by decide +kernel
theorem dX10_areCostsSound_76 : decode cX10_areCostsSound 76 = .ok (.astore 6, 2) := by decide +kernel
theorem dX10_areCostsSound_78 : decode cX10_areCostsSound 78 = .ok (.lload_n 1, 1) := by decide +kernel
theorem dX10_areCostsSound_79 : decode cX10_areCostsSound 79 = .ok (.aload 6, 2) := by decide +kernel
theorem dX10_areCostsSound_81 : decode cX10_areCostsSound 81 = .ok (.ifnull 20, 3) := by decide +kernel
theorem dX10_areCostsSound_84 : decode cX10_areCostsSound 84 = .ok (.aload 6, 2) := by decide +kernel
theorem dX10_areCostsSound_86 : decode cX10_areCostsSound 86 = .ok (.getfield 280, 3) := by decide +kernel
theorem dX10_areCostsSound_89 : decode cX10_areCostsSound 89 = .ok (.getfield 437, 3) := by decide +kernel
theorem dX10_areCostsSound_92 : decode cX10_areCostsSound 92 = .ok (.aload 6, 2) := by decide +kernel
theorem dX10_areCostsSound_94 : decode cX10_areCostsSound 94 = .ok (.getfield 355, 3) := by decide +kernel
theorem dX10_areCostsSound_97 : decode cX10_areCostsSound 97 = .ok (.ladd, 1) := by decide +kernel
theorem dX10_areCostsSound_98 : decode cX10_areCostsSound 98 = .ok (.goto 4, 3) := by decide +kernel
theorem dX10_areCostsSound_101 : decode cX10_areCostsSound 101 = .ok (.lconst 0, 1) := by decide +kernel
theorem dX10_areCostsSound_102 : decode cX10_areCostsSound 102 = .ok (.ladd, 1) := by decide +kernel
theorem dX10_areCostsSound_103 : decode cX10_areCostsSound 103 = .ok (.lstore_n 1, 1) := by decide +kernel
theorem dX10_areCostsSound_104 : decode cX10_areCostsSound 104 = .ok (.iinc 5 1, 3) := by decide +kernel
theorem dX10_areCostsSound_107 : decode cX10_areCostsSound 107 = .ok (.goto (-42), 3) := by decide +kernel
theorem dX10_areCostsSound_110 : decode cX10_areCostsSound 110 = .ok (.lload_n 1, 1) := by decide +kernel
theorem dX10_areCostsSound_111 : decode cX10_areCostsSound 111 = .ok (.aload_n 0, 1) := by decide +kernel
theorem dX10_areCostsSound_112 : decode cX10_areCostsSound 112 = .ok (.getfield 145, 3) := by decide +kernel
theorem dX10_areCostsSound_115 : decode cX10_areCostsSound 115 = .ok (.lcmp, 1) := by decide +kernel
theorem dX10_areCostsSound_116 : decode cX10_areCostsSound 116 = .ok (.ifCond .ne 7, 3) := by decide +kernel
theorem dX10_areCostsSound_119 : decode cX10_areCostsSound 119 = .ok (.iconst 1, 1) := by decide +kernel
theorem dX10_areCostsSound_120 : decode cX10_areCostsSound 120 = .ok (.goto 4, 3) := by decide +kernel
theorem dX10_areCostsSound_123 : decode cX10_areCostsSound 123 = .ok (.iconst 0, 1) := by decide +kernel
theorem dX10_areCostsSound_124 : decode cX10_areCostsSound 124 = .ok (.ireturn, 1) := by decide +kernel
theorem dX10_areJobsSound_0 : decode cX10_areJobsSound 0 = .ok (.iconst 0, 1) := by decide +kernel
theorem dX10_areJobsSound_1 : decode cX10_areJobsSound 1 = .ok (.istore_n 1, 1) := by decide +kernel
theorem dX10_areJobsSound_2 : decode cX10_areJobsSound 2 = .ok (.aload_n 0, 1) := by decide +kernel
theorem dX10_areJobsSound_3 : decode cX10_areJobsSound 3 = .ok (.getfield 35, 3) := by decide +kernel
theorem dX10_areJobsSound_6 : decode cX10_areJobsSound 6 = .ok (.astore_n 2, 1) := by decide +kernel
theorem dX10_areJobsSound_7 : decode cX10_areJobsSound 7 = .ok (.aload_n 2, 1) := by decide +kernel
theorem dX10_areJobsSound_8 : decode cX10_areJobsSound 8 = .ok (.arraylength, 1) := by decide +kernel
theorem dX10_areJobsSound_9 : decode cX10_areJobsSound 9 = .ok (.istore_n 3, 1) := by decide +kernel
theorem dX10_areJobsSound_10 : decode cX10_areJobsSound 10 = .ok (.iconst 0, 1) := by decide +kernel
theorem dX10_areJobsSound_11 : decode cX10_areJobsSound 11 = .ok (.istore 4, 2) := by decide +kernel
theorem dX10_areJobsSound_13 : decode cX10_areJobsSound 13 = .ok (.iload 4, 2) := by decide +kernel
theorem dX10_areJobsSound_15 : decode cX10_areJobsSound 15 = .ok (.iload_n 3, 1) := by decide +kernel
theorem dX10_areJobsSound_16 : decode cX10_areJobsSound 16 = .ok (.if_icmp .ge 38, 3) := by decide +kernel
theorem dX10_areJobsSound_19 : decode cX10_areJobsSound 19 = .ok (.aload_n 2, 1) := by decide +kernel
theorem dX10_areJobsSound_20 : decode cX10_areJobsSound 20 = .ok (.iload 4, 2) := by decide +kernel
theorem dX10_areJobsSound_22 : decode cX10_areJobsSound 22 = .ok (.aaload, 1) := by decide +kernel
theorem dX10_areJobsSound_23 : decode cX10_areJobsSound 23 = .ok (.astore 5, 2) := by decide +kernel
theorem dX10_areJobsSound_25 : decode cX10_areJobsSound 25 = .ok (.aload 5, 2) := by decide +kernel
theorem dX10_areJobsSound_27 : decode cX10_areJobsSound 27 = .ok (.ifnull 21, 3) := by decide +kernel
theorem dX10_areJobsSound_30 : decode cX10_areJobsSound 30 = .ok (.iload_n 1, 1) := by decide +kernel
theorem dX10_areJobsSound_31 : decode cX10_areJobsSound 31 = .ok (.aload 5, 2) := by decide +kernel
theorem dX10_areJobsSound_33 : decode cX10_areJobsSound 33 = .ok (.getfield 513, 3) := by decide +kernel
theorem dX10_areJobsSound_36 : decode cX10_areJobsSound 36 = .ok (.iadd, 1) := by decide +kernel
theorem dX10_areJobsSound_37 : decode cX10_areJobsSound 37 = .ok (.istore_n 1, 1) := by decide +kernel
theorem dX10_areJobsSound_38 : decode cX10_areJobsSound 38 = .ok (.aload 5, 2) := by decide +kernel
theorem dX10_areJobsSound_40 : decode cX10_areJobsSound 40 = .ok (.invokevirtual 523, 3) := by decide +kernel
theorem dX10_areJobsSound_43 : decode cX10_areJobsSound 43 = .ok (.ifCond .ne 5, 3) := by decide +kernel
theorem dX10_areJobsSound_46 : decode cX10_areJobsSound 46 = .ok (.iconst 0, 1) := by decide +kernel
theorem dX10_areJobsSound_47 : decode cX10_areJobsSound 47 = .ok (.ireturn, 1) := by decide +kernel
theorem dX10_areJobsSound_48 : decode cX10_areJobsSound 48 = .ok (.iinc 4 1, 3) := by decide +kernel
theorem dX10_areJobsSound_51 : decode cX10_areJobsSound 51 = .ok (.goto (-38), 3) := by decide +kernel
theorem dX10_areJobsSound_54 : decode cX10_areJobsSound 54 = .ok (.aload_n 0, 1) := by decide +kernel
theorem dX10_areJobsSound_55 : decode cX10_areJobsSound 55 = .ok (.getfield 29, 3) := by decide +kernel
theorem dX10_areJobsSound_58 : decode cX10_areJobsSound 58 = .ok (.astore_n 2, 1) := by decide +kernel
theorem dX10_areJobsSound_59 : decode cX10_areJobsSound 59 = .ok (.aload_n 2, 1) := by decide +kernel
theorem dX10_areJobsSound_60 : decode cX10_areJobsSound 60 = .ok (.arraylength, 1) := by decide +kernel
theorem dX10_areJobsSound_61 : decode cX10_areJobsSound 61 = .ok (.istore_n 3, 1) := by decide +kernel
theorem dX10_areJobsSound_62 : decode cX10_areJobsSound 62 = .ok (.iconst 0, 1) := by decide +kernel
theorem dX10_areJobsSound_63 : decode cX10_areJobsSound 63 = .ok (.istore 4, 2) := by decide +kernel
theorem dX10_areJobsSound_65 : decode cX10_areJobsSound 65 = .ok (.iload 4, 2) := by decide +kernel
theorem dX10_areJobsSound_67 : decode cX10_areJobsSound 67 = .ok (.iload_n 3, 1) := by decide +kernel
theorem dX10_areJobsSound_68 : decode cX10_areJobsSound 68 = .ok (.if_icmp .ge 32, 3) := by decide +kernel
theorem dX10_areJobsSound_71 : decode cX10_areJobsSound 71 = .ok (.aload_n 2, 1) := by decide +kernel
theorem dX10_areJobsSound_72 : decode cX10_areJobsSound 72 = .ok (.iload 4, 2) := by decide +kernel
theorem dX10_areJobsSound_74 : decode cX10_areJobsSound 74 = .ok (.aaload, 1) := by decide +kernel
theorem dX10_areJobsSound_75 : decode cX10_areJobsSound 75 = .ok (.astore 5, 2) := by decide +kernel
theorem dX10_areJobsSound_77 : decode cX10_areJobsSound 77 = .ok (.iload_n 1, 1) := by decide +kernel
theorem dX10_areJobsSound_78 : decode cX10_areJobsSound 78 = .ok (.aload 5, 2) := by decide +kernel
theorem dX10_areJobsSound_80 : decode cX10_areJobsSound 80 = .ok (.ifnull 11, 3) := by decide +kernel
theorem dX10_areJobsSound_83 : decode cX10_areJobsSound 83 = .ok (.aload 5, 2) := by decide +kernel
theorem dX10_areJobsSound_85 : decode cX10_areJobsSound 85 = .ok (.getfield 516, 3) := by decide +kernel
theorem dX10_areJobsSound_88 : decode cX10_areJobsSound 88 = .ok (.goto 4, 3) := by decide +kernel
theorem dX10_areJobsSound_91 : decode cX10_areJobsSound 91 = .ok (.iconst 0, 1) := by decide +kernel
theorem dX10_areJobsSound_92 : decode cX10_areJobsSound 92 = .ok (.isub, 1) := by decide +kernel
theorem dX10_areJobsSound_93 : decode cX10_areJobsSound 93 = .ok (.istore_n 1, 1) := by decide +kernel
theorem dX10_areJobsSound_94 : decode cX10_areJobsSound 94 = .ok (.iinc 4 1, 3) := by decide +kernel
theorem dX10_areJobsSound_97 : decode cX10_areJobsSound 97 = .ok (.goto (-32), 3) := by decide +kernel
theorem dX10_areJobsSound_100 : decode cX10_areJobsSound 100 = .ok (.iload_n 1, 1) := by decide +kernel
theorem dX10_areJobsSound_101 : decode cX10_areJobsSound 101 = .ok (.ifCond .ne 7, 3) := by decide +kernel
theorem dX10_areJobsSound_104 : decode cX10_areJobsSound 104 = .ok (.iconst 1, 1) := by decide +kernel
theorem dX10_areJobsSound_105 : decode cX10_areJobsSound 105 = .ok (.goto 4, 3) := by decide +kernel
theorem dX10_areJobsSound_108 : decode cX10_areJobsSound 108 = .ok (.iconst 0, 1) := by decide +kernel
theorem dX10_areJobsSound_109 : decode cX10_areJobsSound 109 = .ok (.ireturn, 1) := by decide +kernel
theorem dX10_areLotsSound_0 : decode cX10_areLotsSound 0 = .ok (.aload_n 0, 1) := by decide +kernel
theorem dX10_areLotsSound_1 : decode cX10_areLotsSound 1 = .ok (.getfield 29, 3) := by decide +kernel
theorem dX10_areLotsSound_4 : decode cX10_areLotsSound 4 = .ok (.astore_n 1, 1) := by decide +kernel
theorem dX10_areLotsSound_5 : decode cX10_areLotsSound 5 = .ok (.aload_n 1, 1) := by decide +kernel
theorem dX10_areLotsSound_6 : decode cX10_areLotsSound 6 = .ok (.arraylength, 1) := by decide +kernel
theorem dX10_areLotsSound_7 : decode cX10_areLotsSound 7 = .ok (.istore_n 2, 1) := by decide +kernel
theorem dX10_areLotsSound_8 : decode cX10_areLotsSound 8 = .ok (.iconst 0, 1) := by decide +kernel
theorem dX10_areLotsSound_9 : decode cX10_areLotsSound 9 = .ok (.istore_n 3, 1) := by decide +kernel
theorem dX10_areLotsSound_10 : decode cX10_areLotsSound 10 = .ok (.iload_n 3, 1) := by decide +kernel
theorem dX10_areLotsSound_11 : decode cX10_areLotsSound 11 = .ok (.iload_n 2, 1) := by decide +kernel
theorem dX10_areLotsSound_12 : decode cX10_areLotsSound 12 = .ok (.if_icmp .ge 48, 3) := by decide +kernel
theorem dX10_areLotsSound_15 : decode cX10_areLotsSound 15 = .ok (.aload_n 1, 1) := by decide +kernel
theorem dX10_areLotsSound_16 : decode cX10_areLotsSound 16 = .ok (.iload_n 3, 1) := by decide +kernel
theorem dX10_areLotsSound_17 : decode cX10_areLotsSound 17 = .ok (.aaload, 1) := by decide +kernel
theorem dX10_areLotsSound_18 : decode cX10_areLotsSound 18 = .ok (.astore 4, 2) := by decide +kernel
theorem dX10_areLotsSound_20 : decode cX10_areLotsSound 20 = .ok (.aload 4, 2) := by decide +kernel
theorem dX10_areLotsSound_22 : decode cX10_areLotsSound 22 = .ok (.ifnull 32, 3) := by decide +kernel
theorem dX10_areLotsSound_25 : decode cX10_areLotsSound 25 = .ok (.aload 4, 2) := by decide +kernel
theorem dX10_areLotsSound_27 : decode cX10_areLotsSound 27 = .ok (.getfield 518, 3) := by decide +kernel
theorem dX10_areLotsSound_30 : decode cX10_areLotsSound 30 = .ok (.aload 4, 2) := by decide +kernel
theorem dX10_areLotsSound_32 : decode cX10_areLotsSound 32 = .ok (.getfield 219, 3) := by decide +kernel
theorem dX10_areLotsSound_35 : decode cX10_areLotsSound 35 = .ok (.aload_n 0, 1) := by decide +kernel
theorem dX10_areLotsSound_36 : decode cX10_areLotsSound 36 = .ok (.aload 4, 2) := by decide +kernel
theorem dX10_areLotsSound_38 : decode cX10_areLotsSound 38 = .ok (.iconst 0, 1) := by decide +kernel
theorem dX10_areLotsSound_39 : decode cX10_areLotsSound 39 = .ok (.invokevirtual 519, 3) := by decide +kernel
theorem dX10_areLotsSound_42 : decode cX10_areLotsSound 42 = .ok (.iadd, 1) := by decide +kernel
theorem dX10_areLotsSound_43 : decode cX10_areLotsSound 43 = .ok (.aload 4, 2) := by decide +kernel
theorem dX10_areLotsSound_45 : decode cX10_areLotsSound 45 = .ok (.getfield 516, 3) := by decide +kernel
theorem dX10_areLotsSound_48 : decode cX10_areLotsSound 48 = .ok (.iadd, 1) := by decide +kernel
theorem dX10_areLotsSound_49 : decode cX10_areLotsSound 49 = .ok (.if_icmp .eq 5, 3) := by decide +kernel
theorem dX10_areLotsSound_52 : decode cX10_areLotsSound 52 = .ok (.iconst 0, 1) := by decide +kernel
theorem dX10_areLotsSound_53 : decode cX10_areLotsSound 53 = .ok (.ireturn, 1) := by decide +kernel
theorem dX10_areLotsSound_54 : decode cX10_areLotsSound 54 = .ok (.iinc 3 1, 3) := by decide +kernel
theorem dX10_areLotsSound_57 : decode cX10_areLotsSound 57 = .ok (.goto (-47), 3) := by decide +kernel
theorem dX10_areLotsSound_60 : decode cX10_areLotsSound 60 = .ok (.iconst 1, 1) := by decide +kernel
theorem dX10_areLotsSound_61 : decode cX10_areLotsSound 61 = .ok (.ireturn, 1) := by decide +kernel
theorem dX10_arePromisesSound_0 : decode cX10_arePromisesSound 0 = .ok (.aload_n 0, 1) := by decide +kernel
theorem dX10_arePromisesSound_1 : decode cX10_arePromisesSound 1 = .ok (.getfield 29, 3) := by decide +kernel
theorem dX10_arePromisesSound_4 : decode cX10_arePromisesSound 4 = .ok (.astore_n 1, 1) := by decide +kernel
theorem dX10_arePromisesSound_5 : decode cX10_arePromisesSound 5 = .ok (.aload_n 1, 1) := by decide +kernel
theorem dX10_arePromisesSound_6 : decode cX10_arePromisesSound 6 = .ok (.arraylength, 1) := by decide +kernel
theorem dX10_arePromisesSound_7 : decode cX10_arePromisesSound 7 = .ok (.istore_n 2, 1) := by decide +kernel
theorem dX10_arePromisesSound_8 : decode cX10_arePromisesSound 8 = .ok (.iconst 0, 1) := by decide +kernel
theorem dX10_arePromisesSound_9 : decode cX10_arePromisesSound 9 = .ok (.istore_n 3, 1) := by decide +kernel
theorem dX10_arePromisesSound_10 : decode cX10_arePromisesSound 10 = .ok (.iload_n 3, 1) := by decide +kernel
theorem dX10_arePromisesSound_11 : decode cX10_arePromisesSound 11 = .ok (.iload_n 2, 1) := by decide +kernel
theorem dX10_arePromisesSound_12 : decode cX10_arePromisesSound 12 = .ok (.if_icmp .ge 66, 3) := by decide +kernel
theorem dX10_arePromisesSound_15 : decode cX10_arePromisesSound 15 = .ok (.aload_n 1, 1) := by decide +kernel
theorem dX10_arePromisesSound_16 : decode cX10_arePromisesSound 16 = .ok (.iload_n 3, 1) := by decide +kernel
theorem dX10_arePromisesSound_17 : decode cX10_arePromisesSound 17 = .ok (.aaload, 1) := by decide +kernel
theorem dX10_arePromisesSound_18 : decode cX10_arePromisesSound 18 = .ok (.astore 4, 2) := by decide +kernel
theorem dX10_arePromisesSound_20 : decode cX10_arePromisesSound 20 = .ok (.aload 4, 2) := by decide +kernel
theorem dX10_arePromisesSound_22 : decode cX10_arePromisesSound 22 = .ok (.ifnull 50, 3) := by decide +kernel
theorem dX10_arePromisesSound_25 : decode cX10_arePromisesSound 25 = .ok (.aload 4, 2) := by decide +kernel
theorem dX10_arePromisesSound_27 : decode cX10_arePromisesSound 27 = .ok (.getfield 222, 3) := by decide +kernel
theorem dX10_arePromisesSound_30 : decode cX10_arePromisesSound 30 = .ok (.aload_n 0, 1) := by decide +kernel
theorem dX10_arePromisesSound_31 : decode cX10_arePromisesSound 31 = .ok (.aload 4, 2) := by decide +kernel
theorem dX10_arePromisesSound_33 : decode cX10_arePromisesSound 33 = .ok (.iconst 1, 1) := by decide +kernel
theorem dX10_arePromisesSound_34 : decode cX10_arePromisesSound 34 = .ok (.invokevirtual 519, 3) := by decide +kernel
theorem dX10_arePromisesSound_37 : decode cX10_arePromisesSound 37 = .ok (.if_icmp .ne 33, 3) := by decide +kernel
theorem dX10_arePromisesSound_40 : decode cX10_arePromisesSound 40 = .ok (.aload 4, 2) := by decide +kernel
theorem dX10_arePromisesSound_42 : decode cX10_arePromisesSound 42 = .ok (.getfield 222, 3) := by decide +kernel
theorem dX10_arePromisesSound_45 : decode cX10_arePromisesSound 45 = .ok (.aload 4, 2) := by decide +kernel
theorem dX10_arePromisesSound_47 : decode cX10_arePromisesSound 47 = .ok (.getfield 219, 3) := by decide +kernel
theorem dX10_arePromisesSound_50 : decode cX10_arePromisesSound 50 = .ok (.if_icmp .gt 20, 3) := by decide +kernel
theorem dX10_arePromisesSound_53 : decode cX10_arePromisesSound 53 = .ok (.aload 4, 2) := by decide +kernel
theorem dX10_arePromisesSound_55 : decode cX10_arePromisesSound 55 = .ok (.getfield 222, 3) := by decide +kernel
theorem dX10_arePromisesSound_58 : decode cX10_arePromisesSound 58 = .ok (.ifCond .le 14, 3) := by decide +kernel
theorem dX10_arePromisesSound_61 : decode cX10_arePromisesSound 61 = .ok (.aload_n 0, 1) := by decide +kernel
theorem dX10_arePromisesSound_62 : decode cX10_arePromisesSound 62 = .ok (.aload 4, 2) := by decide +kernel
theorem dX10_arePromisesSound_64 : decode cX10_arePromisesSound 64 = .ok (.invokevirtual 184, 3) := by decide +kernel
theorem dX10_arePromisesSound_67 : decode cX10_arePromisesSound 67 = .ok (.ifCond .eq 5, 3) := by decide +kernel
theorem dX10_arePromisesSound_70 : decode cX10_arePromisesSound 70 = .ok (.iconst 0, 1) := by decide +kernel
theorem dX10_arePromisesSound_71 : decode cX10_arePromisesSound 71 = .ok (.ireturn, 1) := by decide +kernel
theorem dX10_arePromisesSound_72 : decode cX10_arePromisesSound 72 = .ok (.iinc 3 1, 3) := by decide +kernel
theorem dX10_arePromisesSound_75 : decode cX10_arePromisesSound 75 = .ok (.goto (-65), 3) := by decide +kernel
theorem dX10_arePromisesSound_78 : decode cX10_arePromisesSound 78 = .ok (.iconst 1, 1) := by decide +kernel
theorem dX10_arePromisesSound_79 : decode cX10_arePromisesSound 79 = .ok (.ireturn, 1) := by decide +kernel
theorem dX10_areTracesSound_0 : decode cX10_areTracesSound 0 = .ok (.aload_n 0, 1) := by decide +kernel
theorem dX10_areTracesSound_1 : decode cX10_areTracesSound 1 = .ok (.getfield 29, 3) := by decide +kernel
theorem dX10_areTracesSound_4 : decode cX10_areTracesSound 4 = .ok (.astore_n 1, 1) := by decide +kernel
theorem dX10_areTracesSound_5 : decode cX10_areTracesSound 5 = .ok (.aload_n 1, 1) := by decide +kernel
theorem dX10_areTracesSound_6 : decode cX10_areTracesSound 6 = .ok (.arraylength, 1) := by decide +kernel
theorem dX10_areTracesSound_7 : decode cX10_areTracesSound 7 = .ok (.istore_n 2, 1) := by decide +kernel
theorem dX10_areTracesSound_8 : decode cX10_areTracesSound 8 = .ok (.iconst 0, 1) := by decide +kernel
theorem dX10_areTracesSound_9 : decode cX10_areTracesSound 9 = .ok (.istore_n 3, 1) := by decide +kernel
theorem dX10_areTracesSound_10 : decode cX10_areTracesSound 10 = .ok (.iload_n 3, 1) := by decide +kernel
theorem dX10_areTracesSound_11 : decode cX10_areTracesSound 11 = .ok (.iload_n 2, 1) := by decide +kernel
theorem dX10_areTracesSound_12 : decode cX10_areTracesSound 12 = .ok (.if_icmp .ge 30, 3) := by decide +kernel
theorem dX10_areTracesSound_15 : decode cX10_areTracesSound 15 = .ok (.aload_n 1, 1) := by decide +kernel
theorem dX10_areTracesSound_16 : decode cX10_areTracesSound 16 = .ok (.iload_n 3, 1) := by decide +kernel
theorem dX10_areTracesSound_17 : decode cX10_areTracesSound 17 = .ok (.aaload, 1) := by decide +kernel
theorem dX10_areTracesSound_18 : decode cX10_areTracesSound 18 = .ok (.astore 4, 2) := by decide +kernel
theorem dX10_areTracesSound_20 : decode cX10_areTracesSound 20 = .ok (.aload 4, 2) := by decide +kernel
theorem dX10_areTracesSound_22 : decode cX10_areTracesSound 22 = .ok (.ifnull 14, 3) := by decide +kernel
theorem dX10_areTracesSound_25 : decode cX10_areTracesSound 25 = .ok (.aload_n 0, 1) := by decide +kernel
theorem dX10_areTracesSound_26 : decode cX10_areTracesSound 26 = .ok (.aload 4, 2) := by decide +kernel
theorem dX10_areTracesSound_28 : decode cX10_areTracesSound 28 = .ok (.invokevirtual 526, 3) := by decide +kernel
theorem dX10_areTracesSound_31 : decode cX10_areTracesSound 31 = .ok (.ifCond .ne 5, 3) := by decide +kernel
theorem dX10_areTracesSound_34 : decode cX10_areTracesSound 34 = .ok (.iconst 0, 1) := by decide +kernel
theorem dX10_areTracesSound_35 : decode cX10_areTracesSound 35 = .ok (.ireturn, 1) := by decide +kernel
theorem dX10_areTracesSound_36 : decode cX10_areTracesSound 36 = .ok (.iinc 3 1, 3) := by decide +kernel
theorem dX10_areTracesSound_39 : decode cX10_areTracesSound 39 = .ok (.goto (-29), 3) := by decide +kernel
theorem dX10_areTracesSound_42 : decode cX10_areTracesSound 42 = .ok (.iconst 1, 1) := by decide +kernel
theorem dX10_areTracesSound_43 : decode cX10_areTracesSound 43 = .ok (.ireturn, 1) := by decide +kernel
theorem dX10_costOf_0 : decode cX10_costOf 0 = .ok (.aload_n 0, 1) := by decide +kernel
theorem dX10_costOf_1 : decode cX10_costOf 1 = .ok (.iload_n 1, 1) := by decide +kernel
theorem dX10_costOf_2 : decode cX10_costOf 2 = .ok (.invokevirtual 173, 3) := by decide +kernel
theorem dX10_costOf_5 : decode cX10_costOf 5 = .ok (.getfield 225, 3) := by decide +kernel
theorem dX10_costOf_8 : decode cX10_costOf 8 = .ok (.lreturn, 1) := by decide +kernel
theorem dX10_deliver_0 : decode cX10_deliver 0 = .ok (.aload_n 0, 1) := by decide +kernel
theorem dX10_deliver_1 : decode cX10_deliver 1 = .ok (.iload_n 1, 1) := by decide +kernel
theorem dX10_deliver_2 : decode cX10_deliver 2 = .ok (.invokevirtual 238, 3) := by decide +kernel
theorem dX10_deliver_5 : decode cX10_deliver 5 = .ok (.astore_n 2, 1) := by decide +kernel
theorem dX10_deliver_6 : decode cX10_deliver 6 = .ok (.aload_n 2, 1) := by decide +kernel
theorem dX10_deliver_7 : decode cX10_deliver 7 = .ok (.getfield 243, 3) := by decide +kernel
theorem dX10_deliver_10 : decode cX10_deliver 10 = .ok (.bipush 100, 2) := by decide +kernel
theorem dX10_deliver_12 : decode cX10_deliver 12 = .ok (.if_icmp .eq 22, 3) := by decide +kernel
theorem dX10_deliver_15 : decode cX10_deliver 15 = .ok (.aload_n 2, 1) := by decide +kernel
theorem dX10_deliver_16 : decode cX10_deliver 16 = .ok (.getfield 242, 3) := by decide +kernel
theorem dX10_deliver_19 : decode cX10_deliver 19 = .ok (.getfield 84, 3) := by decide +kernel
theorem dX10_deliver_22 : decode cX10_deliver 22 = .ok (.ifCond .eq 23, 3) := by decide +kernel
theorem dX10_deliver_25 : decode cX10_deliver 25 = .ok (.aload_n 2, 1) := by decide +kernel
theorem dX10_deliver_26 : decode cX10_deliver 26 = .ok (.getfield 243, 3) := by decide +kernel
theorem dX10_deliver_29 : decode cX10_deliver 29 = .ok (.bipush 102, 2) := by decide +kernel
theorem dX10_deliver_31 : decode cX10_deliver 31 = .ok (.if_icmp .eq 14, 3) := by decide +kernel
theorem dX10_deliver_34 : decode cX10_deliver 34 = .ok (.new 88, 3) := by decide +kernel
theorem dX10_deliver_37 : decode cX10_deliver 37 = .ok (.dup, 1) := by decide +kernel
theorem dX10_deliver_38 : decode cX10_deliver 38 = .ok (.ldc_w 302, 3) := by decide +kernel
theorem dX10_deliver_41 : decode cX10_deliver 41 = .ok (.invokespecial 92, 3) := by decide +kernel
theorem dX10_deliver_44 : decode cX10_deliver 44 = .ok (.athrow, 1) := by decide +kernel
theorem dX10_deliver_45 : decode cX10_deliver 45 = .ok (.aload_n 0, 1) := by decide +kernel
theorem dX10_deliver_46 : decode cX10_deliver 46 = .ok (.aload_n 2, 1) := by decide +kernel
theorem dX10_deliver_47 : decode cX10_deliver 47 = .ok (.getfield 242, 3) := by decide +kernel
theorem dX10_deliver_50 : decode cX10_deliver 50 = .ok (.invokevirtual 304, 3) := by decide +kernel
theorem dX10_deliver_53 : decode cX10_deliver 53 = .ok (.aload_n 2, 1) := by decide +kernel
theorem dX10_deliver_54 : decode cX10_deliver 54 = .ok (.getfield 308, 3) := by decide +kernel
theorem dX10_deliver_57 : decode cX10_deliver 57 = .ok (.if_icmp .ge 5, 3) := by decide +kernel
theorem dX10_deliver_60 : decode cX10_deliver 60 = .ok (.iconst 0, 1) := by decide +kernel
theorem dX10_deliver_61 : decode cX10_deliver 61 = .ok (.ireturn, 1) := by decide +kernel
theorem dX10_deliver_62 : decode cX10_deliver 62 = .ok (.aload_n 0, 1) := by decide +kernel
theorem dX10_deliver_63 : decode cX10_deliver 63 = .ok (.aload_n 2, 1) := by decide +kernel
theorem dX10_deliver_64 : decode cX10_deliver 64 = .ok (.invokevirtual 311, 3) := by decide +kernel
theorem dX10_deliver_67 : decode cX10_deliver 67 = .ok (.aload_n 0, 1) := by decide +kernel
theorem dX10_deliver_68 : decode cX10_deliver 68 = .ok (.aload_n 2, 1) := by decide +kernel
theorem dX10_deliver_69 : decode cX10_deliver 69 = .ok (.invokevirtual 314, 3) := by decide +kernel
theorem dX10_deliver_72 : decode cX10_deliver 72 = .ok (.aload_n 2, 1) := by decide +kernel
theorem dX10_deliver_73 : decode cX10_deliver 73 = .ok (.bipush 100, 2) := by decide +kernel
theorem dX10_deliver_75 : decode cX10_deliver 75 = .ok (.putfield 243, 3) := by decide +kernel
theorem dX10_deliver_78 : decode cX10_deliver 78 = .ok (.aload_n 2, 1) := by decide +kernel
theorem dX10_deliver_79 : decode cX10_deliver 79 = .ok (.aload_n 0, 1) := by decide +kernel
theorem dX10_deliver_80 : decode cX10_deliver 80 = .ok (.getfield 294, 3) := by decide +kernel
theorem dX10_deliver_83 : decode cX10_deliver 83 = .ok (.putfield 317, 3) := by decide +kernel
theorem dX10_deliver_86 : decode cX10_deliver 86 = .ok (.iconst 1, 1) := by decide +kernel
theorem dX10_deliver_87 : decode cX10_deliver 87 = .ok (.ireturn, 1) := by decide +kernel
theorem dX10_deliveredCost_0 : decode cX10_deliveredCost 0 = .ok (.aload_n 0, 1) := by decide +kernel
theorem dX10_deliveredCost_1 : decode cX10_deliveredCost 1 = .ok (.iload_n 1, 1) := by decide +kernel
theorem dX10_deliveredCost_2 : decode cX10_deliveredCost 2 = .ok (.invokevirtual 238, 3) := by decide +kernel
theorem dX10_deliveredCost_5 : decode cX10_deliveredCost 5 = .ok (.astore_n 2, 1) := by decide +kernel
theorem dX10_deliveredCost_6 : decode cX10_deliveredCost 6 = .ok (.aload_n 2, 1) := by decide +kernel
theorem dX10_deliveredCost_7 : decode cX10_deliveredCost 7 = .ok (.getfield 243, 3) := by decide +kernel
theorem dX10_deliveredCost_10 : decode cX10_deliveredCost 10 = .ok (.bipush 100, 2) := by decide +kernel
theorem dX10_deliveredCost_12 : decode cX10_deliveredCost 12 = .ok (.if_icmp .eq 14, 3) := by decide +kernel
theorem dX10_deliveredCost_15 : decode cX10_deliveredCost 15 = .ok (.new 324, 3) := by decide +kernel
theorem dX10_deliveredCost_18 : decode cX10_deliveredCost 18 = .ok (.dup, 1) := by decide +kernel
theorem dX10_deliveredCost_19 : decode cX10_deliveredCost 19 = .ok (.ldc_w 353, 3) := by decide +kernel
theorem dX10_deliveredCost_22 : decode cX10_deliveredCost 22 = .ok (.invokespecial 328, 3) := by decide +kernel
theorem dX10_deliveredCost_25 : decode cX10_deliveredCost 25 = .ok (.athrow, 1) := by decide +kernel
theorem dX10_deliveredCost_26 : decode cX10_deliveredCost 26 = .ok (.aload_n 2, 1) := by decide +kernel
theorem dX10_deliveredCost_27 : decode cX10_deliveredCost 27 = .ok (.getfield 355, 3) := by decide +kernel
theorem dX10_deliveredCost_30 : decode cX10_deliveredCost 30 = .ok (.lreturn, 1) := by decide +kernel
theorem dX10_findSupplier_0 : decode cX10_findSupplier 0 = .ok (.iload_n 1, 1) := by decide +kernel
theorem dX10_findSupplier_1 : decode cX10_findSupplier 1 = .ok (.ifCond .lt 21, 3) := by decide +kernel
theorem dX10_findSupplier_4 : decode cX10_findSupplier 4 = .ok (.iload_n 1, 1) := by decide +kernel
theorem dX10_findSupplier_5 : decode cX10_findSupplier 5 = .ok (.aload_n 0, 1) := by decide +kernel
theorem dX10_findSupplier_6 : decode cX10_findSupplier 6 = .ok (.getfield 23, 3) := by decide +kernel
theorem dX10_findSupplier_9 : decode cX10_findSupplier 9 = .ok (.arraylength, 1) := by decide +kernel
theorem dX10_findSupplier_10 : decode cX10_findSupplier 10 = .ok (.if_icmp .ge 12, 3) := by decide +kernel
theorem dX10_findSupplier_13 : decode cX10_findSupplier 13 = .ok (.aload_n 0, 1) := by decide +kernel
theorem dX10_findSupplier_14 : decode cX10_findSupplier 14 = .ok (.getfield 23, 3) := by decide +kernel
theorem dX10_findSupplier_17 : decode cX10_findSupplier 17 = .ok (.iload_n 1, 1) := by decide +kernel
theorem dX10_findSupplier_18 : decode cX10_findSupplier 18 = .ok (.aaload, 1) := by decide +kernel
theorem dX10_findSupplier_19 : decode cX10_findSupplier 19 = .ok (.goto 4, 3) := by decide +kernel
theorem dX10_findSupplier_22 : decode cX10_findSupplier 22 = .ok (.aconst_null, 1) := by decide +kernel
theorem dX10_findSupplier_23 : decode cX10_findSupplier 23 = .ok (.areturn, 1) := by decide +kernel
theorem dX10_finishedAt_0 : decode cX10_finishedAt 0 = .ok (.aload_n 0, 1) := by decide +kernel
theorem dX10_finishedAt_1 : decode cX10_finishedAt 1 = .ok (.iload_n 1, 1) := by decide +kernel
theorem dX10_finishedAt_2 : decode cX10_finishedAt 2 = .ok (.invokevirtual 238, 3) := by decide +kernel
theorem dX10_finishedAt_5 : decode cX10_finishedAt 5 = .ok (.astore_n 2, 1) := by decide +kernel
theorem dX10_finishedAt_6 : decode cX10_finishedAt 6 = .ok (.aload_n 2, 1) := by decide +kernel
theorem dX10_finishedAt_7 : decode cX10_finishedAt 7 = .ok (.getfield 280, 3) := by decide +kernel
theorem dX10_finishedAt_10 : decode cX10_finishedAt 10 = .ok (.getfield 329, 3) := by decide +kernel
theorem dX10_finishedAt_13 : decode cX10_finishedAt 13 = .ok (.iconst (-1), 1) := by decide +kernel
theorem dX10_finishedAt_14 : decode cX10_finishedAt 14 = .ok (.if_icmp .ne 14, 3) := by decide +kernel
theorem dX10_finishedAt_17 : decode cX10_finishedAt 17 = .ok (.new 324, 3) := by decide +kernel
theorem dX10_finishedAt_20 : decode cX10_finishedAt 20 = .ok (.dup, 1) := by decide +kernel
theorem dX10_finishedAt_21 : decode cX10_finishedAt 21 = .ok (.ldc_w 332, 3) := by decide +kernel
theorem dX10_finishedAt_24 : decode cX10_finishedAt 24 = .ok (.invokespecial 328, 3) := by decide +kernel
theorem dX10_finishedAt_27 : decode cX10_finishedAt 27 = .ok (.athrow, 1) := by decide +kernel
theorem dX10_finishedAt_28 : decode cX10_finishedAt 28 = .ok (.aload_n 2, 1) := by decide +kernel
theorem dX10_finishedAt_29 : decode cX10_finishedAt 29 = .ok (.getfield 280, 3) := by decide +kernel
theorem dX10_finishedAt_32 : decode cX10_finishedAt 32 = .ok (.getfield 329, 3) := by decide +kernel
theorem dX10_finishedAt_35 : decode cX10_finishedAt 35 = .ok (.ireturn, 1) := by decide +kernel
theorem dX10_hold_0 : decode cX10_hold 0 = .ok (.aload_n 0, 1) := by decide +kernel
theorem dX10_hold_1 : decode cX10_hold 1 = .ok (.iload_n 1, 1) := by decide +kernel
theorem dX10_hold_2 : decode cX10_hold 2 = .ok (.invokevirtual 173, 3) := by decide +kernel
theorem dX10_hold_5 : decode cX10_hold 5 = .ok (.astore_n 3, 1) := by decide +kernel
theorem dX10_hold_6 : decode cX10_hold 6 = .ok (.iload_n 2, 1) := by decide +kernel
theorem dX10_hold_7 : decode cX10_hold 7 = .ok (.ifCond .eq 9, 3) := by decide +kernel
theorem dX10_hold_10 : decode cX10_hold 10 = .ok (.aload_n 0, 1) := by decide +kernel
theorem dX10_hold_11 : decode cX10_hold 11 = .ok (.aload_n 3, 1) := by decide +kernel
theorem dX10_hold_12 : decode cX10_hold 12 = .ok (.invokevirtual 177, 3) := by decide +kernel
theorem dX10_hold_15 : decode cX10_hold 15 = .ok (.ireturn, 1) := by decide +kernel
theorem dX10_hold_16 : decode cX10_hold 16 = .ok (.aload_n 0, 1) := by decide +kernel
theorem dX10_hold_17 : decode cX10_hold 17 = .ok (.getfield 42, 3) := by decide +kernel
theorem dX10_hold_20 : decode cX10_hold 20 = .ok (.iload_n 1, 1) := by decide +kernel
theorem dX10_hold_21 : decode cX10_hold 21 = .ok (.invokevirtual 181, 3) := by decide +kernel
theorem dX10_hold_24 : decode cX10_hold 24 = .ok (.iconst 0, 1) := by decide +kernel
theorem dX10_hold_25 : decode cX10_hold 25 = .ok (.ireturn, 1) := by decide +kernel
theorem dX10_inTimeShare_0 : decode cX10_inTimeShare 0 = .ok (.iconst 0, 1) := by decide +kernel
theorem dX10_inTimeShare_1 : decode cX10_inTimeShare 1 = .ok (.istore_n 1, 1) := by decide +kernel
theorem dX10_inTimeShare_2 : decode cX10_inTimeShare 2 = .ok (.iconst 0, 1) := by decide +kernel
theorem dX10_inTimeShare_3 : decode cX10_inTimeShare 3 = .ok (.istore_n 2, 1) := by decide +kernel
theorem dX10_inTimeShare_4 : decode cX10_inTimeShare 4 = .ok (.aload_n 0, 1) := by decide +kernel
theorem dX10_inTimeShare_5 : decode cX10_inTimeShare 5 = .ok (.getfield 35, 3) := by decide +kernel
theorem dX10_inTimeShare_8 : decode cX10_inTimeShare 8 = .ok (.astore_n 3, 1) := by decide +kernel
theorem dX10_inTimeShare_9 : decode cX10_inTimeShare 9 = .ok (.aload_n 3, 1) := by decide +kernel
theorem dX10_inTimeShare_10 : decode cX10_inTimeShare 10 = .ok (.arraylength, 1) := by decide +kernel
theorem dX10_inTimeShare_11 : decode cX10_inTimeShare 11 = .ok (.istore 4, 2) := by decide +kernel
theorem dX10_inTimeShare_13 : decode cX10_inTimeShare 13 = .ok (.iconst 0, 1) := by decide +kernel
theorem dX10_inTimeShare_14 : decode cX10_inTimeShare 14 = .ok (.istore 5, 2) := by decide +kernel
theorem dX10_inTimeShare_16 : decode cX10_inTimeShare 16 = .ok (.iload 5, 2) := by decide +kernel
theorem dX10_inTimeShare_18 : decode cX10_inTimeShare 18 = .ok (.iload 4, 2) := by decide +kernel
theorem dX10_inTimeShare_20 : decode cX10_inTimeShare 20 = .ok (.if_icmp .ge 54, 3) := by decide +kernel
theorem dX10_inTimeShare_23 : decode cX10_inTimeShare 23 = .ok (.aload_n 3, 1) := by decide +kernel
theorem dX10_inTimeShare_24 : decode cX10_inTimeShare 24 = .ok (.iload 5, 2) := by decide +kernel
theorem dX10_inTimeShare_26 : decode cX10_inTimeShare 26 = .ok (.aaload, 1) := by decide +kernel
theorem dX10_inTimeShare_27 : decode cX10_inTimeShare 27 = .ok (.astore 6, 2) := by decide +kernel
theorem dX10_inTimeShare_29 : decode cX10_inTimeShare 29 = .ok (.aload 6, 2) := by decide +kernel
theorem dX10_inTimeShare_31 : decode cX10_inTimeShare 31 = .ok (.ifnull 37, 3) := by decide +kernel
theorem dX10_inTimeShare_34 : decode cX10_inTimeShare 34 = .ok (.aload 6, 2) := by decide +kernel
theorem dX10_inTimeShare_36 : decode cX10_inTimeShare 36 = .ok (.getfield 243, 3) := by decide +kernel
theorem dX10_inTimeShare_39 : decode cX10_inTimeShare 39 = .ok (.bipush 100, 2) := by decide +kernel
theorem dX10_inTimeShare_41 : decode cX10_inTimeShare 41 = .ok (.if_icmp .ne 27, 3) := by decide +kernel
theorem dX10_inTimeShare_44 : decode cX10_inTimeShare 44 = .ok (.iinc 1 1, 3) := by decide +kernel
theorem dX10_inTimeShare_47 : decode cX10_inTimeShare 47 = .ok (.iload_n 2, 1) := by decide +kernel
theorem dX10_inTimeShare_48 : decode cX10_inTimeShare 48 = .ok (.aload 6, 2) := by decide +kernel
theorem dX10_inTimeShare_50 : decode cX10_inTimeShare 50 = .ok (.getfield 317, 3) := by decide +kernel
theorem dX10_inTimeShare_53 : decode cX10_inTimeShare 53 = .ok (.aload 6, 2) := by decide +kernel
theorem dX10_inTimeShare_55 : decode cX10_inTimeShare 55 = .ok (.getfield 358, 3) := by decide +kernel
theorem dX10_inTimeShare_58 : decode cX10_inTimeShare 58 = .ok (.if_icmp .gt 7, 3) := by decide +kernel
theorem dX10_inTimeShare_61 : decode cX10_inTimeShare 61 = .ok (.iconst 1, 1) := by decide +kernel
theorem dX10_inTimeShare_62 : decode cX10_inTimeShare 62 = .ok (.goto 4, 3) := by decide +kernel
theorem dX10_inTimeShare_65 : decode cX10_inTimeShare 65 = .ok (.iconst 0, 1) := by decide +kernel
theorem dX10_inTimeShare_66 : decode cX10_inTimeShare 66 = .ok (.iadd, 1) := by decide +kernel
theorem dX10_inTimeShare_67 : decode cX10_inTimeShare 67 = .ok (.istore_n 2, 1) := by decide +kernel
theorem dX10_inTimeShare_68 : decode cX10_inTimeShare 68 = .ok (.iinc 5 1, 3) := by decide +kernel
theorem dX10_inTimeShare_71 : decode cX10_inTimeShare 71 = .ok (.goto (-55), 3) := by decide +kernel
theorem dX10_inTimeShare_74 : decode cX10_inTimeShare 74 = .ok (.iload_n 1, 1) := by decide +kernel
theorem dX10_inTimeShare_75 : decode cX10_inTimeShare 75 = .ok (.ifCond .ne 14, 3) := by decide +kernel
theorem dX10_inTimeShare_78 : decode cX10_inTimeShare 78 = .ok (.new 361, 3) := by decide +kernel
theorem dX10_inTimeShare_81 : decode cX10_inTimeShare 81 = .ok (.dup, 1) := by decide +kernel
theorem dX10_inTimeShare_82 : decode cX10_inTimeShare 82 = .ok (.ldc_w 363, 3) := by decide +kernel
theorem dX10_inTimeShare_85 : decode cX10_inTimeShare 85 = .ok (.invokespecial 365, 3) := by decide +kernel
theorem dX10_inTimeShare_88 : decode cX10_inTimeShare 88 = .ok (.athrow, 1) := by decide +kernel
theorem dX10_inTimeShare_89 : decode cX10_inTimeShare 89 = .ok (.iload_n 2, 1) := by decide +kernel
theorem dX10_inTimeShare_90 : decode cX10_inTimeShare 90 = .ok (.i2f, 1) := by decide +kernel
theorem dX10_inTimeShare_91 : decode cX10_inTimeShare 91 = .ok (.iload_n 1, 1) := by decide +kernel
theorem dX10_inTimeShare_92 : decode cX10_inTimeShare 92 = .ok (.i2f, 1) := by decide +kernel
theorem dX10_inTimeShare_93 : decode cX10_inTimeShare 93 = .ok (.fdiv, 1) := by decide +kernel
theorem dX10_inTimeShare_94 : decode cX10_inTimeShare 94 = .ok (.freturn, 1) := by decide +kernel
theorem dX10_init_0 : decode cX10_init 0 = .ok (.aload_n 0, 1) := by decide +kernel
theorem dX10_init_1 : decode cX10_init 1 = .ok (.invokespecial 1, 3) := by decide +kernel
theorem dX10_init_4 : decode cX10_init 4 = .ok (.aload_n 0, 1) := by decide +kernel
theorem dX10_init_5 : decode cX10_init 5 = .ok (.iconst 5, 1) := by decide +kernel
theorem dX10_init_6 : decode cX10_init 6 = .ok (.anewarray 9, 3) := by decide +kernel
theorem dX10_init_9 : decode cX10_init 9 = .ok (.putfield 11, 3) := by decide +kernel
theorem dX10_init_12 : decode cX10_init 12 = .ok (.aload_n 0, 1) := by decide +kernel
theorem dX10_init_13 : decode cX10_init 13 = .ok (.bipush 12, 2) := by decide +kernel
theorem dX10_init_15 : decode cX10_init 15 = .ok (.anewarray 15, 3) := by decide +kernel
theorem dX10_init_18 : decode cX10_init 18 = .ok (.putfield 17, 3) := by decide +kernel
theorem dX10_init_21 : decode cX10_init 21 = .ok (.aload_n 0, 1) := by decide +kernel
theorem dX10_init_22 : decode cX10_init 22 = .ok (.iconst 4, 1) := by decide +kernel
theorem dX10_init_23 : decode cX10_init 23 = .ok (.anewarray 21, 3) := by decide +kernel
theorem dX10_init_26 : decode cX10_init 26 = .ok (.putfield 23, 3) := by decide +kernel
theorem dX10_init_29 : decode cX10_init 29 = .ok (.aload_n 0, 1) := by decide +kernel
theorem dX10_init_30 : decode cX10_init 30 = .ok (.bipush 90, 2) := by decide +kernel
theorem dX10_init_32 : decode cX10_init 32 = .ok (.anewarray 27, 3) := by decide +kernel
theorem dX10_init_35 : decode cX10_init 35 = .ok (.putfield 29, 3) := by decide +kernel
theorem dX10_init_38 : decode cX10_init 38 = .ok (.aload_n 0, 1) := by decide +kernel
theorem dX10_init_39 : decode cX10_init 39 = .ok (.bipush 30, 2) := by decide +kernel
theorem dX10_init_41 : decode cX10_init 41 = .ok (.anewarray 33, 3) := by decide +kernel
theorem dX10_init_44 : decode cX10_init 44 = .ok (.putfield 35, 3) := by decide +kernel
theorem dX10_init_47 : decode cX10_init 47 = .ok (.aload_n 0, 1) := by decide +kernel
theorem dX10_init_48 : decode cX10_init 48 = .ok (.new 39, 3) := by decide +kernel
theorem dX10_init_51 : decode cX10_init 51 = .ok (.dup, 1) := by decide +kernel
theorem dX10_init_52 : decode cX10_init 52 = .ok (.invokespecial 41, 3) := by decide +kernel
theorem dX10_init_55 : decode cX10_init 55 = .ok (.putfield 42, 3) := by decide +kernel
theorem dX10_init_58 : decode cX10_init 58 = .ok (.iconst 0, 1) := by decide +kernel
theorem dX10_init_59 : decode cX10_init 59 = .ok (.istore_n 1, 1) := by decide +kernel
theorem dX10_init_60 : decode cX10_init 60 = .ok (.iload_n 1, 1) := by decide +kernel
theorem dX10_init_61 : decode cX10_init 61 = .ok (.aload_n 0, 1) := by decide +kernel
theorem dX10_init_62 : decode cX10_init 62 = .ok (.getfield 23, 3) := by decide +kernel
theorem dX10_init_65 : decode cX10_init 65 = .ok (.arraylength, 1) := by decide +kernel
theorem dX10_init_66 : decode cX10_init 66 = .ok (.if_icmp .ge 22, 3) := by decide +kernel
theorem dX10_init_69 : decode cX10_init 69 = .ok (.aload_n 0, 1) := by decide +kernel
theorem dX10_init_70 : decode cX10_init 70 = .ok (.getfield 23, 3) := by decide +kernel
theorem dX10_init_73 : decode cX10_init 73 = .ok (.iload_n 1, 1) := by decide +kernel
theorem dX10_init_74 : decode cX10_init 74 = .ok (.new 21, 3) := by decide +kernel
theorem dX10_init_77 : decode cX10_init 77 = .ok (.dup, 1) := by decide +kernel
theorem dX10_init_78 : decode cX10_init 78 = .ok (.invokespecial 46, 3) := by decide +kernel
theorem dX10_init_81 : decode cX10_init 81 = .ok (.aastore, 1) := by decide +kernel
theorem dX10_init_82 : decode cX10_init 82 = .ok (.iinc 1 1, 3) := by decide +kernel
theorem dX10_init_85 : decode cX10_init 85 = .ok (.goto (-25), 3) := by decide +kernel
theorem dX10_init_88 : decode cX10_init 88 = .ok (.return_, 1) := by decide +kernel
theorem dX10_isFrom_0 : decode cX10_isFrom 0 = .ok (.iload_n 0, 1) := by decide +kernel
theorem dX10_isFrom_1 : decode cX10_isFrom 1 = .ok (.iload_n 1, 1) := by decide +kernel
theorem dX10_isFrom_2 : decode cX10_isFrom 2 = .ok (.if_icmp .lt 12, 3) := by decide +kernel
theorem dX10_isFrom_5 : decode cX10_isFrom 5 = .ok (.iload_n 0, 1) := by decide +kernel
theorem dX10_isFrom_6 : decode cX10_isFrom 6 = .ok (.iload_n 2, 1) := by decide +kernel
theorem dX10_isFrom_7 : decode cX10_isFrom 7 = .ok (.if_icmp .gt 7, 3) := by decide +kernel
theorem dX10_isFrom_10 : decode cX10_isFrom 10 = .ok (.iconst 1, 1) := by decide +kernel
theorem dX10_isFrom_11 : decode cX10_isFrom 11 = .ok (.goto 4, 3) := by decide +kernel
theorem dX10_isFrom_14 : decode cX10_isFrom 14 = .ok (.iconst 0, 1) := by decide +kernel
theorem dX10_isFrom_15 : decode cX10_isFrom 15 = .ok (.ireturn, 1) := by decide +kernel
theorem dX10_isHeld_0 : decode cX10_isHeld 0 = .ok (.aload_n 0, 1) := by decide +kernel
theorem dX10_isHeld_1 : decode cX10_isHeld 1 = .ok (.aload_n 0, 1) := by decide +kernel
theorem dX10_isHeld_2 : decode cX10_isHeld 2 = .ok (.iload_n 1, 1) := by decide +kernel
theorem dX10_isHeld_3 : decode cX10_isHeld 3 = .ok (.invokevirtual 173, 3) := by decide +kernel
theorem dX10_isHeld_6 : decode cX10_isHeld 6 = .ok (.invokevirtual 184, 3) := by decide +kernel
theorem dX10_isHeld_9 : decode cX10_isHeld 9 = .ok (.ireturn, 1) := by decide +kernel
theorem dX10_isIn_0 : decode cX10_isIn 0 = .ok (.aload_n 0, 1) := by decide +kernel
theorem dX10_isIn_1 : decode cX10_isIn 1 = .ok (.iload_n 1, 1) := by decide +kernel
theorem dX10_isIn_2 : decode cX10_isIn 2 = .ok (.invokevirtual 173, 3) := by decide +kernel
theorem dX10_isIn_5 : decode cX10_isIn 5 = .ok (.astore_n 3, 1) := by decide +kernel
theorem dX10_isIn_6 : decode cX10_isIn 6 = .ok (.aload_n 0, 1) := by decide +kernel
theorem dX10_isIn_7 : decode cX10_isIn 7 = .ok (.iload_n 2, 1) := by decide +kernel
theorem dX10_isIn_8 : decode cX10_isIn 8 = .ok (.invokevirtual 173, 3) := by decide +kernel
theorem dX10_isIn_11 : decode cX10_isIn 11 = .ok (.astore 4, 2) := by decide +kernel
theorem dX10_isIn_13 : decode cX10_isIn 13 = .ok (.aload 4, 2) := by decide +kernel
theorem dX10_isIn_15 : decode cX10_isIn 15 = .ok (.getfield 342, 3) := by decide +kernel
theorem dX10_isIn_18 : decode cX10_isIn 18 = .ok (.aload_n 3, 1) := by decide +kernel
theorem dX10_isIn_19 : decode cX10_isIn 19 = .ok (.getfield 157, 3) := by decide +kernel
theorem dX10_isIn_22 : decode cX10_isIn 22 = .ok (.invokevirtual 212, 3) := by decide +kernel
theorem dX10_isIn_25 : decode cX10_isIn 25 = .ok (.ireturn, 1) := by decide +kernel
theorem dX10_isSound_0 : decode cX10_isSound 0 = .ok (.aload_n 0, 1) := by decide +kernel
theorem dX10_isSound_1 : decode cX10_isSound 1 = .ok (.invokevirtual 372, 3) := by decide +kernel
theorem dX10_isSound_4 : decode cX10_isSound 4 = .ok (.ifCond .eq 35, 3) := by decide +kernel
theorem dX10_isSound_7 : decode cX10_isSound 7 = .ok (.aload_n 0, 1) := by decide +kernel
theorem dX10_isSound_8 : decode cX10_isSound 8 = .ok (.invokevirtual 375, 3) := by decide +kernel
theorem dX10_isSound_11 : decode cX10_isSound 11 = .ok (.ifCond .eq 28, 3) := by decide +kernel
theorem dX10_isSound_14 : decode cX10_isSound 14 = .ok (.aload_n 0, 1) := by decide +kernel
theorem dX10_isSound_15 : decode cX10_isSound 15 = .ok (.invokevirtual 378, 3) := by decide +kernel
theorem dX10_isSound_18 : decode cX10_isSound 18 = .ok (.ifCond .eq 21, 3) := by decide +kernel
theorem dX10_isSound_21 : decode cX10_isSound 21 = .ok (.aload_n 0, 1) := by decide +kernel
theorem dX10_isSound_22 : decode cX10_isSound 22 = .ok (.invokevirtual 381, 3) := by decide +kernel
theorem dX10_isSound_25 : decode cX10_isSound 25 = .ok (.ifCond .eq 14, 3) := by decide +kernel
theorem dX10_isSound_28 : decode cX10_isSound 28 = .ok (.aload_n 0, 1) := by decide +kernel
theorem dX10_isSound_29 : decode cX10_isSound 29 = .ok (.invokevirtual 384, 3) := by decide +kernel
theorem dX10_isSound_32 : decode cX10_isSound 32 = .ok (.ifCond .eq 7, 3) := by decide +kernel
theorem dX10_isSound_35 : decode cX10_isSound 35 = .ok (.iconst 1, 1) := by decide +kernel
theorem dX10_isSound_36 : decode cX10_isSound 36 = .ok (.goto 4, 3) := by decide +kernel
theorem dX10_isSound_39 : decode cX10_isSound 39 = .ok (.iconst 0, 1) := by decide +kernel
theorem dX10_isSound_40 : decode cX10_isSound 40 = .ok (.ireturn, 1) := by decide +kernel
theorem dX10_knownLot_0 : decode cX10_knownLot 0 = .ok (.iload_n 1, 1) := by decide +kernel
theorem dX10_knownLot_1 : decode cX10_knownLot 1 = .ok (.ifCond .lt 21, 3) := by decide +kernel
theorem dX10_knownLot_4 : decode cX10_knownLot 4 = .ok (.iload_n 1, 1) := by decide +kernel
theorem dX10_knownLot_5 : decode cX10_knownLot 5 = .ok (.aload_n 0, 1) := by decide +kernel
theorem dX10_knownLot_6 : decode cX10_knownLot 6 = .ok (.getfield 29, 3) := by decide +kernel
theorem dX10_knownLot_9 : decode cX10_knownLot 9 = .ok (.arraylength, 1) := by decide +kernel
theorem dX10_knownLot_10 : decode cX10_knownLot 10 = .ok (.if_icmp .ge 12, 3) := by decide +kernel
theorem dX10_knownLot_13 : decode cX10_knownLot 13 = .ok (.aload_n 0, 1) := by decide +kernel
theorem dX10_knownLot_14 : decode cX10_knownLot 14 = .ok (.getfield 29, 3) := by decide +kernel
theorem dX10_knownLot_17 : decode cX10_knownLot 17 = .ok (.iload_n 1, 1) := by decide +kernel
theorem dX10_knownLot_18 : decode cX10_knownLot 18 = .ok (.aaload, 1) := by decide +kernel
theorem dX10_knownLot_19 : decode cX10_knownLot 19 = .ok (.goto 4, 3) := by decide +kernel
theorem dX10_knownLot_22 : decode cX10_knownLot 22 = .ok (.aconst_null, 1) := by decide +kernel
theorem dX10_knownLot_23 : decode cX10_knownLot 23 = .ok (.astore_n 2, 1) := by decide +kernel
theorem dX10_knownLot_24 : decode cX10_knownLot 24 = .ok (.aload_n 2, 1) := by decide +kernel
theorem dX10_knownLot_25 : decode cX10_knownLot 25 = .ok (.ifnonnull 14, 3) := by decide +kernel
theorem dX10_knownLot_28 : decode cX10_knownLot 28 = .ok (.new 164, 3) := by decide +kernel
theorem dX10_knownLot_31 : decode cX10_knownLot 31 = .ok (.dup, 1) := by decide +kernel
theorem dX10_knownLot_32 : decode cX10_knownLot 32 = .ok (.ldc_w 391, 3) := by decide +kernel
theorem dX10_knownLot_35 : decode cX10_knownLot 35 = .ok (.invokespecial 168, 3) := by decide +kernel
theorem dX10_knownLot_38 : decode cX10_knownLot 38 = .ok (.athrow, 1) := by decide +kernel
theorem dX10_knownLot_39 : decode cX10_knownLot 39 = .ok (.aload_n 2, 1) := by decide +kernel
theorem dX10_knownLot_40 : decode cX10_knownLot 40 = .ok (.areturn, 1) := by decide +kernel
theorem dX10_knownMachine_0 : decode cX10_knownMachine 0 = .ok (.iload_n 1, 1) := by decide +kernel
theorem dX10_knownMachine_1 : decode cX10_knownMachine 1 = .ok (.ifCond .lt 21, 3) := by decide +kernel
theorem dX10_knownMachine_4 : decode cX10_knownMachine 4 = .ok (.iload_n 1, 1) := by decide +kernel
theorem dX10_knownMachine_5 : decode cX10_knownMachine 5 = .ok (.aload_n 0, 1) := by decide +kernel
theorem dX10_knownMachine_6 : decode cX10_knownMachine 6 = .ok (.getfield 11, 3) := by decide +kernel
theorem dX10_knownMachine_9 : decode cX10_knownMachine 9 = .ok (.arraylength, 1) := by decide +kernel
theorem dX10_knownMachine_10 : decode cX10_knownMachine 10 = .ok (.if_icmp .ge 12, 3) := by decide +kernel
theorem dX10_knownMachine_13 : decode cX10_knownMachine 13 = .ok (.aload_n 0, 1) := by decide +kernel
theorem dX10_knownMachine_14 : decode cX10_knownMachine 14 = .ok (.getfield 11, 3) := by decide +kernel
theorem dX10_knownMachine_17 : decode cX10_knownMachine 17 = .ok (.iload_n 1, 1) := by decide +kernel
theorem dX10_knownMachine_18 : decode cX10_knownMachine 18 = .ok (.aaload, 1) := by decide +kernel
theorem dX10_knownMachine_19 : decode cX10_knownMachine 19 = .ok (.goto 4, 3) := by decide +kernel
theorem dX10_knownMachine_22 : decode cX10_knownMachine 22 = .ok (.aconst_null, 1) := by decide +kernel
theorem dX10_knownMachine_23 : decode cX10_knownMachine 23 = .ok (.astore_n 2, 1) := by decide +kernel
theorem dX10_knownMachine_24 : decode cX10_knownMachine 24 = .ok (.aload_n 2, 1) := by decide +kernel
theorem dX10_knownMachine_25 : decode cX10_knownMachine 25 = .ok (.ifnonnull 14, 3) := by decide +kernel
theorem dX10_knownMachine_28 : decode cX10_knownMachine 28 = .ok (.new 164, 3) := by decide +kernel
theorem dX10_knownMachine_31 : decode cX10_knownMachine 31 = .ok (.dup, 1) := by decide +kernel
theorem dX10_knownMachine_32 : decode cX10_knownMachine 32 = .ok (.ldc_w 387, 3) := by decide +kernel
theorem dX10_knownMachine_35 : decode cX10_knownMachine 35 = .ok (.invokespecial 168, 3) := by decide +kernel
theorem dX10_knownMachine_38 : decode cX10_knownMachine 38 = .ok (.athrow, 1) := by decide +kernel
theorem dX10_knownMachine_39 : decode cX10_knownMachine 39 = .ok (.aload_n 2, 1) := by decide +kernel
theorem dX10_knownMachine_40 : decode cX10_knownMachine 40 = .ok (.areturn, 1) := by decide +kernel
theorem dX10_knownOrder_0 : decode cX10_knownOrder 0 = .ok (.iload_n 1, 1) := by decide +kernel
theorem dX10_knownOrder_1 : decode cX10_knownOrder 1 = .ok (.ifCond .lt 21, 3) := by decide +kernel
theorem dX10_knownOrder_4 : decode cX10_knownOrder 4 = .ok (.iload_n 1, 1) := by decide +kernel
theorem dX10_knownOrder_5 : decode cX10_knownOrder 5 = .ok (.aload_n 0, 1) := by decide +kernel
theorem dX10_knownOrder_6 : decode cX10_knownOrder 6 = .ok (.getfield 35, 3) := by decide +kernel
theorem dX10_knownOrder_9 : decode cX10_knownOrder 9 = .ok (.arraylength, 1) := by decide +kernel
theorem dX10_knownOrder_10 : decode cX10_knownOrder 10 = .ok (.if_icmp .ge 12, 3) := by decide +kernel
theorem dX10_knownOrder_13 : decode cX10_knownOrder 13 = .ok (.aload_n 0, 1) := by decide +kernel
theorem dX10_knownOrder_14 : decode cX10_knownOrder 14 = .ok (.getfield 35, 3) := by decide +kernel
theorem dX10_knownOrder_17 : decode cX10_knownOrder 17 = .ok (.iload_n 1, 1) := by decide +kernel
theorem dX10_knownOrder_18 : decode cX10_knownOrder 18 = .ok (.aaload, 1) := by decide +kernel
theorem dX10_knownOrder_19 : decode cX10_knownOrder 19 = .ok (.goto 4, 3) := by decide +kernel
theorem dX10_knownOrder_22 : decode cX10_knownOrder 22 = .ok (.aconst_null, 1) := by decide +kernel
theorem dX10_knownOrder_23 : decode cX10_knownOrder 23 = .ok (.astore_n 2, 1) := by decide +kernel
theorem dX10_knownOrder_24 : decode cX10_knownOrder 24 = .ok (.aload_n 2, 1) := by decide +kernel
theorem dX10_knownOrder_25 : decode cX10_knownOrder 25 = .ok (.ifnonnull 14, 3) := by decide +kernel
theorem dX10_knownOrder_28 : decode cX10_knownOrder 28 = .ok (.new 164, 3) := by decide +kernel
theorem dX10_knownOrder_31 : decode cX10_knownOrder 31 = .ok (.dup, 1) := by decide +kernel
theorem dX10_knownOrder_32 : decode cX10_knownOrder 32 = .ok (.ldc_w 393, 3) := by decide +kernel
theorem dX10_knownOrder_35 : decode cX10_knownOrder 35 = .ok (.invokespecial 168, 3) := by decide +kernel
theorem dX10_knownOrder_38 : decode cX10_knownOrder 38 = .ok (.athrow, 1) := by decide +kernel
theorem dX10_knownOrder_39 : decode cX10_knownOrder 39 = .ok (.aload_n 2, 1) := by decide +kernel
theorem dX10_knownOrder_40 : decode cX10_knownOrder 40 = .ok (.areturn, 1) := by decide +kernel
theorem dX10_knownPart_0 : decode cX10_knownPart 0 = .ok (.iload_n 1, 1) := by decide +kernel
theorem dX10_knownPart_1 : decode cX10_knownPart 1 = .ok (.ifCond .lt 21, 3) := by decide +kernel
theorem dX10_knownPart_4 : decode cX10_knownPart 4 = .ok (.iload_n 1, 1) := by decide +kernel
theorem dX10_knownPart_5 : decode cX10_knownPart 5 = .ok (.aload_n 0, 1) := by decide +kernel
theorem dX10_knownPart_6 : decode cX10_knownPart 6 = .ok (.getfield 17, 3) := by decide +kernel
theorem dX10_knownPart_9 : decode cX10_knownPart 9 = .ok (.arraylength, 1) := by decide +kernel
theorem dX10_knownPart_10 : decode cX10_knownPart 10 = .ok (.if_icmp .ge 12, 3) := by decide +kernel
theorem dX10_knownPart_13 : decode cX10_knownPart 13 = .ok (.aload_n 0, 1) := by decide +kernel
theorem dX10_knownPart_14 : decode cX10_knownPart 14 = .ok (.getfield 17, 3) := by decide +kernel
theorem dX10_knownPart_17 : decode cX10_knownPart 17 = .ok (.iload_n 1, 1) := by decide +kernel
theorem dX10_knownPart_18 : decode cX10_knownPart 18 = .ok (.aaload, 1) := by decide +kernel
theorem dX10_knownPart_19 : decode cX10_knownPart 19 = .ok (.goto 4, 3) := by decide +kernel
theorem dX10_knownPart_22 : decode cX10_knownPart 22 = .ok (.aconst_null, 1) := by decide +kernel
theorem dX10_knownPart_23 : decode cX10_knownPart 23 = .ok (.astore_n 2, 1) := by decide +kernel
theorem dX10_knownPart_24 : decode cX10_knownPart 24 = .ok (.aload_n 2, 1) := by decide +kernel
theorem dX10_knownPart_25 : decode cX10_knownPart 25 = .ok (.ifnonnull 14, 3) := by decide +kernel
theorem dX10_knownPart_28 : decode cX10_knownPart 28 = .ok (.new 164, 3) := by decide +kernel
theorem dX10_knownPart_31 : decode cX10_knownPart 31 = .ok (.dup, 1) := by decide +kernel
theorem dX10_knownPart_32 : decode cX10_knownPart 32 = .ok (.ldc_w 389, 3) := by decide +kernel
theorem dX10_knownPart_35 : decode cX10_knownPart 35 = .ok (.invokespecial 168, 3) := by decide +kernel
theorem dX10_knownPart_38 : decode cX10_knownPart 38 = .ok (.athrow, 1) := by decide +kernel
theorem dX10_knownPart_39 : decode cX10_knownPart 39 = .ok (.aload_n 2, 1) := by decide +kernel
theorem dX10_knownPart_40 : decode cX10_knownPart 40 = .ok (.areturn, 1) := by decide +kernel
theorem dX10_lotOf_0 : decode cX10_lotOf 0 = .ok (.aload_n 0, 1) := by decide +kernel
theorem dX10_lotOf_1 : decode cX10_lotOf 1 = .ok (.iload_n 1, 1) := by decide +kernel
theorem dX10_lotOf_2 : decode cX10_lotOf 2 = .ok (.invokevirtual 238, 3) := by decide +kernel
theorem dX10_lotOf_5 : decode cX10_lotOf 5 = .ok (.astore_n 2, 1) := by decide +kernel
theorem dX10_lotOf_6 : decode cX10_lotOf 6 = .ok (.aload_n 2, 1) := by decide +kernel
theorem dX10_lotOf_7 : decode cX10_lotOf 7 = .ok (.getfield 280, 3) := by decide +kernel
theorem dX10_lotOf_10 : decode cX10_lotOf 10 = .ok (.getfield 320, 3) := by decide +kernel
theorem dX10_lotOf_13 : decode cX10_lotOf 13 = .ok (.astore_n 3, 1) := by decide +kernel
theorem dX10_lotOf_14 : decode cX10_lotOf 14 = .ok (.aload_n 3, 1) := by decide +kernel
theorem dX10_lotOf_15 : decode cX10_lotOf 15 = .ok (.ifnonnull 14, 3) := by decide +kernel
theorem dX10_lotOf_18 : decode cX10_lotOf 18 = .ok (.new 324, 3) := by decide +kernel
theorem dX10_lotOf_21 : decode cX10_lotOf 21 = .ok (.dup, 1) := by decide +kernel
theorem dX10_lotOf_22 : decode cX10_lotOf 22 = .ok (.ldc_w 326, 3) := by decide +kernel
theorem dX10_lotOf_25 : decode cX10_lotOf 25 = .ok (.invokespecial 328, 3) := by decide +kernel
theorem dX10_lotOf_28 : decode cX10_lotOf 28 = .ok (.athrow, 1) := by decide +kernel
theorem dX10_lotOf_29 : decode cX10_lotOf 29 = .ok (.aload_n 3, 1) := by decide +kernel
theorem dX10_lotOf_30 : decode cX10_lotOf 30 = .ok (.getfield 157, 3) := by decide +kernel
theorem dX10_lotOf_33 : decode cX10_lotOf 33 = .ok (.ireturn, 1) := by decide +kernel
theorem dX10_lots_0 : decode cX10_lots 0 = .ok (.aload_n 0, 1) := by decide +kernel
theorem dX10_lots_1 : decode cX10_lots 1 = .ok (.getfield 215, 3) := by decide +kernel
theorem dX10_lots_4 : decode cX10_lots 4 = .ok (.ireturn, 1) := by decide +kernel
theorem dX10_lotsIn_0 : decode cX10_lotsIn 0 = .ok (.aload_n 0, 1) := by decide +kernel
theorem dX10_lotsIn_1 : decode cX10_lotsIn 1 = .ok (.iload_n 1, 1) := by decide +kernel
theorem dX10_lotsIn_2 : decode cX10_lotsIn 2 = .ok (.invokevirtual 238, 3) := by decide +kernel
theorem dX10_lotsIn_5 : decode cX10_lotsIn 5 = .ok (.getfield 352, 3) := by decide +kernel
theorem dX10_lotsIn_8 : decode cX10_lotsIn 8 = .ok (.invokevirtual 348, 3) := by decide +kernel
theorem dX10_lotsIn_11 : decode cX10_lotsIn 11 = .ok (.ireturn, 1) := by decide +kernel
theorem dX10_machineIs_0 : decode cX10_machineIs 0 = .ok (.aload_n 0, 1) := by decide +kernel
theorem dX10_machineIs_1 : decode cX10_machineIs 1 = .ok (.iload_n 1, 1) := by decide +kernel
theorem dX10_machineIs_2 : decode cX10_machineIs 2 = .ok (.invokevirtual 110, 3) := by decide +kernel
theorem dX10_machineIs_5 : decode cX10_machineIs 5 = .ok (.getfield 334, 3) := by decide +kernel
theorem dX10_machineIs_8 : decode cX10_machineIs 8 = .ok (.ireturn, 1) := by decide +kernel
theorem dX10_meanBusy_0 : decode cX10_meanBusy 0 = .ok (.aload_n 0, 1) := by decide +kernel
theorem dX10_meanBusy_1 : decode cX10_meanBusy 1 = .ok (.getfield 58, 3) := by decide +kernel
theorem dX10_meanBusy_4 : decode cX10_meanBusy 4 = .ok (.ifCond .ne 14, 3) := by decide +kernel
theorem dX10_meanBusy_7 : decode cX10_meanBusy 7 = .ok (.new 361, 3) := by decide +kernel
theorem dX10_meanBusy_10 : decode cX10_meanBusy 10 = .ok (.dup, 1) := by decide +kernel
theorem dX10_meanBusy_11 : decode cX10_meanBusy 11 = .ok (.ldc_w 366, 3) := by decide +kernel
theorem dX10_meanBusy_14 : decode cX10_meanBusy 14 = .ok (.invokespecial 365, 3) := by decide +kernel
theorem dX10_meanBusy_17 : decode cX10_meanBusy 17 = .ok (.athrow, 1) := by decide +kernel
theorem dX10_meanBusy_18 : decode cX10_meanBusy 18 = .ok (.lconst 0, 1) := by decide +kernel
theorem dX10_meanBusy_19 : decode cX10_meanBusy 19 = .ok (.lstore_n 1, 1) := by decide +kernel
theorem dX10_meanBusy_20 : decode cX10_meanBusy 20 = .ok (.aload_n 0, 1) := by decide +kernel
theorem dX10_meanBusy_21 : decode cX10_meanBusy 21 = .ok (.getfield 11, 3) := by decide +kernel
theorem dX10_meanBusy_24 : decode cX10_meanBusy 24 = .ok (.astore_n 3, 1) := by decide +kernel
theorem dX10_meanBusy_25 : decode cX10_meanBusy 25 = .ok (.aload_n 3, 1) := by decide +kernel
theorem dX10_meanBusy_26 : decode cX10_meanBusy 26 = .ok (.arraylength, 1) := by decide +kernel
theorem dX10_meanBusy_27 : decode cX10_meanBusy 27 = .ok (.istore 4, 2) := by decide +kernel
theorem dX10_meanBusy_29 : decode cX10_meanBusy 29 = .ok (.iconst 0, 1) := by decide +kernel
theorem dX10_meanBusy_30 : decode cX10_meanBusy 30 = .ok (.istore 5, 2) := by decide +kernel
theorem dX10_meanBusy_32 : decode cX10_meanBusy 32 = .ok (.iload 5, 2) := by decide +kernel
theorem dX10_meanBusy_34 : decode cX10_meanBusy 34 = .ok (.iload 4, 2) := by decide +kernel
theorem dX10_meanBusy_36 : decode cX10_meanBusy 36 = .ok (.if_icmp .ge 33, 3) := by decide +kernel
theorem dX10_meanBusy_39 : decode cX10_meanBusy 39 = .ok (.aload_n 3, 1) := by decide +kernel
theorem dX10_meanBusy_40 : decode cX10_meanBusy 40 = .ok (.iload 5, 2) := by decide +kernel
theorem dX10_meanBusy_42 : decode cX10_meanBusy 42 = .ok (.aaload, 1) := by decide +kernel
theorem dX10_meanBusy_43 : decode cX10_meanBusy 43 = .ok (.astore 6, 2) := by decide +kernel
theorem dX10_meanBusy_45 : decode cX10_meanBusy 45 = .ok (.aload 6, 2) := by decide +kernel
theorem dX10_meanBusy_47 : decode cX10_meanBusy 47 = .ok (.ifnull 16, 3) := by decide +kernel
theorem dX10_meanBusy_50 : decode cX10_meanBusy 50 = .ok (.lload_n 1, 1) := by decide +kernel
theorem dX10_meanBusy_51 : decode cX10_meanBusy 51 = .ok (.aload 6, 2) := by decide +kernel
theorem dX10_meanBusy_53 : decode cX10_meanBusy 53 = .ok (.aload_n 0, 1) := by decide +kernel
theorem dX10_meanBusy_54 : decode cX10_meanBusy 54 = .ok (.getfield 294, 3) := by decide +kernel
theorem dX10_meanBusy_57 : decode cX10_meanBusy 57 = .ok (.invokevirtual 368, 3) := by decide +kernel
theorem dX10_meanBusy_60 : decode cX10_meanBusy 60 = .ok (.i2l, 1) := by decide +kernel
theorem dX10_meanBusy_61 : decode cX10_meanBusy 61 = .ok (.ladd, 1) := by decide +kernel
theorem dX10_meanBusy_62 : decode cX10_meanBusy 62 = .ok (.lstore_n 1, 1) := by decide +kernel
theorem dX10_meanBusy_63 : decode cX10_meanBusy 63 = .ok (.iinc 5 1, 3) := by decide +kernel
theorem dX10_meanBusy_66 : decode cX10_meanBusy 66 = .ok (.goto (-34), 3) := by decide +kernel
theorem dX10_meanBusy_69 : decode cX10_meanBusy 69 = .ok (.lload_n 1, 1) := by decide +kernel
theorem dX10_meanBusy_70 : decode cX10_meanBusy 70 = .ok (.l2d, 1) := by decide +kernel
theorem dX10_meanBusy_71 : decode cX10_meanBusy 71 = .ok (.aload_n 0, 1) := by decide +kernel
theorem dX10_meanBusy_72 : decode cX10_meanBusy 72 = .ok (.getfield 58, 3) := by decide +kernel
theorem dX10_meanBusy_75 : decode cX10_meanBusy 75 = .ok (.i2d, 1) := by decide +kernel
theorem dX10_meanBusy_76 : decode cX10_meanBusy 76 = .ok (.ddiv, 1) := by decide +kernel
theorem dX10_meanBusy_77 : decode cX10_meanBusy 77 = .ok (.dreturn, 1) := by decide +kernel
theorem dX10_measure_0 : decode cX10_measure 0 = .ok (.aload_n 0, 1) := by decide +kernel
theorem dX10_measure_1 : decode cX10_measure 1 = .ok (.iload_n 1, 1) := by decide +kernel
theorem dX10_measure_2 : decode cX10_measure 2 = .ok (.invokevirtual 173, 3) := by decide +kernel
theorem dX10_measure_5 : decode cX10_measure 5 = .ok (.astore_n 3, 1) := by decide +kernel
theorem dX10_measure_6 : decode cX10_measure 6 = .ok (.iload_n 2, 1) := by decide +kernel
theorem dX10_measure_7 : decode cX10_measure 7 = .ok (.iconst 0, 1) := by decide +kernel
theorem dX10_measure_8 : decode cX10_measure 8 = .ok (.sipush 2000, 3) := by decide +kernel
theorem dX10_measure_11 : decode cX10_measure 11 = .ok (.invokestatic 47, 3) := by decide +kernel
theorem dX10_measure_14 : decode cX10_measure 14 = .ok (.ifCond .ne 13, 3) := by decide +kernel
theorem dX10_measure_17 : decode cX10_measure 17 = .ok (.new 51, 3) := by decide +kernel
theorem dX10_measure_20 : decode cX10_measure 20 = .ok (.dup, 1) := by decide +kernel
theorem dX10_measure_21 : decode cX10_measure 21 = .ok (.ldc 203, 2) := by decide +kernel
theorem dX10_measure_23 : decode cX10_measure 23 = .ok (.invokespecial 55, 3) := by decide +kernel
theorem dX10_measure_26 : decode cX10_measure 26 = .ok (.athrow, 1) := by decide +kernel
theorem dX10_measure_27 : decode cX10_measure 27 = .ok (.aload_n 3, 1) := by decide +kernel
theorem dX10_measure_28 : decode cX10_measure 28 = .ok (.getfield 205, 3) := by decide +kernel
theorem dX10_measure_31 : decode cX10_measure 31 = .ok (.getfield 190, 3) := by decide +kernel
theorem dX10_measure_34 : decode cX10_measure 34 = .ok (.iload_n 2, 1) := by decide +kernel
theorem dX10_measure_35 : decode cX10_measure 35 = .ok (.invokevirtual 209, 3) := by decide +kernel
theorem dX10_measure_38 : decode cX10_measure 38 = .ok (.istore 4, 2) := by decide +kernel
theorem dX10_measure_40 : decode cX10_measure 40 = .ok (.iload 4, 2) := by decide +kernel
theorem dX10_measure_42 : decode cX10_measure 42 = .ok (.ifCond .eq 14, 3) := by decide +kernel
theorem dX10_measure_45 : decode cX10_measure 45 = .ok (.aload_n 0, 1) := by decide +kernel
theorem dX10_measure_46 : decode cX10_measure 46 = .ok (.getfield 42, 3) := by decide +kernel
theorem dX10_measure_49 : decode cX10_measure 49 = .ok (.iload_n 1, 1) := by decide +kernel
theorem dX10_measure_50 : decode cX10_measure 50 = .ok (.invokevirtual 212, 3) := by decide +kernel
theorem dX10_measure_53 : decode cX10_measure 53 = .ok (.ifCond .eq 5, 3) := by decide +kernel
theorem dX10_measure_56 : decode cX10_measure 56 = .ok (.iconst 0, 1) := by decide +kernel
theorem dX10_measure_57 : decode cX10_measure 57 = .ok (.ireturn, 1) := by decide +kernel
theorem dX10_measure_58 : decode cX10_measure 58 = .ok (.aload_n 0, 1) := by decide +kernel
theorem dX10_measure_59 : decode cX10_measure 59 = .ok (.aload_n 3, 1) := by decide +kernel
theorem dX10_measure_60 : decode cX10_measure 60 = .ok (.invokevirtual 177, 3) := by decide +kernel
theorem dX10_measure_63 : decode cX10_measure 63 = .ok (.pop, 1) := by decide +kernel
theorem dX10_measure_64 : decode cX10_measure 64 = .ok (.iconst 1, 1) := by decide +kernel
theorem dX10_measure_65 : decode cX10_measure 65 = .ok (.ireturn, 1) := by decide +kernel
theorem dX10_order_0 : decode cX10_order 0 = .ok (.aload_n 0, 1) := by decide +kernel
theorem dX10_order_1 : decode cX10_order 1 = .ok (.iload_n 1, 1) := by decide +kernel
theorem dX10_order_2 : decode cX10_order 2 = .ok (.invokevirtual 80, 3) := by decide +kernel
theorem dX10_order_5 : decode cX10_order 5 = .ok (.astore 5, 2) := by decide +kernel
theorem dX10_order_7 : decode cX10_order 7 = .ok (.iload_n 2, 1) := by decide +kernel
theorem dX10_order_8 : decode cX10_order 8 = .ok (.iconst 1, 1) := by decide +kernel
theorem dX10_order_9 : decode cX10_order 9 = .ok (.bipush 100, 2) := by decide +kernel
theorem dX10_order_11 : decode cX10_order 11 = .ok (.invokestatic 47, 3) := by decide +kernel
theorem dX10_order_14 : decode cX10_order 14 = .ok (.ifCond .eq 24, 3) := by decide +kernel
theorem dX10_order_17 : decode cX10_order 17 = .ok (.iload_n 3, 1) := by decide +kernel
theorem dX10_order_18 : decode cX10_order 18 = .ok (.iconst 0, 1) := by decide +kernel
theorem dX10_order_19 : decode cX10_order 19 = .ok (.iconst 2, 1) := by decide +kernel
theorem dX10_order_20 : decode cX10_order 20 = .ok (.invokestatic 47, 3) := by decide +kernel
theorem dX10_order_23 : decode cX10_order 23 = .ok (.ifCond .eq 15, 3) := by decide +kernel
theorem dX10_order_26 : decode cX10_order 26 = .ok (.iload 4, 2) := by decide +kernel
theorem dX10_order_28 : decode cX10_order 28 = .ok (.iconst 0, 1) := by decide +kernel
theorem dX10_order_29 : decode cX10_order 29 = .ok (.sipush 9999, 3) := by decide +kernel
theorem dX10_order_32 : decode cX10_order 32 = .ok (.invokestatic 47, 3) := by decide +kernel
theorem dX10_order_35 : decode cX10_order 35 = .ok (.ifCond .ne 13, 3) := by decide +kernel
theorem dX10_order_38 : decode cX10_order 38 = .ok (.new 51, 3) := by decide +kernel
theorem dX10_order_41 : decode cX10_order 41 = .ok (.dup, 1) := by decide +kernel
theorem dX10_order_42 : decode cX10_order 42 = .ok (.ldc 228, 2) := by decide +kernel
theorem dX10_order_44 : decode cX10_order 44 = .ok (.invokespecial 55, 3) := by decide +kernel
theorem dX10_order_47 : decode cX10_order 47 = .ok (.athrow, 1) := by decide +kernel
theorem dX10_order_48 : decode cX10_order 48 = .ok (.aload_n 0, 1) := by decide +kernel
theorem dX10_order_49 : decode cX10_order 49 = .ok (.getfield 230, 3) := by decide +kernel
theorem dX10_order_52 : decode cX10_order 52 = .ok (.aload_n 0, 1) := by decide +kernel
theorem dX10_order_53 : decode cX10_order 53 = .ok (.getfield 35, 3) := by decide +kernel
theorem dX10_order_56 : decode cX10_order 56 = .ok (.arraylength, 1) := by decide +kernel
theorem dX10_order_57 : decode cX10_order 57 = .ok (.if_icmp .lt 13, 3) := by decide +kernel
theorem dX10_order_60 : decode cX10_order 60 = .ok (.new 62, 3) := by decide +kernel
theorem dX10_order_63 : decode cX10_order 63 = .ok (.dup, 1) := by decide +kernel
theorem dX10_order_64 : decode cX10_order 64 = .ok (.ldc 233, 2) := by decide +kernel
theorem dX10_order_66 : decode cX10_order 66 = .ok (.invokespecial 66, 3) := by decide +kernel
theorem dX10_order_69 : decode cX10_order 69 = .ok (.athrow, 1) := by decide +kernel
theorem dX10_order_70 : decode cX10_order 70 = .ok (.aload_n 0, 1) := by decide +kernel
theorem dX10_order_71 : decode cX10_order 71 = .ok (.getfield 35, 3) := by decide +kernel
theorem dX10_order_74 : decode cX10_order 74 = .ok (.aload_n 0, 1) := by decide +kernel
theorem dX10_order_75 : decode cX10_order 75 = .ok (.getfield 230, 3) := by decide +kernel
theorem dX10_order_78 : decode cX10_order 78 = .ok (.new 33, 3) := by decide +kernel
theorem dX10_order_81 : decode cX10_order 81 = .ok (.dup, 1) := by decide +kernel
theorem dX10_order_82 : decode cX10_order 82 = .ok (.aload_n 0, 1) := by decide +kernel
theorem dX10_order_83 : decode cX10_order 83 = .ok (.getfield 230, 3) := by decide +kernel
theorem dX10_order_86 : decode cX10_order 86 = .ok (.aload 5, 2) := by decide +kernel
theorem dX10_order_88 : decode cX10_order 88 = .ok (.iload_n 2, 1) := by decide +kernel
theorem dX10_order_89 : decode cX10_order 89 = .ok (.iload_n 3, 1) := by decide +kernel
theorem dX10_order_90 : decode cX10_order 90 = .ok (.iload 4, 2) := by decide +kernel
theorem dX10_order_92 : decode cX10_order 92 = .ok (.invokespecial 235, 3) := by decide +kernel
theorem dX10_order_95 : decode cX10_order 95 = .ok (.aastore, 1) := by decide +kernel
theorem dX10_order_96 : decode cX10_order 96 = .ok (.aload_n 0, 1) := by decide +kernel
theorem dX10_order_97 : decode cX10_order 97 = .ok (.dup, 1) := by decide +kernel
theorem dX10_order_98 : decode cX10_order 98 = .ok (.getfield 230, 3) := by decide +kernel
theorem dX10_order_101 : decode cX10_order 101 = .ok (.iconst 1, 1) := by decide +kernel
theorem dX10_order_102 : decode cX10_order 102 = .ok (.iadd, 1) := by decide +kernel
theorem dX10_order_103 : decode cX10_order 103 = .ok (.putfield 230, 3) := by decide +kernel
theorem dX10_order_106 : decode cX10_order 106 = .ok (.aload_n 0, 1) := by decide +kernel
theorem dX10_order_107 : decode cX10_order 107 = .ok (.getfield 230, 3) := by decide +kernel
theorem dX10_order_110 : decode cX10_order 110 = .ok (.iconst 1, 1) := by decide +kernel
theorem dX10_order_111 : decode cX10_order 111 = .ok (.isub, 1) := by decide +kernel
theorem dX10_order_112 : decode cX10_order 112 = .ok (.ireturn, 1) := by decide +kernel
theorem dX10_partOf_0 : decode cX10_partOf 0 = .ok (.aload_n 0, 1) := by decide +kernel
theorem dX10_partOf_1 : decode cX10_partOf 1 = .ok (.iload_n 1, 1) := by decide +kernel
theorem dX10_partOf_2 : decode cX10_partOf 2 = .ok (.invokevirtual 173, 3) := by decide +kernel
theorem dX10_partOf_5 : decode cX10_partOf 5 = .ok (.getfield 205, 3) := by decide +kernel
theorem dX10_partOf_8 : decode cX10_partOf 8 = .ok (.getfield 218, 3) := by decide +kernel
theorem dX10_partOf_11 : decode cX10_partOf 11 = .ok (.ireturn, 1) := by decide +kernel
theorem dX10_passTime_0 : decode cX10_passTime 0 = .ok (.aload_n 0, 1) := by decide +kernel
theorem dX10_passTime_1 : decode cX10_passTime 1 = .ok (.dup, 1) := by decide +kernel
theorem dX10_passTime_2 : decode cX10_passTime 2 = .ok (.getfield 294, 3) := by decide +kernel
theorem dX10_passTime_5 : decode cX10_passTime 5 = .ok (.iconst 1, 1) := by decide +kernel
theorem dX10_passTime_6 : decode cX10_passTime 6 = .ok (.iadd, 1) := by decide +kernel
theorem dX10_passTime_7 : decode cX10_passTime 7 = .ok (.putfield 294, 3) := by decide +kernel
theorem dX10_passTime_10 : decode cX10_passTime 10 = .ok (.aload_n 0, 1) := by decide +kernel
theorem dX10_passTime_11 : decode cX10_passTime 11 = .ok (.getfield 11, 3) := by decide +kernel
theorem dX10_passTime_14 : decode cX10_passTime 14 = .ok (.astore_n 1, 1) := by decide +kernel
theorem dX10_passTime_15 : decode cX10_passTime 15 = .ok (.aload_n 1, 1) := by decide +kernel
theorem dX10_passTime_16 : decode cX10_passTime 16 = .ok (.arraylength, 1) := by decide +kernel
theorem dX10_passTime_17 : decode cX10_passTime 17 = .ok (.istore_n 2, 1) := by decide +kernel
theorem dX10_passTime_18 : decode cX10_passTime 18 = .ok (.iconst 0, 1) := by decide +kernel
theorem dX10_passTime_19 : decode cX10_passTime 19 = .ok (.istore_n 3, 1) := by decide +kernel
theorem dX10_passTime_20 : decode cX10_passTime 20 = .ok (.iload_n 3, 1) := by decide +kernel
theorem dX10_passTime_21 : decode cX10_passTime 21 = .ok (.iload_n 2, 1) := by decide +kernel
theorem dX10_passTime_22 : decode cX10_passTime 22 = .ok (.if_icmp .ge 37, 3) := by decide +kernel
theorem dX10_passTime_25 : decode cX10_passTime 25 = .ok (.aload_n 1, 1) := by decide +kernel
theorem dX10_passTime_26 : decode cX10_passTime 26 = .ok (.iload_n 3, 1) := by decide +kernel
theorem dX10_passTime_27 : decode cX10_passTime 27 = .ok (.aaload, 1) := by decide +kernel
theorem dX10_passTime_28 : decode cX10_passTime 28 = .ok (.astore 4, 2) := by decide +kernel
theorem dX10_passTime_30 : decode cX10_passTime 30 = .ok (.aload 4, 2) := by decide +kernel
theorem dX10_passTime_32 : decode cX10_passTime 32 = .ok (.ifnull 21, 3) := by decide +kernel
theorem dX10_passTime_35 : decode cX10_passTime 35 = .ok (.aload 4, 2) := by decide +kernel
theorem dX10_passTime_37 : decode cX10_passTime 37 = .ok (.getfield 470, 3) := by decide +kernel
theorem dX10_passTime_40 : decode cX10_passTime 40 = .ok (.aload_n 0, 1) := by decide +kernel
theorem dX10_passTime_41 : decode cX10_passTime 41 = .ok (.getfield 294, 3) := by decide +kernel
theorem dX10_passTime_44 : decode cX10_passTime 44 = .ok (.if_icmp .ne 9, 3) := by decide +kernel
theorem dX10_passTime_47 : decode cX10_passTime 47 = .ok (.aload_n 0, 1) := by decide +kernel
theorem dX10_passTime_48 : decode cX10_passTime 48 = .ok (.aload 4, 2) := by decide +kernel
theorem dX10_passTime_50 : decode cX10_passTime 50 = .ok (.invokevirtual 473, 3) := by decide +kernel
theorem dX10_passTime_53 : decode cX10_passTime 53 = .ok (.iinc 3 1, 3) := by decide +kernel
theorem dX10_passTime_56 : decode cX10_passTime 56 = .ok (.goto (-36), 3) := by decide +kernel
theorem dX10_passTime_59 : decode cX10_passTime 59 = .ok (.aload_n 0, 1) := by decide +kernel
theorem dX10_passTime_60 : decode cX10_passTime 60 = .ok (.getfield 11, 3) := by decide +kernel
theorem dX10_passTime_63 : decode cX10_passTime 63 = .ok (.astore_n 1, 1) := by decide +kernel
theorem dX10_passTime_64 : decode cX10_passTime 64 = .ok (.aload_n 1, 1) := by decide +kernel
theorem dX10_passTime_65 : decode cX10_passTime 65 = .ok (.arraylength, 1) := by decide +kernel
theorem dX10_passTime_66 : decode cX10_passTime 66 = .ok (.istore_n 2, 1) := by decide +kernel
theorem dX10_passTime_67 : decode cX10_passTime 67 = .ok (.iconst 0, 1) := by decide +kernel
theorem dX10_passTime_68 : decode cX10_passTime 68 = .ok (.istore_n 3, 1) := by decide +kernel
theorem dX10_passTime_69 : decode cX10_passTime 69 = .ok (.iload_n 3, 1) := by decide +kernel
theorem dX10_passTime_70 : decode cX10_passTime 70 = .ok (.iload_n 2, 1) := by decide +kernel
theorem dX10_passTime_71 : decode cX10_passTime 71 = .ok (.if_icmp .ge 25, 3) := by decide +kernel
theorem dX10_passTime_74 : decode cX10_passTime 74 = .ok (.aload_n 1, 1) := by decide +kernel
theorem dX10_passTime_75 : decode cX10_passTime 75 = .ok (.iload_n 3, 1) := by decide +kernel
theorem dX10_passTime_76 : decode cX10_passTime 76 = .ok (.aaload, 1) := by decide +kernel
theorem dX10_passTime_77 : decode cX10_passTime 77 = .ok (.astore 4, 2) := by decide +kernel
theorem dX10_passTime_79 : decode cX10_passTime 79 = .ok (.aload 4, 2) := by decide +kernel
theorem dX10_passTime_81 : decode cX10_passTime 81 = .ok (.ifnull 9, 3) := by decide +kernel
theorem dX10_passTime_84 : decode cX10_passTime 84 = .ok (.aload_n 0, 1) := by decide +kernel
theorem dX10_passTime_85 : decode cX10_passTime 85 = .ok (.aload 4, 2) := by decide +kernel
theorem dX10_passTime_87 : decode cX10_passTime 87 = .ok (.invokevirtual 271, 3) := by decide +kernel
theorem dX10_passTime_90 : decode cX10_passTime 90 = .ok (.iinc 3 1, 3) := by decide +kernel
theorem dX10_passTime_93 : decode cX10_passTime 93 = .ok (.goto (-24), 3) := by decide +kernel
theorem dX10_passTime_96 : decode cX10_passTime 96 = .ok (.return_, 1) := by decide +kernel
theorem dX10_promise_0 : decode cX10_promise 0 = .ok (.aload_n 0, 1) := by decide +kernel
theorem dX10_promise_1 : decode cX10_promise 1 = .ok (.iload_n 1, 1) := by decide +kernel
theorem dX10_promise_2 : decode cX10_promise 2 = .ok (.invokevirtual 238, 3) := by decide +kernel
theorem dX10_promise_5 : decode cX10_promise 5 = .ok (.astore_n 2, 1) := by decide +kernel
theorem dX10_promise_6 : decode cX10_promise 6 = .ok (.aload_n 2, 1) := by decide +kernel
theorem dX10_promise_7 : decode cX10_promise 7 = .ok (.getfield 242, 3) := by decide +kernel
theorem dX10_promise_10 : decode cX10_promise 10 = .ok (.getfield 84, 3) := by decide +kernel
theorem dX10_promise_13 : decode cX10_promise 13 = .ok (.ifCond .eq 12, 3) := by decide +kernel
theorem dX10_promise_16 : decode cX10_promise 16 = .ok (.aload_n 2, 1) := by decide +kernel
theorem dX10_promise_17 : decode cX10_promise 17 = .ok (.getfield 243, 3) := by decide +kernel
theorem dX10_promise_20 : decode cX10_promise 20 = .ok (.bipush 45, 2) := by decide +kernel
theorem dX10_promise_22 : decode cX10_promise 22 = .ok (.if_icmp .eq 13, 3) := by decide +kernel
theorem dX10_promise_25 : decode cX10_promise 25 = .ok (.new 88, 3) := by decide +kernel
theorem dX10_promise_28 : decode cX10_promise 28 = .ok (.dup, 1) := by decide +kernel
theorem dX10_promise_29 : decode cX10_promise 29 = .ok (.ldc 246, 2) := by decide +kernel
theorem dX10_promise_31 : decode cX10_promise 31 = .ok (.invokespecial 92, 3) := by decide +kernel
theorem dX10_promise_34 : decode cX10_promise 34 = .ok (.athrow, 1) := by decide +kernel
theorem dX10_promise_35 : decode cX10_promise 35 = .ok (.aload_n 0, 1) := by decide +kernel
theorem dX10_promise_36 : decode cX10_promise 36 = .ok (.aload_n 2, 1) := by decide +kernel
theorem dX10_promise_37 : decode cX10_promise 37 = .ok (.invokevirtual 248, 3) := by decide +kernel
theorem dX10_promise_40 : decode cX10_promise 40 = .ok (.ireturn, 1) := by decide +kernel
theorem dX10_receive_0 : decode cX10_receive 0 = .ok (.aload_n 0, 1) := by decide +kernel
theorem dX10_receive_1 : decode cX10_receive 1 = .ok (.iload_n 1, 1) := by decide +kernel
theorem dX10_receive_2 : decode cX10_receive 2 = .ok (.invokevirtual 80, 3) := by decide +kernel
theorem dX10_receive_5 : decode cX10_receive 5 = .ok (.astore 6, 2) := by decide +kernel
theorem dX10_receive_7 : decode cX10_receive 7 = .ok (.aload_n 0, 1) := by decide +kernel
theorem dX10_receive_8 : decode cX10_receive 8 = .ok (.iload 4, 2) := by decide +kernel
theorem dX10_receive_10 : decode cX10_receive 10 = .ok (.invokevirtual 132, 3) := by decide +kernel
theorem dX10_receive_13 : decode cX10_receive 13 = .ok (.astore 7, 2) := by decide +kernel
theorem dX10_receive_15 : decode cX10_receive 15 = .ok (.aload 6, 2) := by decide +kernel
theorem dX10_receive_17 : decode cX10_receive 17 = .ok (.getfield 84, 3) := by decide +kernel
theorem dX10_receive_20 : decode cX10_receive 20 = .ok (.ifCond .eq 13, 3) := by decide +kernel
theorem dX10_receive_23 : decode cX10_receive 23 = .ok (.new 88, 3) := by decide +kernel
theorem dX10_receive_26 : decode cX10_receive 26 = .ok (.dup, 1) := by decide +kernel
theorem dX10_receive_27 : decode cX10_receive 27 = .ok (.ldc 136, 2) := by decide +kernel
theorem dX10_receive_29 : decode cX10_receive 29 = .ok (.invokespecial 92, 3) := by decide +kernel
theorem dX10_receive_32 : decode cX10_receive 32 = .ok (.athrow, 1) := by decide +kernel
theorem dX10_receive_33 : decode cX10_receive 33 = .ok (.aload 7, 2) := by decide +kernel
theorem dX10_receive_35 : decode cX10_receive 35 = .ok (.ifnull 36, 3) := by decide +kernel
theorem dX10_receive_38 : decode cX10_receive 38 = .ok (.iload_n 2, 1) := by decide +kernel
theorem dX10_receive_39 : decode cX10_receive 39 = .ok (.iconst 1, 1) := by decide +kernel
theorem dX10_receive_40 : decode cX10_receive 40 = .ok (.sipush 500, 3) := by decide +kernel
theorem dX10_receive_43 : decode cX10_receive 43 = .ok (.invokestatic 47, 3) := by decide +kernel
theorem dX10_receive_46 : decode cX10_receive 46 = .ok (.ifCond .eq 25, 3) := by decide +kernel
theorem dX10_receive_49 : decode cX10_receive 49 = .ok (.iload_n 3, 1) := by decide +kernel
theorem dX10_receive_50 : decode cX10_receive 50 = .ok (.iconst 0, 1) := by decide +kernel
theorem dX10_receive_51 : decode cX10_receive 51 = .ok (.sipush 999, 3) := by decide +kernel
theorem dX10_receive_54 : decode cX10_receive 54 = .ok (.invokestatic 47, 3) := by decide +kernel
theorem dX10_receive_57 : decode cX10_receive 57 = .ok (.ifCond .eq 14, 3) := by decide +kernel
theorem dX10_receive_60 : decode cX10_receive 60 = .ok (.iload 5, 2) := by decide +kernel
theorem dX10_receive_62 : decode cX10_receive 62 = .ok (.iconst 0, 1) := by decide +kernel
theorem dX10_receive_63 : decode cX10_receive 63 = .ok (.bipush 20, 2) := by decide +kernel
theorem dX10_receive_65 : decode cX10_receive 65 = .ok (.invokestatic 47, 3) := by decide +kernel
theorem dX10_receive_68 : decode cX10_receive 68 = .ok (.ifCond .ne 13, 3) := by decide +kernel
theorem dX10_receive_71 : decode cX10_receive 71 = .ok (.new 51, 3) := by decide +kernel
theorem dX10_receive_74 : decode cX10_receive 74 = .ok (.dup, 1) := by decide +kernel
theorem dX10_receive_75 : decode cX10_receive 75 = .ok (.ldc 138, 2) := by decide +kernel
theorem dX10_receive_77 : decode cX10_receive 77 = .ok (.invokespecial 55, 3) := by decide +kernel
theorem dX10_receive_80 : decode cX10_receive 80 = .ok (.athrow, 1) := by decide +kernel
theorem dX10_receive_81 : decode cX10_receive 81 = .ok (.aload_n 0, 1) := by decide +kernel
theorem dX10_receive_82 : decode cX10_receive 82 = .ok (.getfield 140, 3) := by decide +kernel
theorem dX10_receive_85 : decode cX10_receive 85 = .ok (.bipush 60, 2) := by decide +kernel
theorem dX10_receive_87 : decode cX10_receive 87 = .ok (.if_icmp .lt 13, 3) := by decide +kernel
theorem dX10_receive_90 : decode cX10_receive 90 = .ok (.new 62, 3) := by decide +kernel
theorem dX10_receive_93 : decode cX10_receive 93 = .ok (.dup, 1) := by decide +kernel
theorem dX10_receive_94 : decode cX10_receive 94 = .ok (.ldc 143, 2) := by decide +kernel
theorem dX10_receive_96 : decode cX10_receive 96 = .ok (.invokespecial 66, 3) := by decide +kernel
theorem dX10_receive_99 : decode cX10_receive 99 = .ok (.athrow, 1) := by decide +kernel
theorem dX10_receive_100 : decode cX10_receive 100 = .ok (.aload_n 0, 1) := by decide +kernel
theorem dX10_receive_101 : decode cX10_receive 101 = .ok (.dup, 1) := by decide +kernel
theorem dX10_receive_102 : decode cX10_receive 102 = .ok (.getfield 140, 3) := by decide +kernel
theorem dX10_receive_105 : decode cX10_receive 105 = .ok (.iconst 1, 1) := by decide +kernel
theorem dX10_receive_106 : decode cX10_receive 106 = .ok (.iadd, 1) := by decide +kernel
theorem dX10_receive_107 : decode cX10_receive 107 = .ok (.putfield 140, 3) := by decide +kernel
theorem dX10_receive_110 : decode cX10_receive 110 = .ok (.iload_n 2, 1) := by decide +kernel
theorem dX10_receive_111 : decode cX10_receive 111 = .ok (.i2l, 1) := by decide +kernel
theorem dX10_receive_112 : decode cX10_receive 112 = .ok (.iload_n 3, 1) := by decide +kernel
theorem dX10_receive_113 : decode cX10_receive 113 = .ok (.i2l, 1) := by decide +kernel
theorem dX10_receive_114 : decode cX10_receive 114 = .ok (.lmul, 1) := by decide +kernel
theorem dX10_receive_115 : decode cX10_receive 115 = .ok (.lstore 8, 2) := by decide +kernel
theorem dX10_receive_117 : decode cX10_receive 117 = .ok (.aload_n 0, 1) := by decide +kernel
theorem dX10_receive_118 : decode cX10_receive 118 = .ok (.dup, 1) := by decide +kernel
theorem dX10_receive_119 : decode cX10_receive 119 = .ok (.getfield 145, 3) := by decide +kernel
theorem dX10_receive_122 : decode cX10_receive 122 = .ok (.lload 8, 2) := by decide +kernel
theorem dX10_receive_124 : decode cX10_receive 124 = .ok (.ladd, 1) := by decide +kernel
theorem dX10_receive_125 : decode cX10_receive 125 = .ok (.putfield 145, 3) := by decide +kernel
theorem dX10_receive_128 : decode cX10_receive 128 = .ok (.aload_n 0, 1) := by decide +kernel
theorem dX10_receive_129 : decode cX10_receive 129 = .ok (.aload 6, 2) := by decide +kernel
theorem dX10_receive_131 : decode cX10_receive 131 = .ok (.iload_n 2, 1) := by decide +kernel
theorem dX10_receive_132 : decode cX10_receive 132 = .ok (.lload 8, 2) := by decide +kernel
theorem dX10_receive_134 : decode cX10_receive 134 = .ok (.invokevirtual 149, 3) := by decide +kernel
theorem dX10_receive_137 : decode cX10_receive 137 = .ok (.astore 10, 2) := by decide +kernel
theorem dX10_receive_139 : decode cX10_receive 139 = .ok (.aload 7, 2) := by decide +kernel
theorem dX10_receive_141 : decode cX10_receive 141 = .ok (.iload 5, 2) := by decide +kernel
theorem dX10_receive_143 : decode cX10_receive 143 = .ok (.invokevirtual 153, 3) := by decide +kernel
theorem dX10_receive_146 : decode cX10_receive 146 = .ok (.ifCond .eq 15, 3) := by decide +kernel
theorem dX10_receive_149 : decode cX10_receive 149 = .ok (.aload_n 0, 1) := by decide +kernel
theorem dX10_receive_150 : decode cX10_receive 150 = .ok (.getfield 42, 3) := by decide +kernel
theorem dX10_receive_153 : decode cX10_receive 153 = .ok (.aload 10, 2) := by decide +kernel
theorem dX10_receive_155 : decode cX10_receive 155 = .ok (.getfield 157, 3) := by decide +kernel
theorem dX10_receive_158 : decode cX10_receive 158 = .ok (.invokevirtual 160, 3) := by decide +kernel
theorem dX10_receive_161 : decode cX10_receive 161 = .ok (.aload 10, 2) := by decide +kernel
theorem dX10_receive_163 : decode cX10_receive 163 = .ok (.getfield 157, 3) := by decide +kernel
theorem dX10_receive_166 : decode cX10_receive 166 = .ok (.ireturn, 1) := by decide +kernel
theorem dX10_release_0 : decode cX10_release 0 = .ok (.aload_n 0, 1) := by decide +kernel
theorem dX10_release_1 : decode cX10_release 1 = .ok (.iload_n 1, 1) := by decide +kernel
theorem dX10_release_2 : decode cX10_release 2 = .ok (.invokevirtual 238, 3) := by decide +kernel
theorem dX10_release_5 : decode cX10_release 5 = .ok (.astore_n 2, 1) := by decide +kernel
theorem dX10_release_6 : decode cX10_release 6 = .ok (.aload_n 2, 1) := by decide +kernel
theorem dX10_release_7 : decode cX10_release 7 = .ok (.getfield 242, 3) := by decide +kernel
theorem dX10_release_10 : decode cX10_release 10 = .ok (.getfield 84, 3) := by decide +kernel
theorem dX10_release_13 : decode cX10_release 13 = .ok (.ifCond .eq 21, 3) := by decide +kernel
theorem dX10_release_16 : decode cX10_release 16 = .ok (.aload_n 2, 1) := by decide +kernel
theorem dX10_release_17 : decode cX10_release 17 = .ok (.getfield 243, 3) := by decide +kernel
theorem dX10_release_20 : decode cX10_release 20 = .ok (.bipush 45, 2) := by decide +kernel
theorem dX10_release_22 : decode cX10_release 22 = .ok (.if_icmp .eq 23, 3) := by decide +kernel
theorem dX10_release_25 : decode cX10_release 25 = .ok (.aload_n 2, 1) := by decide +kernel
theorem dX10_release_26 : decode cX10_release 26 = .ok (.getfield 243, 3) := by decide +kernel
theorem dX10_release_29 : decode cX10_release 29 = .ok (.bipush 112, 2) := by decide +kernel
theorem dX10_release_31 : decode cX10_release 31 = .ok (.if_icmp .eq 14, 3) := by decide +kernel
theorem dX10_release_34 : decode cX10_release 34 = .ok (.new 88, 3) := by decide +kernel
theorem dX10_release_37 : decode cX10_release 37 = .ok (.dup, 1) := by decide +kernel
theorem dX10_release_38 : decode cX10_release 38 = .ok (.ldc_w 258, 3) := by decide +kernel
theorem dX10_release_41 : decode cX10_release 41 = .ok (.invokespecial 92, 3) := by decide +kernel
theorem dX10_release_44 : decode cX10_release 44 = .ok (.athrow, 1) := by decide +kernel
theorem dX10_release_45 : decode cX10_release 45 = .ok (.aload_n 2, 1) := by decide +kernel
theorem dX10_release_46 : decode cX10_release 46 = .ok (.getfield 243, 3) := by decide +kernel
theorem dX10_release_49 : decode cX10_release 49 = .ok (.bipush 112, 2) := by decide +kernel
theorem dX10_release_51 : decode cX10_release 51 = .ok (.if_icmp .eq 13, 3) := by decide +kernel
theorem dX10_release_54 : decode cX10_release 54 = .ok (.aload_n 0, 1) := by decide +kernel
theorem dX10_release_55 : decode cX10_release 55 = .ok (.aload_n 2, 1) := by decide +kernel
theorem dX10_release_56 : decode cX10_release 56 = .ok (.invokevirtual 248, 3) := by decide +kernel
theorem dX10_release_59 : decode cX10_release 59 = .ok (.ifCond .ne 5, 3) := by decide +kernel
theorem dX10_release_62 : decode cX10_release 62 = .ok (.iconst 0, 1) := by decide +kernel
theorem dX10_release_63 : decode cX10_release 63 = .ok (.ireturn, 1) := by decide +kernel
theorem dX10_release_64 : decode cX10_release 64 = .ok (.aload_n 0, 1) := by decide +kernel
theorem dX10_release_65 : decode cX10_release 65 = .ok (.aload_n 2, 1) := by decide +kernel
theorem dX10_release_66 : decode cX10_release 66 = .ok (.invokevirtual 260, 3) := by decide +kernel
theorem dX10_release_69 : decode cX10_release 69 = .ok (.aload_n 0, 1) := by decide +kernel
theorem dX10_release_70 : decode cX10_release 70 = .ok (.aload_n 2, 1) := by decide +kernel
theorem dX10_release_71 : decode cX10_release 71 = .ok (.invokevirtual 264, 3) := by decide +kernel
theorem dX10_release_74 : decode cX10_release 74 = .ok (.astore_n 3, 1) := by decide +kernel
theorem dX10_release_75 : decode cX10_release 75 = .ok (.aload_n 3, 1) := by decide +kernel
theorem dX10_release_76 : decode cX10_release 76 = .ok (.ifnonnull 11, 3) := by decide +kernel
theorem dX10_release_79 : decode cX10_release 79 = .ok (.aload_n 0, 1) := by decide +kernel
theorem dX10_release_80 : decode cX10_release 80 = .ok (.aload_n 2, 1) := by decide +kernel
theorem dX10_release_81 : decode cX10_release 81 = .ok (.invokevirtual 268, 3) := by decide +kernel
theorem dX10_release_84 : decode cX10_release 84 = .ok (.goto 8, 3) := by decide +kernel
theorem dX10_release_87 : decode cX10_release 87 = .ok (.aload_n 0, 1) := by decide +kernel
theorem dX10_release_88 : decode cX10_release 88 = .ok (.aload_n 3, 1) := by decide +kernel
theorem dX10_release_89 : decode cX10_release 89 = .ok (.invokevirtual 271, 3) := by decide +kernel
theorem dX10_release_92 : decode cX10_release 92 = .ok (.iconst 1, 1) := by decide +kernel
theorem dX10_release_93 : decode cX10_release 93 = .ok (.ireturn, 1) := by decide +kernel
theorem dX10_reserved_0 : decode cX10_reserved 0 = .ok (.aload_n 0, 1) := by decide +kernel
theorem dX10_reserved_1 : decode cX10_reserved 1 = .ok (.iload_n 1, 1) := by decide +kernel
theorem dX10_reserved_2 : decode cX10_reserved 2 = .ok (.invokevirtual 173, 3) := by decide +kernel
theorem dX10_reserved_5 : decode cX10_reserved 5 = .ok (.getfield 222, 3) := by decide +kernel
theorem dX10_reserved_8 : decode cX10_reserved 8 = .ok (.ireturn, 1) := by decide +kernel
theorem dX10_rest_0 : decode cX10_rest 0 = .ok (.aload_n 0, 1) := by decide +kernel
theorem dX10_rest_1 : decode cX10_rest 1 = .ok (.iload_n 1, 1) := by decide +kernel
theorem dX10_rest_2 : decode cX10_rest 2 = .ok (.invokevirtual 173, 3) := by decide +kernel
theorem dX10_rest_5 : decode cX10_rest 5 = .ok (.getfield 219, 3) := by decide +kernel
theorem dX10_rest_8 : decode cX10_rest 8 = .ok (.ireturn, 1) := by decide +kernel
theorem dX10_rule_0 : decode cX10_rule 0 = .ok (.aload_n 0, 1) := by decide +kernel
theorem dX10_rule_1 : decode cX10_rule 1 = .ok (.iload_n 1, 1) := by decide +kernel
theorem dX10_rule_2 : decode cX10_rule 2 = .ok (.invokevirtual 132, 3) := by decide +kernel
theorem dX10_rule_5 : decode cX10_rule 5 = .ok (.astore_n 2, 1) := by decide +kernel
theorem dX10_rule_6 : decode cX10_rule 6 = .ok (.aload_n 2, 1) := by decide +kernel
theorem dX10_rule_7 : decode cX10_rule 7 = .ok (.ifnonnull 13, 3) := by decide +kernel
theorem dX10_rule_10 : decode cX10_rule 10 = .ok (.new 164, 3) := by decide +kernel
theorem dX10_rule_13 : decode cX10_rule 13 = .ok (.dup, 1) := by decide +kernel
theorem dX10_rule_14 : decode cX10_rule 14 = .ok (.ldc 166, 2) := by decide +kernel
theorem dX10_rule_16 : decode cX10_rule 16 = .ok (.invokespecial 168, 3) := by decide +kernel
theorem dX10_rule_19 : decode cX10_rule 19 = .ok (.athrow, 1) := by decide +kernel
theorem dX10_rule_20 : decode cX10_rule 20 = .ok (.aload_n 2, 1) := by decide +kernel
theorem dX10_rule_21 : decode cX10_rule 21 = .ok (.getfield 169, 3) := by decide +kernel
theorem dX10_rule_24 : decode cX10_rule 24 = .ok (.ireturn, 1) := by decide +kernel
theorem dX10_scrap_0 : decode cX10_scrap 0 = .ok (.aload_n 0, 1) := by decide +kernel
theorem dX10_scrap_1 : decode cX10_scrap 1 = .ok (.iload_n 1, 1) := by decide +kernel
theorem dX10_scrap_2 : decode cX10_scrap 2 = .ok (.invokevirtual 238, 3) := by decide +kernel
theorem dX10_scrap_5 : decode cX10_scrap 5 = .ok (.astore_n 3, 1) := by decide +kernel
theorem dX10_scrap_6 : decode cX10_scrap 6 = .ok (.aload_n 3, 1) := by decide +kernel
theorem dX10_scrap_7 : decode cX10_scrap 7 = .ok (.invokevirtual 275, 3) := by decide +kernel
theorem dX10_scrap_10 : decode cX10_scrap 10 = .ok (.ifCond .ne 14, 3) := by decide +kernel
theorem dX10_scrap_13 : decode cX10_scrap 13 = .ok (.new 88, 3) := by decide +kernel
theorem dX10_scrap_16 : decode cX10_scrap 16 = .ok (.dup, 1) := by decide +kernel
theorem dX10_scrap_17 : decode cX10_scrap 17 = .ok (.ldc_w 278, 3) := by decide +kernel
theorem dX10_scrap_20 : decode cX10_scrap 20 = .ok (.invokespecial 92, 3) := by decide +kernel
theorem dX10_scrap_23 : decode cX10_scrap 23 = .ok (.athrow, 1) := by decide +kernel
theorem dX10_scrap_24 : decode cX10_scrap 24 = .ok (.aload_n 3, 1) := by decide +kernel
theorem dX10_scrap_25 : decode cX10_scrap 25 = .ok (.getfield 280, 3) := by decide +kernel
theorem dX10_scrap_28 : decode cX10_scrap 28 = .ok (.astore 4, 2) := by decide +kernel
theorem dX10_scrap_30 : decode cX10_scrap 30 = .ok (.iload_n 2, 1) := by decide +kernel
theorem dX10_scrap_31 : decode cX10_scrap 31 = .ok (.iconst 1, 1) := by decide +kernel
theorem dX10_scrap_32 : decode cX10_scrap 32 = .ok (.aload 4, 2) := by decide +kernel
theorem dX10_scrap_34 : decode cX10_scrap 34 = .ok (.getfield 284, 3) := by decide +kernel
theorem dX10_scrap_37 : decode cX10_scrap 37 = .ok (.invokestatic 47, 3) := by decide +kernel
theorem dX10_scrap_40 : decode cX10_scrap 40 = .ok (.ifCond .ne 14, 3) := by decide +kernel
theorem dX10_scrap_43 : decode cX10_scrap 43 = .ok (.new 51, 3) := by decide +kernel
theorem dX10_scrap_46 : decode cX10_scrap 46 = .ok (.dup, 1) := by decide +kernel
theorem dX10_scrap_47 : decode cX10_scrap 47 = .ok (.ldc_w 289, 3) := by decide +kernel
theorem dX10_scrap_50 : decode cX10_scrap 50 = .ok (.invokespecial 55, 3) := by decide +kernel
theorem dX10_scrap_53 : decode cX10_scrap 53 = .ok (.athrow, 1) := by decide +kernel
theorem dX10_scrap_54 : decode cX10_scrap 54 = .ok (.aload 4, 2) := by decide +kernel
theorem dX10_scrap_56 : decode cX10_scrap 56 = .ok (.dup, 1) := by decide +kernel
theorem dX10_scrap_57 : decode cX10_scrap 57 = .ok (.getfield 284, 3) := by decide +kernel
theorem dX10_scrap_60 : decode cX10_scrap 60 = .ok (.iload_n 2, 1) := by decide +kernel
theorem dX10_scrap_61 : decode cX10_scrap 61 = .ok (.isub, 1) := by decide +kernel
theorem dX10_scrap_62 : decode cX10_scrap 62 = .ok (.putfield 284, 3) := by decide +kernel
theorem dX10_scrap_65 : decode cX10_scrap 65 = .ok (.aload 4, 2) := by decide +kernel
theorem dX10_scrap_67 : decode cX10_scrap 67 = .ok (.dup, 1) := by decide +kernel
theorem dX10_scrap_68 : decode cX10_scrap 68 = .ok (.getfield 291, 3) := by decide +kernel
theorem dX10_scrap_71 : decode cX10_scrap 71 = .ok (.iload_n 2, 1) := by decide +kernel
theorem dX10_scrap_72 : decode cX10_scrap 72 = .ok (.iadd, 1) := by decide +kernel
theorem dX10_scrap_73 : decode cX10_scrap 73 = .ok (.putfield 291, 3) := by decide +kernel
theorem dX10_scrap_76 : decode cX10_scrap 76 = .ok (.aload 4, 2) := by decide +kernel
theorem dX10_scrap_78 : decode cX10_scrap 78 = .ok (.getfield 284, 3) := by decide +kernel
theorem dX10_scrap_81 : decode cX10_scrap 81 = .ok (.ireturn, 1) := by decide +kernel
theorem dX10_setChart_0 : decode cX10_setChart 0 = .ok (.aload_n 0, 1) := by decide +kernel
theorem dX10_setChart_1 : decode cX10_setChart 1 = .ok (.iload_n 1, 1) := by decide +kernel
theorem dX10_setChart_2 : decode cX10_setChart 2 = .ok (.invokevirtual 80, 3) := by decide +kernel
theorem dX10_setChart_5 : decode cX10_setChart 5 = .ok (.astore 4, 2) := by decide +kernel
theorem dX10_setChart_7 : decode cX10_setChart 7 = .ok (.iload_n 2, 1) := by decide +kernel
theorem dX10_setChart_8 : decode cX10_setChart 8 = .ok (.iconst 0, 1) := by decide +kernel
theorem dX10_setChart_9 : decode cX10_setChart 9 = .ok (.sipush 1000, 3) := by decide +kernel
theorem dX10_setChart_12 : decode cX10_setChart 12 = .ok (.invokestatic 47, 3) := by decide +kernel
theorem dX10_setChart_15 : decode cX10_setChart 15 = .ok (.ifCond .eq 14, 3) := by decide +kernel
theorem dX10_setChart_18 : decode cX10_setChart 18 = .ok (.iload_n 3, 1) := by decide +kernel
theorem dX10_setChart_19 : decode cX10_setChart 19 = .ok (.iconst 0, 1) := by decide +kernel
theorem dX10_setChart_20 : decode cX10_setChart 20 = .ok (.sipush 500, 3) := by decide +kernel
theorem dX10_setChart_23 : decode cX10_setChart 23 = .ok (.invokestatic 47, 3) := by decide +kernel
theorem dX10_setChart_26 : decode cX10_setChart 26 = .ok (.ifCond .ne 13, 3) := by decide +kernel
theorem dX10_setChart_29 : decode cX10_setChart 29 = .ok (.new 51, 3) := by decide +kernel
theorem dX10_setChart_32 : decode cX10_setChart 32 = .ok (.dup, 1) := by decide +kernel
theorem dX10_setChart_33 : decode cX10_setChart 33 = .ok (.ldc 188, 2) := by decide +kernel
theorem dX10_setChart_35 : decode cX10_setChart 35 = .ok (.invokespecial 55, 3) := by decide +kernel
theorem dX10_setChart_38 : decode cX10_setChart 38 = .ok (.athrow, 1) := by decide +kernel
theorem dX10_setChart_39 : decode cX10_setChart 39 = .ok (.aload 4, 2) := by decide +kernel
theorem dX10_setChart_41 : decode cX10_setChart 41 = .ok (.getfield 190, 3) := by decide +kernel
theorem dX10_setChart_44 : decode cX10_setChart 44 = .ok (.iload_n 2, 1) := by decide +kernel
theorem dX10_setChart_45 : decode cX10_setChart 45 = .ok (.iload_n 3, 1) := by decide +kernel
theorem dX10_setChart_46 : decode cX10_setChart 46 = .ok (.invokevirtual 194, 3) := by decide +kernel
theorem dX10_setChart_49 : decode cX10_setChart 49 = .ok (.aload 4, 2) := by decide +kernel
theorem dX10_setChart_51 : decode cX10_setChart 51 = .ok (.getfield 190, 3) := by decide +kernel
theorem dX10_setChart_54 : decode cX10_setChart 54 = .ok (.getfield 200, 3) := by decide +kernel
theorem dX10_setChart_57 : decode cX10_setChart 57 = .ok (.ireturn, 1) := by decide +kernel
theorem dX10_stateOf_0 : decode cX10_stateOf 0 = .ok (.aload_n 0, 1) := by decide +kernel
theorem dX10_stateOf_1 : decode cX10_stateOf 1 = .ok (.iload_n 1, 1) := by decide +kernel
theorem dX10_stateOf_2 : decode cX10_stateOf 2 = .ok (.invokevirtual 238, 3) := by decide +kernel
theorem dX10_stateOf_5 : decode cX10_stateOf 5 = .ok (.getfield 243, 3) := by decide +kernel
theorem dX10_stateOf_8 : decode cX10_stateOf 8 = .ok (.ireturn, 1) := by decide +kernel
theorem dX10_touched_0 : decode cX10_touched 0 = .ok (.aload_n 0, 1) := by decide +kernel
theorem dX10_touched_1 : decode cX10_touched 1 = .ok (.iload_n 1, 1) := by decide +kernel
theorem dX10_touched_2 : decode cX10_touched 2 = .ok (.invokevirtual 173, 3) := by decide +kernel
theorem dX10_touched_5 : decode cX10_touched 5 = .ok (.getfield 345, 3) := by decide +kernel
theorem dX10_touched_8 : decode cX10_touched 8 = .ok (.invokevirtual 348, 3) := by decide +kernel
theorem dX10_touched_11 : decode cX10_touched 11 = .ok (.ireturn, 1) := by decide +kernel
theorem dX10_waiting_0 : decode cX10_waiting 0 = .ok (.aload_n 0, 1) := by decide +kernel
theorem dX10_waiting_1 : decode cX10_waiting 1 = .ok (.aload_n 0, 1) := by decide +kernel
theorem dX10_waiting_2 : decode cX10_waiting 2 = .ok (.iload_n 1, 1) := by decide +kernel
theorem dX10_waiting_3 : decode cX10_waiting 3 = .ok (.invokevirtual 110, 3) := by decide +kernel
theorem dX10_waiting_6 : decode cX10_waiting 6 = .ok (.invokevirtual 338, 3) := by decide +kernel
theorem dX10_waiting_9 : decode cX10_waiting 9 = .ok (.ireturn, 1) := by decide +kernel
theorem dX10_wear_0 : decode cX10_wear 0 = .ok (.aload_n 0, 1) := by decide +kernel
theorem dX10_wear_1 : decode cX10_wear 1 = .ok (.iload_n 1, 1) := by decide +kernel
theorem dX10_wear_2 : decode cX10_wear 2 = .ok (.invokevirtual 110, 3) := by decide +kernel
theorem dX10_wear_5 : decode cX10_wear 5 = .ok (.getfield 335, 3) := by decide +kernel
theorem dX10_wear_8 : decode cX10_wear 8 = .ok (.ireturn, 1) := by decide +kernel
theorem dX10_withdraw_0 : decode cX10_withdraw 0 = .ok (.aload_n 0, 1) := by decide +kernel
theorem dX10_withdraw_1 : decode cX10_withdraw 1 = .ok (.iload_n 1, 1) := by decide +kernel
theorem dX10_withdraw_2 : decode cX10_withdraw 2 = .ok (.invokevirtual 238, 3) := by decide +kernel
theorem dX10_withdraw_5 : decode cX10_withdraw 5 = .ok (.astore_n 2, 1) := by decide +kernel
theorem dX10_withdraw_6 : decode cX10_withdraw 6 = .ok (.aload_n 2, 1) := by decide +kernel
theorem dX10_withdraw_7 : decode cX10_withdraw 7 = .ok (.getfield 243, 3) := by decide +kernel
theorem dX10_withdraw_10 : decode cX10_withdraw 10 = .ok (.bipush 112, 2) := by decide +kernel
theorem dX10_withdraw_12 : decode cX10_withdraw 12 = .ok (.if_icmp .eq 13, 3) := by decide +kernel
theorem dX10_withdraw_15 : decode cX10_withdraw 15 = .ok (.new 88, 3) := by decide +kernel
theorem dX10_withdraw_18 : decode cX10_withdraw 18 = .ok (.dup, 1) := by decide +kernel
theorem dX10_withdraw_19 : decode cX10_withdraw 19 = .ok (.ldc 252, 2) := by decide +kernel
theorem dX10_withdraw_21 : decode cX10_withdraw 21 = .ok (.invokespecial 92, 3) := by decide +kernel
theorem dX10_withdraw_24 : decode cX10_withdraw 24 = .ok (.athrow, 1) := by decide +kernel
theorem dX10_withdraw_25 : decode cX10_withdraw 25 = .ok (.aload_n 0, 1) := by decide +kernel
theorem dX10_withdraw_26 : decode cX10_withdraw 26 = .ok (.aload_n 2, 1) := by decide +kernel
theorem dX10_withdraw_27 : decode cX10_withdraw 27 = .ok (.invokevirtual 254, 3) := by decide +kernel
theorem dX10_withdraw_30 : decode cX10_withdraw 30 = .ok (.ireturn, 1) := by decide +kernel
theorem dX15_in_0 : decode cX15_in 0 = .ok (.iload_n 0, 1) := by decide +kernel
theorem dX15_in_1 : decode cX15_in 1 = .ok (.iload_n 1, 1) := by decide +kernel
theorem dX15_in_2 : decode cX15_in 2 = .ok (.if_icmp .lt 12, 3) := by decide +kernel
theorem dX15_in_5 : decode cX15_in 5 = .ok (.iload_n 0, 1) := by decide +kernel
theorem dX15_in_6 : decode cX15_in 6 = .ok (.iload_n 2, 1) := by decide +kernel
theorem dX15_in_7 : decode cX15_in 7 = .ok (.if_icmp .gt 7, 3) := by decide +kernel
theorem dX15_in_10 : decode cX15_in 10 = .ok (.iconst 1, 1) := by decide +kernel
theorem dX15_in_11 : decode cX15_in 11 = .ok (.goto 4, 3) := by decide +kernel
theorem dX15_in_14 : decode cX15_in 14 = .ok (.iconst 0, 1) := by decide +kernel
theorem dX15_in_15 : decode cX15_in 15 = .ok (.ireturn, 1) := by decide +kernel
theorem dX4_init_0 : decode cX4_init 0 = .ok (.aload_n 0, 1) := by decide +kernel
theorem dX4_init_1 : decode cX4_init 1 = .ok (.invokespecial 3, 3) := by decide +kernel
theorem dX4_init_4 : decode cX4_init 4 = .ok (.aload_n 0, 1) := by decide +kernel
theorem dX4_init_5 : decode cX4_init 5 = .ok (.bipush 45, 2) := by decide +kernel
theorem dX4_init_7 : decode cX4_init 7 = .ok (.putfield 9, 3) := by decide +kernel
theorem dX4_init_10 : decode cX4_init 10 = .ok (.aload_n 0, 1) := by decide +kernel
theorem dX4_init_11 : decode cX4_init 11 = .ok (.iconst (-1), 1) := by decide +kernel
theorem dX4_init_12 : decode cX4_init 12 = .ok (.putfield 15, 3) := by decide +kernel
theorem dX4_init_15 : decode cX4_init 15 = .ok (.aload_n 0, 1) := by decide +kernel
theorem dX4_init_16 : decode cX4_init 16 = .ok (.iconst (-1), 1) := by decide +kernel
theorem dX4_init_17 : decode cX4_init 17 = .ok (.putfield 19, 3) := by decide +kernel
theorem dX4_init_20 : decode cX4_init 20 = .ok (.aload_n 0, 1) := by decide +kernel
theorem dX4_init_21 : decode cX4_init 21 = .ok (.iload_n 1, 1) := by decide +kernel
theorem dX4_init_22 : decode cX4_init 22 = .ok (.putfield 22, 3) := by decide +kernel
theorem dX4_init_25 : decode cX4_init 25 = .ok (.aload_n 0, 1) := by decide +kernel
theorem dX4_init_26 : decode cX4_init 26 = .ok (.iload_n 2, 1) := by decide +kernel
theorem dX4_init_27 : decode cX4_init 27 = .ok (.putfield 25, 3) := by decide +kernel
theorem dX4_init_30 : decode cX4_init 30 = .ok (.aload_n 0, 1) := by decide +kernel
theorem dX4_init_31 : decode cX4_init 31 = .ok (.iload_n 3, 1) := by decide +kernel
theorem dX4_init_32 : decode cX4_init 32 = .ok (.putfield 28, 3) := by decide +kernel
theorem dX4_init_35 : decode cX4_init 35 = .ok (.aload_n 0, 1) := by decide +kernel
theorem dX4_init_36 : decode cX4_init 36 = .ok (.iload 4, 2) := by decide +kernel
theorem dX4_init_38 : decode cX4_init 38 = .ok (.putfield 31, 3) := by decide +kernel
theorem dX4_init_41 : decode cX4_init 41 = .ok (.return_, 1) := by decide +kernel
theorem dX5_init_0 : decode cX5_init 0 = .ok (.aload_n 0, 1) := by decide +kernel
theorem dX5_init_1 : decode cX5_init 1 = .ok (.invokespecial 1, 3) := by decide +kernel
theorem dX5_init_4 : decode cX5_init 4 = .ok (.return_, 1) := by decide +kernel
theorem dX8_init_0 : decode cX8_init 0 = .ok (.aload_n 0, 1) := by decide +kernel
theorem dX8_init_1 : decode cX8_init 1 = .ok (.invokespecial 3, 3) := by decide +kernel
theorem dX8_init_4 : decode cX8_init 4 = .ok (.aload_n 0, 1) := by decide +kernel
theorem dX8_init_5 : decode cX8_init 5 = .ok (.iconst 4, 1) := by decide +kernel
theorem dX8_init_6 : decode cX8_init 6 = .ok (.anewarray 9, 3) := by decide +kernel
theorem dX8_init_9 : decode cX8_init 9 = .ok (.putfield 11, 3) := by decide +kernel
theorem dX8_init_12 : decode cX8_init 12 = .ok (.aload_n 0, 1) := by decide +kernel
theorem dX8_init_13 : decode cX8_init 13 = .ok (.iconst 3, 1) := by decide +kernel
theorem dX8_init_14 : decode cX8_init 14 = .ok (.anewarray 17, 3) := by decide +kernel
theorem dX8_init_17 : decode cX8_init 17 = .ok (.putfield 19, 3) := by decide +kernel
theorem dX8_init_20 : decode cX8_init 20 = .ok (.aload_n 0, 1) := by decide +kernel
theorem dX8_init_21 : decode cX8_init 21 = .ok (.new 23, 3) := by decide +kernel
theorem dX8_init_24 : decode cX8_init 24 = .ok (.dup, 1) := by decide +kernel
theorem dX8_init_25 : decode cX8_init 25 = .ok (.invokespecial 25, 3) := by decide +kernel
theorem dX8_init_28 : decode cX8_init 28 = .ok (.putfield 26, 3) := by decide +kernel
theorem dX8_init_31 : decode cX8_init 31 = .ok (.aload_n 0, 1) := by decide +kernel
theorem dX8_init_32 : decode cX8_init 32 = .ok (.iload_n 1, 1) := by decide +kernel
theorem dX8_init_33 : decode cX8_init 33 = .ok (.putfield 30, 3) := by decide +kernel
theorem dX8_init_36 : decode cX8_init 36 = .ok (.aload_n 0, 1) := by decide +kernel
theorem dX8_init_37 : decode cX8_init 37 = .ok (.iload_n 2, 1) := by decide +kernel
theorem dX8_init_38 : decode cX8_init 38 = .ok (.putfield 34, 3) := by decide +kernel
theorem dX8_init_41 : decode cX8_init 41 = .ok (.aload_n 0, 1) := by decide +kernel
theorem dX8_init_42 : decode cX8_init 42 = .ok (.iload_n 3, 1) := by decide +kernel
theorem dX8_init_43 : decode cX8_init 43 = .ok (.putfield 38, 3) := by decide +kernel
theorem dX8_init_46 : decode cX8_init 46 = .ok (.return_, 1) := by decide +kernel
theorem dX9_init_0 : decode cX9_init 0 = .ok (.aload_n 0, 1) := by decide +kernel
theorem dX9_init_1 : decode cX9_init 1 = .ok (.invokespecial 3, 3) := by decide +kernel
theorem dX9_init_4 : decode cX9_init 4 = .ok (.aload_n 0, 1) := by decide +kernel
theorem dX9_init_5 : decode cX9_init 5 = .ok (.bipush 110, 2) := by decide +kernel
theorem dX9_init_7 : decode cX9_init 7 = .ok (.putfield 9, 3) := by decide +kernel
theorem dX9_init_10 : decode cX9_init 10 = .ok (.return_, 1) := by decide +kernel
end
section
/-! WA: the words that the walks ask of the tables, all of them good; each among them by its place, all of them in lw_tbl by places -/
abbrev xnms : List String := ["java/lang/RuntimeException", "java/lang/Exception"]
def wuX0 : List Cond := u_ws RX0 TX0 5
def wuX4 : List Cond := u_ws RX4 TX4 11
def wuX5 : List Cond := u_ws RX5 TX5 2
def wuX8 : List Cond := u_ws RX8 TX8 8
def wuX9 : List Cond := u_ws RX9 TX9 3
def wuX10 : List Cond := u_ws RX10 TX10 14
def wux_168 : List Cond := (vx_atS "Foundrymark" 168 "java/lang/IndexOutOfBoundsException" xnms).filter goodWord
def wux_365 : List Cond := (vx_atS "Foundrymark" 365 "java/lang/ArithmeticException" xnms).filter goodWord
def wux_55 : List Cond := (vx_atS "Foundrymark" 55 "java/lang/IllegalArgumentException" xnms).filter goodWord
def wa0 : List Cond := [Cond.classLink "Foundrymark" 164 "java/lang/IndexOutOfBoundsException", Cond.initialized "java/lang/IndexOutOfBoundsException", Cond.fieldLink "Foundrymark" 11 "Foundrymark" "machines" "[LFoundrymark$Machine;", Cond.fieldLink "Foundrymark" 17 "Foundrymark" "parts" "[LFoundrymark$Part;", Cond.fieldLink "Foundrymark" 29 "Foundrymark" "lots" "[LFoundrymark$Lot;", Cond.fieldLink "Foundrymark" 35 "Foundrymark" "orders" "[LFoundrymark$Order;", Cond.code ⟨"Foundrymark", "knownPart", "(I)LFoundrymark$Part;"⟩ prog_1_method_39_code 3 (some (.object "Foundrymark$Part")), Cond.methodLink "Foundrymark" 80 ⟨"Foundrymark", "knownPart", "(I)LFoundrymark$Part;"⟩, Cond.instanceMethod ⟨"Foundrymark", "knownPart", "(I)LFoundrymark$Part;"⟩, Cond.selects "Foundrymark" ⟨"Foundrymark", "knownPart", "(I)LFoundrymark$Part;"⟩ ⟨"Foundrymark", "knownPart", "(I)LFoundrymark$Part;"⟩, Cond.initialized "Foundrymark", Cond.code ⟨"Foundrymark", "knownLot", "(I)LFoundrymark$Lot;"⟩ prog_1_method_40_code 3 (some (.object "Foundrymark$Lot")), Cond.methodLink "Foundrymark" 173 ⟨"Foundrymark", "knownLot", "(I)LFoundrymark$Lot;"⟩, Cond.instanceMethod ⟨"Foundrymark", "knownLot", "(I)LFoundrymark$Lot;"⟩, Cond.selects "Foundrymark" ⟨"Foundrymark", "knownLot", "(I)LFoundrymark$Lot;"⟩ ⟨"Foundrymark", "knownLot", "(I)LFoundrymark$Lot;"⟩, Cond.code ⟨"Foundrymark", "knownOrder", "(I)LFoundrymark$Order;"⟩ prog_1_method_41_code 3 (some (.object "Foundrymark$Order")), Cond.methodLink "Foundrymark" 238 ⟨"Foundrymark", "knownOrder", "(I)LFoundrymark$Order;"⟩, Cond.instanceMethod ⟨"Foundrymark", "knownOrder", "(I)LFoundrymark$Order;"⟩, Cond.selects "Foundrymark" ⟨"Foundrymark", "knownOrder", "(I)LFoundrymark$Order;"⟩ ⟨"Foundrymark", "knownOrder", "(I)LFoundrymark$Order;"⟩, Cond.code ⟨"Foundrymark", "knownMachine", "(I)LFoundrymark$Machine;"⟩ prog_1_method_38_code 3 (some (.object "Foundrymark$Machine")), Cond.methodLink "Foundrymark" 110 ⟨"Foundrymark", "knownMachine", "(I)LFoundrymark$Machine;"⟩, Cond.instanceMethod ⟨"Foundrymark", "knownMachine", "(I)LFoundrymark$Machine;"⟩, Cond.selects "Foundrymark" ⟨"Foundrymark", "knownMachine", "(I)LFoundrymark$Machine;"⟩ ⟨"Foundrymark", "knownMachine", "(I)LFoundrymark$Machine;"⟩, Cond.fieldLink "Foundrymark" 23 "Foundrymark" "suppliers" "[LFoundrymark$Supplier;", Cond.code ⟨"Foundrymark", "findSupplier", "(I)LFoundrymark$Supplier;"⟩ prog_1_method_42_code 2 (some (.object "Foundrymark$Supplier")), Cond.methodLink "Foundrymark" 132 ⟨"Foundrymark", "findSupplier", "(I)LFoundrymark$Supplier;"⟩, Cond.instanceMethod ⟨"Foundrymark", "findSupplier", "(I)LFoundrymark$Supplier;"⟩, Cond.selects "Foundrymark" ⟨"Foundrymark", "findSupplier", "(I)LFoundrymark$Supplier;"⟩ ⟨"Foundrymark", "findSupplier", "(I)LFoundrymark$Supplier;"⟩, Cond.fieldLink "Foundrymark" 169 "Foundrymark$Supplier" "rule" "C", Cond.fieldLink "Foundrymark" 215 "Foundrymark" "lotCount" "I", Cond.fieldLink "Foundrymark" 495 "Foundrymark" "costLost" "J", Cond.fieldLink "Foundrymark" 145 "Foundrymark" "costIn" "J"]
def wa1 : List Cond := [Cond.code ⟨"Foundrymark", "areLotsSound", "()Z"⟩ prog_1_method_66_code 5 (some .boolean), Cond.methodLink "Foundrymark" 372 ⟨"Foundrymark", "areLotsSound", "()Z"⟩, Cond.instanceMethod ⟨"Foundrymark", "areLotsSound", "()Z"⟩, Cond.selects "Foundrymark" ⟨"Foundrymark", "areLotsSound", "()Z"⟩ ⟨"Foundrymark", "areLotsSound", "()Z"⟩, Cond.code ⟨"Foundrymark", "areJobsSound", "()Z"⟩ prog_1_method_68_code 6 (some .boolean), Cond.methodLink "Foundrymark" 375 ⟨"Foundrymark", "areJobsSound", "()Z"⟩, Cond.instanceMethod ⟨"Foundrymark", "areJobsSound", "()Z"⟩, Cond.selects "Foundrymark" ⟨"Foundrymark", "areJobsSound", "()Z"⟩ ⟨"Foundrymark", "areJobsSound", "()Z"⟩, Cond.code ⟨"Foundrymark", "areCostsSound", "()Z"⟩ prog_1_method_69_code 7 (some .boolean), Cond.methodLink "Foundrymark" 378 ⟨"Foundrymark", "areCostsSound", "()Z"⟩, Cond.instanceMethod ⟨"Foundrymark", "areCostsSound", "()Z"⟩, Cond.selects "Foundrymark" ⟨"Foundrymark", "areCostsSound", "()Z"⟩ ⟨"Foundrymark", "areCostsSound", "()Z"⟩, Cond.code ⟨"Foundrymark", "arePromisesSound", "()Z"⟩ prog_1_method_70_code 5 (some .boolean), Cond.methodLink "Foundrymark" 381 ⟨"Foundrymark", "arePromisesSound", "()Z"⟩, Cond.instanceMethod ⟨"Foundrymark", "arePromisesSound", "()Z"⟩, Cond.selects "Foundrymark" ⟨"Foundrymark", "arePromisesSound", "()Z"⟩ ⟨"Foundrymark", "arePromisesSound", "()Z"⟩, Cond.code ⟨"Foundrymark", "areTracesSound", "()Z"⟩ prog_1_method_71_code 5 (some .boolean), Cond.methodLink "Foundrymark" 384 ⟨"Foundrymark", "areTracesSound", "()Z"⟩, Cond.instanceMethod ⟨"Foundrymark", "areTracesSound", "()Z"⟩, Cond.selects "Foundrymark" ⟨"Foundrymark", "areTracesSound", "()Z"⟩ ⟨"Foundrymark", "areTracesSound", "()Z"⟩, Cond.classLink "Foundrymark" 361 "java/lang/ArithmeticException", Cond.initialized "java/lang/ArithmeticException", Cond.fieldLink "Foundrymark" 58 "Foundrymark" "machineCount" "I", Cond.fieldLink "Foundrymark" 294 "Foundrymark" "now" "I", Cond.code ⟨"Foundrymark", "isFrom", "(III)Z"⟩ prog_1_method_37_code 3 (some .boolean), Cond.methodLink "Foundrymark" 47 ⟨"Foundrymark", "isFrom", "(III)Z"⟩, Cond.static ⟨"Foundrymark", "isFrom", "(III)Z"⟩, Cond.classLink "Foundrymark" 51 "java/lang/IllegalArgumentException", Cond.initialized "java/lang/IllegalArgumentException", Cond.code ⟨"Foundrymark", "passTime", "()V"⟩ prog_1_method_58_code 5 none, Cond.methodLink "Foundrymark" 299 ⟨"Foundrymark", "passTime", "()V"⟩, Cond.instanceMethod ⟨"Foundrymark", "passTime", "()V"⟩]
def wa2 : List Cond := [Cond.selects "Foundrymark" ⟨"Foundrymark", "passTime", "()V"⟩ ⟨"Foundrymark", "passTime", "()V"⟩, Cond.methodLink "Foundrymark$NumberSet" 1 ⟨"java/lang/Object", "<init>", "()V"⟩, Cond.instanceMethod ⟨"java/lang/Object", "<init>", "()V"⟩, Cond.code ⟨"java/lang/Object", "<init>", "()V"⟩ object_method_1_code 1 none, Cond.methodLink "Foundrymark$Supplier" 3 ⟨"java/lang/Object", "<init>", "()V"⟩, Cond.fieldLink "Foundrymark$Supplier" 9 "Foundrymark$Supplier" "rule" "C", Cond.methodLink "Foundrymark$Chart" 1 ⟨"java/lang/Object", "<init>", "()V"⟩, Cond.fieldLink "Foundrymark$Chart" 7 "Foundrymark$Chart" "centre" "I", Cond.fieldLink "Foundrymark$Chart" 13 "Foundrymark$Chart" "width" "I", Cond.methodLink "Foundrymark$Machine" 3 ⟨"java/lang/Object", "<init>", "()V"⟩, Cond.fieldLink "Foundrymark$Machine" 9 "Foundrymark$Machine" "state" "C", Cond.fieldLink "Foundrymark$Machine" 15 "Foundrymark$Machine" "family" "I", Cond.fieldLink "Foundrymark$Machine" 19 "Foundrymark$Machine" "endsAt" "I", Cond.fieldLink "Foundrymark$Machine" 22 "Foundrymark$Machine" "rate" "I", Cond.fieldLink "Foundrymark$Machine" 25 "Foundrymark$Machine" "setup" "I", Cond.fieldLink "Foundrymark$Machine" 28 "Foundrymark$Machine" "life" "I", Cond.fieldLink "Foundrymark$Machine" 31 "Foundrymark$Machine" "repair" "I", Cond.methodLink "Foundrymark$Part" 3 ⟨"java/lang/Object", "<init>", "()V"⟩, Cond.classLink "Foundrymark$Part" 9 "Foundrymark$Component", Cond.fieldLink "Foundrymark$Part" 11 "Foundrymark$Part" "components" "[LFoundrymark$Component;", Cond.classLink "Foundrymark$Part" 17 "Foundrymark$Operation", Cond.fieldLink "Foundrymark$Part" 19 "Foundrymark$Part" "operations" "[LFoundrymark$Operation;", Cond.classLink "Foundrymark$Part" 23 "Foundrymark$Chart", Cond.instantiable "Foundrymark$Chart" 5, Cond.initialized "Foundrymark$Chart", Cond.code ⟨"Foundrymark$Chart", "<init>", "()V"⟩ prog_2_method_1_code 1 none, Cond.instanceMethod ⟨"Foundrymark$Chart", "<init>", "()V"⟩, Cond.fieldLink "Foundrymark$Part" 26 "Foundrymark$Part" "chart" "LFoundrymark$Chart;", Cond.fieldLink "Foundrymark$Part" 30 "Foundrymark$Part" "number" "I", Cond.fieldLink "Foundrymark$Part" 34 "Foundrymark$Part" "isMade" "Z", Cond.fieldLink "Foundrymark$Part" 38 "Foundrymark$Part" "family" "I", Cond.classLink "Foundrymark" 9 "Foundrymark$Machine"]
def wa3 : List Cond := [Cond.instantiable "Foundrymark$Machine" 11, Cond.initialized "Foundrymark$Machine", Cond.code ⟨"Foundrymark$Machine", "<init>", "(IIII)V"⟩ prog_6_method_1_code 5 none, Cond.methodLink "Foundrymark" 67 ⟨"Foundrymark$Machine", "<init>", "(IIII)V"⟩, Cond.instanceMethod ⟨"Foundrymark$Machine", "<init>", "(IIII)V"⟩, Cond.fieldLink "Foundrymark" 72 "Foundrymark" "partCount" "I", Cond.classLink "Foundrymark" 15 "Foundrymark$Part", Cond.instantiable "Foundrymark$Part" 8, Cond.initialized "Foundrymark$Part", Cond.code ⟨"Foundrymark$Part", "<init>", "(IZI)V"⟩ prog_10_method_1_code 4 none, Cond.methodLink "Foundrymark" 77 ⟨"Foundrymark$Part", "<init>", "(IZI)V"⟩, Cond.instanceMethod ⟨"Foundrymark$Part", "<init>", "(IZI)V"⟩, Cond.methodLink "Foundrymark" 1 ⟨"java/lang/Object", "<init>", "()V"⟩, Cond.classLink "Foundrymark" 21 "Foundrymark$Supplier", Cond.classLink "Foundrymark" 27 "Foundrymark$Lot", Cond.classLink "Foundrymark" 33 "Foundrymark$Order", Cond.classLink "Foundrymark" 39 "Foundrymark$NumberSet", Cond.instantiable "Foundrymark$NumberSet" 2, Cond.initialized "Foundrymark$NumberSet", Cond.code ⟨"Foundrymark$NumberSet", "<init>", "()V"⟩ prog_7_method_1_code 1 none, Cond.instanceMethod ⟨"Foundrymark$NumberSet", "<init>", "()V"⟩, Cond.fieldLink "Foundrymark" 42 "Foundrymark" "onHold" "LFoundrymark$NumberSet;", Cond.instantiable "Foundrymark$Supplier" 3, Cond.initialized "Foundrymark$Supplier", Cond.code ⟨"Foundrymark$Supplier", "<init>", "()V"⟩ prog_11_method_1_code 1 none, Cond.instanceMethod ⟨"Foundrymark$Supplier", "<init>", "()V"⟩]
theorem wuX0_g : GoodIn lw_tbl wuX0 := goodIn_r wuX0 [426, 428, 430, 432, 434] (by decide +kernel) (by decide +kernel)
theorem wuX4_g : GoodIn lw_tbl wuX4 := goodIn_r wuX4 [373, 375, 377, 379, 381, 383, 385, 387, 389, 391, 393] (by decide +kernel) (by decide +kernel)
theorem wuX5_g : GoodIn lw_tbl wuX5 := goodIn_r wuX5 [127, 129] (by decide +kernel) (by decide +kernel)
theorem wuX8_g : GoodIn lw_tbl wuX8 := goodIn_r wuX8 [450, 452, 454, 456, 458, 460, 462, 464] (by decide +kernel) (by decide +kernel)
theorem wuX9_g : GoodIn lw_tbl wuX9 := goodIn_r wuX9 [141, 143, 145] (by decide +kernel) (by decide +kernel)
theorem wuX10_g : GoodIn lw_tbl wuX10 := goodIn_r wuX10 [162, 164, 166, 168, 170, 172, 174, 176, 178, 180, 182, 184, 186, 188] (by decide +kernel) (by decide +kernel)
theorem wux_168_g : GoodIn lw_tbl wux_168 := goodIn_of _ (by decide +kernel)
theorem wux_365_g : GoodIn lw_tbl wux_365 := goodIn_of _ (by decide +kernel)
theorem wux_55_g : GoodIn lw_tbl wux_55 := goodIn_of _ (by decide +kernel)
theorem wa0_g : GoodIn lw_tbl wa0 := goodIn_r wa0 [503, 80, 148, 149, 151, 152, 502, 499, 501, 9, 59, 716, 713, 715, 16, 911, 908, 910, 20, 571, 568, 570, 10, 150, 614, 611, 613, 11, 138, 156, 161, 160] (by decide +kernel) (by decide +kernel)
theorem wa1_g : GoodIn lw_tbl wa1 := goodIn_r wa1 [202, 199, 201, 0, 214, 211, 213, 2, 226, 223, 225, 3, 230, 227, 229, 4, 246, 243, 245, 6, 1179, 100, 154, 159, 262, 260, 261, 263, 73, 1026, 1023, 1025] (by decide +kernel) (by decide +kernel)
theorem wa2_g : GoodIn lw_tbl wa2 := goodIn_r wa2 [33, 124, 107, 108, 136, 137, 419, 420, 421, 355, 361, 363, 368, 356, 358, 359, 360, 409, 410, 443, 412, 445, 414, 415, 78, 418, 417, 446, 437, 439, 441, 109] (by decide +kernel) (by decide +kernel)
theorem wa3_g : GoodIn lw_tbl wa3 := goodIn_r wa3 [351, 75, 354, 352, 353, 155, 111, 405, 77, 408, 406, 407, 106, 113, 115, 117, 119, 120, 60, 123, 122, 153, 132, 61, 135, 134] (by decide +kernel) (by decide +kernel)
def WA : List Cond := wuX0 ++ (wuX4 ++ (wuX5 ++ (wuX8 ++ (wuX9 ++ (wuX10 ++ (wux_168 ++ (wux_365 ++ (wux_55 ++ (wa0 ++ (wa1 ++ (wa2 ++ (wa3))))))))))))
theorem wuX0_i : ∀ w ∈ wuX0, w ∈ WA := fun _ h => List.mem_append_left _ h
theorem wuX4_i : ∀ w ∈ wuX4, w ∈ WA := fun _ h => List.mem_append_right _ (List.mem_append_left _ h)
theorem wuX5_i : ∀ w ∈ wuX5, w ∈ WA := fun _ h => List.mem_append_right _ (List.mem_append_right _ (List.mem_append_left _ h))
theorem wuX8_i : ∀ w ∈ wuX8, w ∈ WA := fun _ h => List.mem_append_right _ (List.mem_append_right _ (List.mem_append_right _ (List.mem_append_left _ h)))
theorem wuX9_i : ∀ w ∈ wuX9, w ∈ WA := fun _ h => List.mem_append_right _ (List.mem_append_right _ (List.mem_append_right _ (List.mem_append_right _ (List.mem_append_left _ h))))
theorem wuX10_i : ∀ w ∈ wuX10, w ∈ WA := fun _ h => List.mem_append_right _ (List.mem_append_right _ (List.mem_append_right _ (List.mem_append_right _ (List.mem_append_right _ (List.mem_append_left _ h)))))
theorem wux_168_i : ∀ w ∈ wux_168, w ∈ WA := fun _ h => List.mem_append_right _ (List.mem_append_right _ (List.mem_append_right _ (List.mem_append_right _ (List.mem_append_right _ (List.mem_append_right _ (List.mem_append_left _ h))))))
theorem wux_365_i : ∀ w ∈ wux_365, w ∈ WA := fun _ h => List.mem_append_right _ (List.mem_append_right _ (List.mem_append_right _ (List.mem_append_right _ (List.mem_append_right _ (List.mem_append_right _ (List.mem_append_right _ (List.mem_append_left _ h)))))))
theorem wux_55_i : ∀ w ∈ wux_55, w ∈ WA := fun _ h => List.mem_append_right _ (List.mem_append_right _ (List.mem_append_right _ (List.mem_append_right _ (List.mem_append_right _ (List.mem_append_right _ (List.mem_append_right _ (List.mem_append_right _ (List.mem_append_left _ h))))))))
theorem wa0_i : ∀ w ∈ wa0, w ∈ WA := fun _ h => List.mem_append_right _ (List.mem_append_right _ (List.mem_append_right _ (List.mem_append_right _ (List.mem_append_right _ (List.mem_append_right _ (List.mem_append_right _ (List.mem_append_right _ (List.mem_append_right _ (List.mem_append_left _ h)))))))))
theorem wa1_i : ∀ w ∈ wa1, w ∈ WA := fun _ h => List.mem_append_right _ (List.mem_append_right _ (List.mem_append_right _ (List.mem_append_right _ (List.mem_append_right _ (List.mem_append_right _ (List.mem_append_right _ (List.mem_append_right _ (List.mem_append_right _ (List.mem_append_right _ (List.mem_append_left _ h))))))))))
theorem wa2_i : ∀ w ∈ wa2, w ∈ WA := fun _ h => List.mem_append_right _ (List.mem_append_right _ (List.mem_append_right _ (List.mem_append_right _ (List.mem_append_right _ (List.mem_append_right _ (List.mem_append_right _ (List.mem_append_right _ (List.mem_append_right _ (List.mem_append_right _ (List.mem_append_right _ (List.mem_append_left _ h)))))))))))
theorem wa3_i : ∀ w ∈ wa3, w ∈ WA := fun _ h => List.mem_append_right _ (List.mem_append_right _ (List.mem_append_right _ (List.mem_append_right _ (List.mem_append_right _ (List.mem_append_right _ (List.mem_append_right _ (List.mem_append_right _ (List.mem_append_right _ (List.mem_append_right _ (List.mem_append_right _ (List.mem_append_right _ (h))))))))))))
theorem WA_tbl : GoodIn lw_tbl WA := fun w h => (List.mem_append.mp h).elim (wuX0_g w) (fun h => (List.mem_append.mp h).elim (wuX4_g w) (fun h => (List.mem_append.mp h).elim (wuX5_g w) (fun h => (List.mem_append.mp h).elim (wuX8_g w) (fun h => (List.mem_append.mp h).elim (wuX9_g w) (fun h => (List.mem_append.mp h).elim (wuX10_g w) (fun h => (List.mem_append.mp h).elim (wux_168_g w) (fun h => (List.mem_append.mp h).elim (wux_365_g w) (fun h => (List.mem_append.mp h).elim (wux_55_g w) (fun h => (List.mem_append.mp h).elim (wa0_g w) (fun h => (List.mem_append.mp h).elim (wa1_g w) (fun h => (List.mem_append.mp h).elim (wa2_g w) (fun h => wa3_g w h))))))))))))
theorem WA_in : ∀ w ∈ WA, w ∈ lw_tbl := fun w h => (WA_tbl w h).1
theorem WA_good : ∀ w ∈ WA, (w.onTables && w.keeps) = true ∨ ∃ ty, w = .arrayClass ty := fun w h => (WA_tbl w h).2
theorem iwX0 : ∀ w ∈ u_ws RX0 TX0 5, w ∈ WA := wuX0_i
theorem iwX4 : ∀ w ∈ u_ws RX4 TX4 11, w ∈ WA := wuX4_i
theorem iwX5 : ∀ w ∈ u_ws RX5 TX5 2, w ∈ WA := wuX5_i
theorem iwX8 : ∀ w ∈ u_ws RX8 TX8 8, w ∈ WA := wuX8_i
theorem iwX9 : ∀ w ∈ u_ws RX9 TX9 3, w ∈ WA := wuX9_i
theorem iwX10 : ∀ w ∈ u_ws RX10 TX10 14, w ∈ WA := wuX10_i
theorem wx_168 : ∀ w ∈ (vx_atS "Foundrymark" 168 "java/lang/IndexOutOfBoundsException" xnms).filter goodWord, w ∈ WA := wux_168_i
theorem wx_365 : ∀ w ∈ (vx_atS "Foundrymark" 365 "java/lang/ArithmeticException" xnms).filter goodWord, w ∈ WA := wux_365_i
theorem wx_55 : ∀ w ∈ (vx_atS "Foundrymark" 55 "java/lang/IllegalArgumentException" xnms).filter goodWord, w ∈ WA := wux_55_i
theorem mw0 : Cond.classLink "Foundrymark" 164 "java/lang/IndexOutOfBoundsException" ∈ WA := wa0_i _ (List.mem_of_getElem? (i := 0) rfl)
theorem mw1 : Cond.initialized "java/lang/IndexOutOfBoundsException" ∈ WA := wa0_i _ (List.mem_of_getElem? (i := 1) rfl)
theorem mw2 : Cond.fieldLink "Foundrymark" 11 "Foundrymark" "machines" "[LFoundrymark$Machine;" ∈ WA := wa0_i _ (List.mem_of_getElem? (i := 2) rfl)
theorem mw3 : Cond.fieldLink "Foundrymark" 17 "Foundrymark" "parts" "[LFoundrymark$Part;" ∈ WA := wa0_i _ (List.mem_of_getElem? (i := 3) rfl)
theorem mw4 : Cond.fieldLink "Foundrymark" 29 "Foundrymark" "lots" "[LFoundrymark$Lot;" ∈ WA := wa0_i _ (List.mem_of_getElem? (i := 4) rfl)
theorem mw5 : Cond.fieldLink "Foundrymark" 35 "Foundrymark" "orders" "[LFoundrymark$Order;" ∈ WA := wa0_i _ (List.mem_of_getElem? (i := 5) rfl)
theorem mw6 : Cond.code ⟨"Foundrymark", "knownPart", "(I)LFoundrymark$Part;"⟩ prog_1_method_39_code 3 (some (.object "Foundrymark$Part")) ∈ WA := wa0_i _ (List.mem_of_getElem? (i := 6) rfl)
theorem mw7 : Cond.methodLink "Foundrymark" 80 ⟨"Foundrymark", "knownPart", "(I)LFoundrymark$Part;"⟩ ∈ WA := wa0_i _ (List.mem_of_getElem? (i := 7) rfl)
theorem mw8 : Cond.instanceMethod ⟨"Foundrymark", "knownPart", "(I)LFoundrymark$Part;"⟩ ∈ WA := wa0_i _ (List.mem_of_getElem? (i := 8) rfl)
theorem mw9 : Cond.selects "Foundrymark" ⟨"Foundrymark", "knownPart", "(I)LFoundrymark$Part;"⟩ ⟨"Foundrymark", "knownPart", "(I)LFoundrymark$Part;"⟩ ∈ WA := wa0_i _ (List.mem_of_getElem? (i := 9) rfl)
theorem mw10 : Cond.initialized "Foundrymark" ∈ WA := wa0_i _ (List.mem_of_getElem? (i := 10) rfl)
theorem mw11 : Cond.code ⟨"Foundrymark", "knownLot", "(I)LFoundrymark$Lot;"⟩ prog_1_method_40_code 3 (some (.object "Foundrymark$Lot")) ∈ WA := wa0_i _ (List.mem_of_getElem? (i := 11) rfl)
theorem mw12 : Cond.methodLink "Foundrymark" 173 ⟨"Foundrymark", "knownLot", "(I)LFoundrymark$Lot;"⟩ ∈ WA := wa0_i _ (List.mem_of_getElem? (i := 12) rfl)
theorem mw13 : Cond.instanceMethod ⟨"Foundrymark", "knownLot", "(I)LFoundrymark$Lot;"⟩ ∈ WA := wa0_i _ (List.mem_of_getElem? (i := 13) rfl)
theorem mw14 : Cond.selects "Foundrymark" ⟨"Foundrymark", "knownLot", "(I)LFoundrymark$Lot;"⟩ ⟨"Foundrymark", "knownLot", "(I)LFoundrymark$Lot;"⟩ ∈ WA := wa0_i _ (List.mem_of_getElem? (i := 14) rfl)
theorem mw15 : Cond.code ⟨"Foundrymark", "knownOrder", "(I)LFoundrymark$Order;"⟩ prog_1_method_41_code 3 (some (.object "Foundrymark$Order")) ∈ WA := wa0_i _ (List.mem_of_getElem? (i := 15) rfl)
theorem mw16 : Cond.methodLink "Foundrymark" 238 ⟨"Foundrymark", "knownOrder", "(I)LFoundrymark$Order;"⟩ ∈ WA := wa0_i _ (List.mem_of_getElem? (i := 16) rfl)
theorem mw17 : Cond.instanceMethod ⟨"Foundrymark", "knownOrder", "(I)LFoundrymark$Order;"⟩ ∈ WA := wa0_i _ (List.mem_of_getElem? (i := 17) rfl)
theorem mw18 : Cond.selects "Foundrymark" ⟨"Foundrymark", "knownOrder", "(I)LFoundrymark$Order;"⟩ ⟨"Foundrymark", "knownOrder", "(I)LFoundrymark$Order;"⟩ ∈ WA := wa0_i _ (List.mem_of_getElem? (i := 18) rfl)
theorem mw19 : Cond.code ⟨"Foundrymark", "knownMachine", "(I)LFoundrymark$Machine;"⟩ prog_1_method_38_code 3 (some (.object "Foundrymark$Machine")) ∈ WA := wa0_i _ (List.mem_of_getElem? (i := 19) rfl)
theorem mw20 : Cond.methodLink "Foundrymark" 110 ⟨"Foundrymark", "knownMachine", "(I)LFoundrymark$Machine;"⟩ ∈ WA := wa0_i _ (List.mem_of_getElem? (i := 20) rfl)
theorem mw21 : Cond.instanceMethod ⟨"Foundrymark", "knownMachine", "(I)LFoundrymark$Machine;"⟩ ∈ WA := wa0_i _ (List.mem_of_getElem? (i := 21) rfl)
theorem mw22 : Cond.selects "Foundrymark" ⟨"Foundrymark", "knownMachine", "(I)LFoundrymark$Machine;"⟩ ⟨"Foundrymark", "knownMachine", "(I)LFoundrymark$Machine;"⟩ ∈ WA := wa0_i _ (List.mem_of_getElem? (i := 22) rfl)
theorem mw23 : Cond.fieldLink "Foundrymark" 23 "Foundrymark" "suppliers" "[LFoundrymark$Supplier;" ∈ WA := wa0_i _ (List.mem_of_getElem? (i := 23) rfl)
theorem mw24 : Cond.code ⟨"Foundrymark", "findSupplier", "(I)LFoundrymark$Supplier;"⟩ prog_1_method_42_code 2 (some (.object "Foundrymark$Supplier")) ∈ WA := wa0_i _ (List.mem_of_getElem? (i := 24) rfl)
theorem mw25 : Cond.methodLink "Foundrymark" 132 ⟨"Foundrymark", "findSupplier", "(I)LFoundrymark$Supplier;"⟩ ∈ WA := wa0_i _ (List.mem_of_getElem? (i := 25) rfl)
theorem mw26 : Cond.instanceMethod ⟨"Foundrymark", "findSupplier", "(I)LFoundrymark$Supplier;"⟩ ∈ WA := wa0_i _ (List.mem_of_getElem? (i := 26) rfl)
theorem mw27 : Cond.selects "Foundrymark" ⟨"Foundrymark", "findSupplier", "(I)LFoundrymark$Supplier;"⟩ ⟨"Foundrymark", "findSupplier", "(I)LFoundrymark$Supplier;"⟩ ∈ WA := wa0_i _ (List.mem_of_getElem? (i := 27) rfl)
theorem mw28 : Cond.fieldLink "Foundrymark" 169 "Foundrymark$Supplier" "rule" "C" ∈ WA := wa0_i _ (List.mem_of_getElem? (i := 28) rfl)
theorem mw29 : Cond.fieldLink "Foundrymark" 215 "Foundrymark" "lotCount" "I" ∈ WA := wa0_i _ (List.mem_of_getElem? (i := 29) rfl)
theorem mw30 : Cond.fieldLink "Foundrymark" 495 "Foundrymark" "costLost" "J" ∈ WA := wa0_i _ (List.mem_of_getElem? (i := 30) rfl)
theorem mw31 : Cond.fieldLink "Foundrymark" 145 "Foundrymark" "costIn" "J" ∈ WA := wa0_i _ (List.mem_of_getElem? (i := 31) rfl)
theorem mw32 : Cond.code ⟨"Foundrymark", "areLotsSound", "()Z"⟩ prog_1_method_66_code 5 (some .boolean) ∈ WA := wa1_i _ (List.mem_of_getElem? (i := 0) rfl)
theorem mw33 : Cond.methodLink "Foundrymark" 372 ⟨"Foundrymark", "areLotsSound", "()Z"⟩ ∈ WA := wa1_i _ (List.mem_of_getElem? (i := 1) rfl)
theorem mw34 : Cond.instanceMethod ⟨"Foundrymark", "areLotsSound", "()Z"⟩ ∈ WA := wa1_i _ (List.mem_of_getElem? (i := 2) rfl)
theorem mw35 : Cond.selects "Foundrymark" ⟨"Foundrymark", "areLotsSound", "()Z"⟩ ⟨"Foundrymark", "areLotsSound", "()Z"⟩ ∈ WA := wa1_i _ (List.mem_of_getElem? (i := 3) rfl)
theorem mw36 : Cond.code ⟨"Foundrymark", "areJobsSound", "()Z"⟩ prog_1_method_68_code 6 (some .boolean) ∈ WA := wa1_i _ (List.mem_of_getElem? (i := 4) rfl)
theorem mw37 : Cond.methodLink "Foundrymark" 375 ⟨"Foundrymark", "areJobsSound", "()Z"⟩ ∈ WA := wa1_i _ (List.mem_of_getElem? (i := 5) rfl)
theorem mw38 : Cond.instanceMethod ⟨"Foundrymark", "areJobsSound", "()Z"⟩ ∈ WA := wa1_i _ (List.mem_of_getElem? (i := 6) rfl)
theorem mw39 : Cond.selects "Foundrymark" ⟨"Foundrymark", "areJobsSound", "()Z"⟩ ⟨"Foundrymark", "areJobsSound", "()Z"⟩ ∈ WA := wa1_i _ (List.mem_of_getElem? (i := 7) rfl)
theorem mw40 : Cond.code ⟨"Foundrymark", "areCostsSound", "()Z"⟩ prog_1_method_69_code 7 (some .boolean) ∈ WA := wa1_i _ (List.mem_of_getElem? (i := 8) rfl)
theorem mw41 : Cond.methodLink "Foundrymark" 378 ⟨"Foundrymark", "areCostsSound", "()Z"⟩ ∈ WA := wa1_i _ (List.mem_of_getElem? (i := 9) rfl)
theorem mw42 : Cond.instanceMethod ⟨"Foundrymark", "areCostsSound", "()Z"⟩ ∈ WA := wa1_i _ (List.mem_of_getElem? (i := 10) rfl)
theorem mw43 : Cond.selects "Foundrymark" ⟨"Foundrymark", "areCostsSound", "()Z"⟩ ⟨"Foundrymark", "areCostsSound", "()Z"⟩ ∈ WA := wa1_i _ (List.mem_of_getElem? (i := 11) rfl)
theorem mw44 : Cond.code ⟨"Foundrymark", "arePromisesSound", "()Z"⟩ prog_1_method_70_code 5 (some .boolean) ∈ WA := wa1_i _ (List.mem_of_getElem? (i := 12) rfl)
theorem mw45 : Cond.methodLink "Foundrymark" 381 ⟨"Foundrymark", "arePromisesSound", "()Z"⟩ ∈ WA := wa1_i _ (List.mem_of_getElem? (i := 13) rfl)
theorem mw46 : Cond.instanceMethod ⟨"Foundrymark", "arePromisesSound", "()Z"⟩ ∈ WA := wa1_i _ (List.mem_of_getElem? (i := 14) rfl)
theorem mw47 : Cond.selects "Foundrymark" ⟨"Foundrymark", "arePromisesSound", "()Z"⟩ ⟨"Foundrymark", "arePromisesSound", "()Z"⟩ ∈ WA := wa1_i _ (List.mem_of_getElem? (i := 15) rfl)
theorem mw48 : Cond.code ⟨"Foundrymark", "areTracesSound", "()Z"⟩ prog_1_method_71_code 5 (some .boolean) ∈ WA := wa1_i _ (List.mem_of_getElem? (i := 16) rfl)
theorem mw49 : Cond.methodLink "Foundrymark" 384 ⟨"Foundrymark", "areTracesSound", "()Z"⟩ ∈ WA := wa1_i _ (List.mem_of_getElem? (i := 17) rfl)
theorem mw50 : Cond.instanceMethod ⟨"Foundrymark", "areTracesSound", "()Z"⟩ ∈ WA := wa1_i _ (List.mem_of_getElem? (i := 18) rfl)
theorem mw51 : Cond.selects "Foundrymark" ⟨"Foundrymark", "areTracesSound", "()Z"⟩ ⟨"Foundrymark", "areTracesSound", "()Z"⟩ ∈ WA := wa1_i _ (List.mem_of_getElem? (i := 19) rfl)
theorem mw52 : Cond.classLink "Foundrymark" 361 "java/lang/ArithmeticException" ∈ WA := wa1_i _ (List.mem_of_getElem? (i := 20) rfl)
theorem mw53 : Cond.initialized "java/lang/ArithmeticException" ∈ WA := wa1_i _ (List.mem_of_getElem? (i := 21) rfl)
theorem mw54 : Cond.fieldLink "Foundrymark" 58 "Foundrymark" "machineCount" "I" ∈ WA := wa1_i _ (List.mem_of_getElem? (i := 22) rfl)
theorem mw55 : Cond.fieldLink "Foundrymark" 294 "Foundrymark" "now" "I" ∈ WA := wa1_i _ (List.mem_of_getElem? (i := 23) rfl)
theorem mw56 : Cond.code ⟨"Foundrymark", "isFrom", "(III)Z"⟩ prog_1_method_37_code 3 (some .boolean) ∈ WA := wa1_i _ (List.mem_of_getElem? (i := 24) rfl)
theorem mw57 : Cond.methodLink "Foundrymark" 47 ⟨"Foundrymark", "isFrom", "(III)Z"⟩ ∈ WA := wa1_i _ (List.mem_of_getElem? (i := 25) rfl)
theorem mw58 : Cond.static ⟨"Foundrymark", "isFrom", "(III)Z"⟩ ∈ WA := wa1_i _ (List.mem_of_getElem? (i := 26) rfl)
theorem mw59 : Cond.classLink "Foundrymark" 51 "java/lang/IllegalArgumentException" ∈ WA := wa1_i _ (List.mem_of_getElem? (i := 27) rfl)
theorem mw60 : Cond.initialized "java/lang/IllegalArgumentException" ∈ WA := wa1_i _ (List.mem_of_getElem? (i := 28) rfl)
theorem mw61 : Cond.code ⟨"Foundrymark", "passTime", "()V"⟩ prog_1_method_58_code 5 none ∈ WA := wa1_i _ (List.mem_of_getElem? (i := 29) rfl)
theorem mw62 : Cond.methodLink "Foundrymark" 299 ⟨"Foundrymark", "passTime", "()V"⟩ ∈ WA := wa1_i _ (List.mem_of_getElem? (i := 30) rfl)
theorem mw63 : Cond.instanceMethod ⟨"Foundrymark", "passTime", "()V"⟩ ∈ WA := wa1_i _ (List.mem_of_getElem? (i := 31) rfl)
theorem mw64 : Cond.selects "Foundrymark" ⟨"Foundrymark", "passTime", "()V"⟩ ⟨"Foundrymark", "passTime", "()V"⟩ ∈ WA := wa2_i _ (List.mem_of_getElem? (i := 0) rfl)
theorem mw65 : Cond.methodLink "Foundrymark$NumberSet" 1 ⟨"java/lang/Object", "<init>", "()V"⟩ ∈ WA := wa2_i _ (List.mem_of_getElem? (i := 1) rfl)
theorem mw66 : Cond.instanceMethod ⟨"java/lang/Object", "<init>", "()V"⟩ ∈ WA := wa2_i _ (List.mem_of_getElem? (i := 2) rfl)
theorem mw67 : Cond.code ⟨"java/lang/Object", "<init>", "()V"⟩ object_method_1_code 1 none ∈ WA := wa2_i _ (List.mem_of_getElem? (i := 3) rfl)
theorem mw68 : Cond.methodLink "Foundrymark$Supplier" 3 ⟨"java/lang/Object", "<init>", "()V"⟩ ∈ WA := wa2_i _ (List.mem_of_getElem? (i := 4) rfl)
theorem mw69 : Cond.fieldLink "Foundrymark$Supplier" 9 "Foundrymark$Supplier" "rule" "C" ∈ WA := wa2_i _ (List.mem_of_getElem? (i := 5) rfl)
theorem mw70 : Cond.methodLink "Foundrymark$Chart" 1 ⟨"java/lang/Object", "<init>", "()V"⟩ ∈ WA := wa2_i _ (List.mem_of_getElem? (i := 6) rfl)
theorem mw71 : Cond.fieldLink "Foundrymark$Chart" 7 "Foundrymark$Chart" "centre" "I" ∈ WA := wa2_i _ (List.mem_of_getElem? (i := 7) rfl)
theorem mw72 : Cond.fieldLink "Foundrymark$Chart" 13 "Foundrymark$Chart" "width" "I" ∈ WA := wa2_i _ (List.mem_of_getElem? (i := 8) rfl)
theorem mw73 : Cond.methodLink "Foundrymark$Machine" 3 ⟨"java/lang/Object", "<init>", "()V"⟩ ∈ WA := wa2_i _ (List.mem_of_getElem? (i := 9) rfl)
theorem mw74 : Cond.fieldLink "Foundrymark$Machine" 9 "Foundrymark$Machine" "state" "C" ∈ WA := wa2_i _ (List.mem_of_getElem? (i := 10) rfl)
theorem mw75 : Cond.fieldLink "Foundrymark$Machine" 15 "Foundrymark$Machine" "family" "I" ∈ WA := wa2_i _ (List.mem_of_getElem? (i := 11) rfl)
theorem mw76 : Cond.fieldLink "Foundrymark$Machine" 19 "Foundrymark$Machine" "endsAt" "I" ∈ WA := wa2_i _ (List.mem_of_getElem? (i := 12) rfl)
theorem mw77 : Cond.fieldLink "Foundrymark$Machine" 22 "Foundrymark$Machine" "rate" "I" ∈ WA := wa2_i _ (List.mem_of_getElem? (i := 13) rfl)
theorem mw78 : Cond.fieldLink "Foundrymark$Machine" 25 "Foundrymark$Machine" "setup" "I" ∈ WA := wa2_i _ (List.mem_of_getElem? (i := 14) rfl)
theorem mw79 : Cond.fieldLink "Foundrymark$Machine" 28 "Foundrymark$Machine" "life" "I" ∈ WA := wa2_i _ (List.mem_of_getElem? (i := 15) rfl)
theorem mw80 : Cond.fieldLink "Foundrymark$Machine" 31 "Foundrymark$Machine" "repair" "I" ∈ WA := wa2_i _ (List.mem_of_getElem? (i := 16) rfl)
theorem mw81 : Cond.methodLink "Foundrymark$Part" 3 ⟨"java/lang/Object", "<init>", "()V"⟩ ∈ WA := wa2_i _ (List.mem_of_getElem? (i := 17) rfl)
theorem mw82 : Cond.classLink "Foundrymark$Part" 9 "Foundrymark$Component" ∈ WA := wa2_i _ (List.mem_of_getElem? (i := 18) rfl)
theorem mw83 : Cond.fieldLink "Foundrymark$Part" 11 "Foundrymark$Part" "components" "[LFoundrymark$Component;" ∈ WA := wa2_i _ (List.mem_of_getElem? (i := 19) rfl)
theorem mw84 : Cond.classLink "Foundrymark$Part" 17 "Foundrymark$Operation" ∈ WA := wa2_i _ (List.mem_of_getElem? (i := 20) rfl)
theorem mw85 : Cond.fieldLink "Foundrymark$Part" 19 "Foundrymark$Part" "operations" "[LFoundrymark$Operation;" ∈ WA := wa2_i _ (List.mem_of_getElem? (i := 21) rfl)
theorem mw86 : Cond.classLink "Foundrymark$Part" 23 "Foundrymark$Chart" ∈ WA := wa2_i _ (List.mem_of_getElem? (i := 22) rfl)
theorem mw87 : Cond.instantiable "Foundrymark$Chart" 5 ∈ WA := wa2_i _ (List.mem_of_getElem? (i := 23) rfl)
theorem mw88 : Cond.initialized "Foundrymark$Chart" ∈ WA := wa2_i _ (List.mem_of_getElem? (i := 24) rfl)
theorem mw89 : Cond.code ⟨"Foundrymark$Chart", "<init>", "()V"⟩ prog_2_method_1_code 1 none ∈ WA := wa2_i _ (List.mem_of_getElem? (i := 25) rfl)
theorem mw90 : Cond.instanceMethod ⟨"Foundrymark$Chart", "<init>", "()V"⟩ ∈ WA := wa2_i _ (List.mem_of_getElem? (i := 26) rfl)
theorem mw91 : Cond.fieldLink "Foundrymark$Part" 26 "Foundrymark$Part" "chart" "LFoundrymark$Chart;" ∈ WA := wa2_i _ (List.mem_of_getElem? (i := 27) rfl)
theorem mw92 : Cond.fieldLink "Foundrymark$Part" 30 "Foundrymark$Part" "number" "I" ∈ WA := wa2_i _ (List.mem_of_getElem? (i := 28) rfl)
theorem mw93 : Cond.fieldLink "Foundrymark$Part" 34 "Foundrymark$Part" "isMade" "Z" ∈ WA := wa2_i _ (List.mem_of_getElem? (i := 29) rfl)
theorem mw94 : Cond.fieldLink "Foundrymark$Part" 38 "Foundrymark$Part" "family" "I" ∈ WA := wa2_i _ (List.mem_of_getElem? (i := 30) rfl)
theorem mw95 : Cond.classLink "Foundrymark" 9 "Foundrymark$Machine" ∈ WA := wa2_i _ (List.mem_of_getElem? (i := 31) rfl)
theorem mw96 : Cond.instantiable "Foundrymark$Machine" 11 ∈ WA := wa3_i _ (List.mem_of_getElem? (i := 0) rfl)
theorem mw97 : Cond.initialized "Foundrymark$Machine" ∈ WA := wa3_i _ (List.mem_of_getElem? (i := 1) rfl)
theorem mw98 : Cond.code ⟨"Foundrymark$Machine", "<init>", "(IIII)V"⟩ prog_6_method_1_code 5 none ∈ WA := wa3_i _ (List.mem_of_getElem? (i := 2) rfl)
theorem mw99 : Cond.methodLink "Foundrymark" 67 ⟨"Foundrymark$Machine", "<init>", "(IIII)V"⟩ ∈ WA := wa3_i _ (List.mem_of_getElem? (i := 3) rfl)
theorem mw100 : Cond.instanceMethod ⟨"Foundrymark$Machine", "<init>", "(IIII)V"⟩ ∈ WA := wa3_i _ (List.mem_of_getElem? (i := 4) rfl)
theorem mw101 : Cond.fieldLink "Foundrymark" 72 "Foundrymark" "partCount" "I" ∈ WA := wa3_i _ (List.mem_of_getElem? (i := 5) rfl)
theorem mw102 : Cond.classLink "Foundrymark" 15 "Foundrymark$Part" ∈ WA := wa3_i _ (List.mem_of_getElem? (i := 6) rfl)
theorem mw103 : Cond.instantiable "Foundrymark$Part" 8 ∈ WA := wa3_i _ (List.mem_of_getElem? (i := 7) rfl)
theorem mw104 : Cond.initialized "Foundrymark$Part" ∈ WA := wa3_i _ (List.mem_of_getElem? (i := 8) rfl)
theorem mw105 : Cond.code ⟨"Foundrymark$Part", "<init>", "(IZI)V"⟩ prog_10_method_1_code 4 none ∈ WA := wa3_i _ (List.mem_of_getElem? (i := 9) rfl)
theorem mw106 : Cond.methodLink "Foundrymark" 77 ⟨"Foundrymark$Part", "<init>", "(IZI)V"⟩ ∈ WA := wa3_i _ (List.mem_of_getElem? (i := 10) rfl)
theorem mw107 : Cond.instanceMethod ⟨"Foundrymark$Part", "<init>", "(IZI)V"⟩ ∈ WA := wa3_i _ (List.mem_of_getElem? (i := 11) rfl)
theorem mw108 : Cond.methodLink "Foundrymark" 1 ⟨"java/lang/Object", "<init>", "()V"⟩ ∈ WA := wa3_i _ (List.mem_of_getElem? (i := 12) rfl)
theorem mw109 : Cond.classLink "Foundrymark" 21 "Foundrymark$Supplier" ∈ WA := wa3_i _ (List.mem_of_getElem? (i := 13) rfl)
theorem mw110 : Cond.classLink "Foundrymark" 27 "Foundrymark$Lot" ∈ WA := wa3_i _ (List.mem_of_getElem? (i := 14) rfl)
theorem mw111 : Cond.classLink "Foundrymark" 33 "Foundrymark$Order" ∈ WA := wa3_i _ (List.mem_of_getElem? (i := 15) rfl)
theorem mw112 : Cond.classLink "Foundrymark" 39 "Foundrymark$NumberSet" ∈ WA := wa3_i _ (List.mem_of_getElem? (i := 16) rfl)
theorem mw113 : Cond.instantiable "Foundrymark$NumberSet" 2 ∈ WA := wa3_i _ (List.mem_of_getElem? (i := 17) rfl)
theorem mw114 : Cond.initialized "Foundrymark$NumberSet" ∈ WA := wa3_i _ (List.mem_of_getElem? (i := 18) rfl)
theorem mw115 : Cond.code ⟨"Foundrymark$NumberSet", "<init>", "()V"⟩ prog_7_method_1_code 1 none ∈ WA := wa3_i _ (List.mem_of_getElem? (i := 19) rfl)
theorem mw116 : Cond.instanceMethod ⟨"Foundrymark$NumberSet", "<init>", "()V"⟩ ∈ WA := wa3_i _ (List.mem_of_getElem? (i := 20) rfl)
theorem mw117 : Cond.fieldLink "Foundrymark" 42 "Foundrymark" "onHold" "LFoundrymark$NumberSet;" ∈ WA := wa3_i _ (List.mem_of_getElem? (i := 21) rfl)
theorem mw118 : Cond.instantiable "Foundrymark$Supplier" 3 ∈ WA := wa3_i _ (List.mem_of_getElem? (i := 22) rfl)
theorem mw119 : Cond.initialized "Foundrymark$Supplier" ∈ WA := wa3_i _ (List.mem_of_getElem? (i := 23) rfl)
theorem mw120 : Cond.code ⟨"Foundrymark$Supplier", "<init>", "()V"⟩ prog_11_method_1_code 1 none ∈ WA := wa3_i _ (List.mem_of_getElem? (i := 24) rfl)
theorem mw121 : Cond.instanceMethod ⟨"Foundrymark$Supplier", "<init>", "()V"⟩ ∈ WA := wa3_i _ (List.mem_of_getElem? (i := 25) rfl)
end
section
/-! BASE: the form of contracts over cells that are told one by one; what they ask of the launch beside the words -/
def inR (v a b : Int32) : Bool := decide (a ≤ v) && decide (v ≤ b)
abbrev bI (b : Bool) : Int32 := if b then 1 else 0
theorem bI_f {b : Bool} (h : bI b = 0) : b = false := by cases b with
  | true => exact absurd h (by decide)
  | false => rfl
theorem bI_t {b : Bool} (h : ¬ bI b = 0) : b = true := by cases b with
  | true => rfl
  | false => exact absurd rfl h
theorem gIn {x M : Int32} {n : Nat} (hM : M.toInt = n) (h0 : ¬ x < 0) (h1 : ¬ M ≤ x) : vp_in x n := vp_in_iff.mpr (by
  rw [Int32.lt_iff_toInt_lt] at h0
  rw [Int32.le_iff_toInt_le, hM] at h1
  have h2 : (0 : Int32).toInt = 0 := rfl
  omega)
theorem inR_m1 {v : Int32} : inR v 0 (0 - 1) = false := by
  unfold inR
  rcases hc : decide ((0 : Int32) ≤ v) with _ | _
  · rfl
  · have h1 := of_decide_eq_true hc
    rw [Int32.le_iff_toInt_le] at h1
    have h2 : ¬ v ≤ (0 - 1 : Int32) := by
      rw [Int32.le_iff_toInt_le]
      have e1 : (0 - 1 : Int32).toInt = -1 := by decide
      have e0 : (0 : Int32).toInt = 0 := rfl
      omega
    exact (Bool.true_and _).trans (decide_eq_false h2)
theorem inR_of {v a b M : Int32} (hM : M.toInt = b.toInt + 1) (h0 : ¬ v < a) (h1 : ¬ M ≤ v) : inR v a b = true := by
  have e0 : a ≤ v := Int32.not_lt.mp h0
  have e1 : v ≤ b := by
    rw [Int32.le_iff_toInt_le] at h1 ⊢
    omega
  simp [inR, e0, e1]
theorem lgc {x : Int64} : lg_cmp x x = 0 := by simp [lg_cmp]
theorem adv_le {N : Nat} (hN : N ≤ 500) : (0 : Int32) + nI N ≤ 5000 := by
  rw [show (0 : Int32) = nI 0 from rfl, nI_add, show (5000 : Int32) = nI 5000 from rfl]
  exact nI_le (by omega) (by decide)
def fitM (x1 x2 x3 x4 : Int32) : Bool := inR x1 0 20 && inR x2 0 50 && inR x3 5 500 && inR x4 1 99
theorem inR_t {v a b : Int32} (h1 : a ≤ v) (h2 : v ≤ b) : inR v a b = true := by simp [inR, h1, h2]
theorem inR_f1 {v a b : Int32} (h1 : ¬ a ≤ v) : inR v a b = false := by simp [inR, h1]
theorem inR_f2 {v a b : Int32} (h1 : ¬ v ≤ b) : inR v a b = false := by simp [inR, h1]
abbrev wsC (y : MethodName) (b : ByteArray) (n : Nat) (r : Option FieldType) : List Cond := Cond.code y b n r :: WA
abbrev wsW (y : MethodName) (b : ByteArray) (n : Nat) (r : Option FieldType) (hh : List (Nat × Nat × Nat × Nat)) : List Cond := Cond.codeWith y b n r hh :: WA
theorem gWgood {ws : List Cond} (h : ∀ w ∈ ws, w ∈ WA) : GoodIn WA ws := fun w hw => ⟨h w hw, WA_good w (h w hw)⟩
section GW
variable {own C : String} {idx : Nat} {y : MethodName} {b : ByteArray} {n : Nat} {r : Option FieldType} {hh : List (Nat × Nat × Nat × Nat)}
theorem gWI (h : Cond.code y b n r ∈ WA) : GoodIn WA (wsC y b n r) := gWgood (fun w hw => (List.mem_cons.mp hw).elim (fun e => e ▸ h) id)
theorem gWV (h1 : Cond.methodLink own idx y ∈ WA) (h2 : Cond.instanceMethod y ∈ WA) (h3 : Cond.selects C y y ∈ WA) (h4 : Cond.initialized C ∈ WA) (h5 : Cond.code y b n r ∈ WA) : GoodIn WA (wsV own idx C y (wsC y b n r)) := gWgood (fun w hw => by
  unfold wsV at hw
  rcases List.mem_append.mp hw with h | h
  · simp only [List.mem_cons, List.not_mem_nil, or_false] at h
    rcases h with rfl | rfl | rfl | rfl
    · exact h1
    · exact h2
    · exact h3
    · exact h4
  · rcases List.mem_cons.mp h with rfl | h
    · exact h5
    · exact h)
theorem gWS (h1 : Cond.methodLink own idx y ∈ WA) (h2 : Cond.static y ∈ WA) (h4 : Cond.initialized y.cls ∈ WA) (h5 : Cond.code y b n r ∈ WA) : GoodIn WA (va_wsS own idx y (wsC y b n r)) := gWgood (fun w hw => by
  unfold va_wsS at hw
  rcases List.mem_append.mp hw with h | h
  · simp only [List.mem_cons, List.not_mem_nil, or_false] at h
    rcases h with rfl | rfl | rfl
    · exact h1
    · exact h2
    · exact h4
  · rcases List.mem_cons.mp h with rfl | h
    · exact h5
    · exact h)
theorem gWSW (h1 : Cond.methodLink own idx y ∈ WA) (h2 : Cond.static y ∈ WA) (h4 : Cond.initialized y.cls ∈ WA) (h5 : Cond.codeWith y b n r hh ∈ WA) : GoodIn WA (va_wsS own idx y (wsW y b n r hh)) := gWgood (fun w hw => by
  unfold va_wsS at hw
  rcases List.mem_append.mp hw with h | h
  · simp only [List.mem_cons, List.not_mem_nil, or_false] at h
    rcases h with rfl | rfl | rfl
    · exact h1
    · exact h2
    · exact h4
  · rcases List.mem_cons.mp h with rfl | h
    · exact h5
    · exact h)
theorem gWF {x : MethodName} (h1 : Cond.methodLink own idx x ∈ WA) (h2 : Cond.selects C x y ∈ WA) (h3 : Cond.instanceMethod y ∈ WA) (h4 : Cond.initialized y.cls ∈ WA) (h5 : Cond.code y b n r ∈ WA) : GoodIn WA (va_wsF own idx C x y (wsC y b n r)) := gWgood (fun w hw => by
  unfold va_wsF at hw
  rcases List.mem_append.mp hw with h | h
  · simp only [List.mem_cons, List.not_mem_nil, or_false] at h
    rcases h with rfl | rfl | rfl | rfl
    · exact h1
    · exact h2
    · exact h3
    · exact h4
  · rcases List.mem_cons.mp h with rfl | h
    · exact h5
    · exact h)
end GW
def exD : List MethodName := [⟨"java/lang/RuntimeException", "<init>", "(Ljava/lang/String;)V"⟩, ⟨"java/lang/Exception", "<init>", "(Ljava/lang/String;)V"⟩, ⟨"java/lang/Throwable", "<init>", "(Ljava/lang/String;)V"⟩]
def exC : List (String × String) := [("java/lang/IndexOutOfBoundsException", "java/lang/IndexOutOfBoundsException"), ("java/lang/IllegalArgumentException", "java/lang/IllegalArgumentException"), ("java/lang/ArithmeticException", "java/lang/ArithmeticException"), ("java/util/ArrayList", "java/lang/Object"), ("FoundrymarkModel$Machine", "java/lang/Object"), ("FoundrymarkModel$Part", "java/lang/Object")]
def exN : List (String × Nat × MethodName) := [("Foundrymark", 41, ⟨"Foundrymark$NumberSet", "<init>", "()V"⟩), ("Foundrymark", 46, ⟨"Foundrymark$Supplier", "<init>", "()V"⟩), ("Foundrymark$Part", 25, ⟨"Foundrymark$Chart", "<init>", "()V"⟩)]
def exA : List String := ["Foundrymark$Machine", "Foundrymark$Part", "Foundrymark$Supplier", "Foundrymark$Lot", "Foundrymark$Order", "Foundrymark$Component", "Foundrymark$Operation", "java/lang/Object"]
def exS : List (Nat × String) := [(53, "a number of the machine is out of range"), (70, "there is no such family"), (389, "there is no such part"), (387, "there is no such machine"), (166, "there is no such supplier"), (391, "there is no such lot"), (393, "there is no such order"), (116, "the time is out of range"), (363, "no order was delivered"), (366, "there are no machines")]
def exB : List Cond := [.declares ⟨"java/lang/RuntimeException", "<init>", "(Ljava/lang/String;)V"⟩, .declares ⟨"java/lang/Exception", "<init>", "(Ljava/lang/String;)V"⟩, .declares ⟨"java/lang/Throwable", "<init>", "(Ljava/lang/String;)V"⟩, .castable "java/lang/IndexOutOfBoundsException" "java/lang/IndexOutOfBoundsException", .castable "java/lang/IllegalArgumentException" "java/lang/IllegalArgumentException", .castable "java/lang/ArithmeticException" "java/lang/ArithmeticException"]
/-- what is asked of the launch beside the words: names declared, casts, links of nest mates, classes of arrays, texts, statics (none of them in A) -/
def gP (tE : Nat) (A : Nat → Prop) (U : State) : Prop := (∀ x ∈ exD, va_Nw (.declares x) U) ∧ (∀ q ∈ exC, va_Nw (.castable q.1 q.2) U) ∧ (∀ q ∈ exN, va_Nw (.methodLinkNest q.1 q.2.1 q.2.2 "Foundrymark") U) ∧ (∀ C ∈ exA, va_AO C U) ∧ (∀ q ∈ exS, ∃ sa : Nat, vk_R "Foundrymark" q.1 q.2 sa U)
  ∧ vx_Zq Bundle.tN "UNASSIGNED_STACK" Bundle.steD A U U.heap ∧ vx_Zq Bundle.tN "SUPPRESSED_SENTINEL" Bundle.listD A U U.heap ∧ va_Z "java/util/ArrayList" "DEFAULTCAPACITY_EMPTY_ELEMENTDATA" "[Ljava/lang/Object;" (.ref tE) A U U.heap ∧ va_T (.object "java/lang/Object") tE 0 (fun _ => .null) A U U.heap ∧ va_Fw "java/util/ArrayList$Itr" ⟨"java/util/Iterator", "hasNext", "()Z"⟩ ⟨"java/util/ArrayList$Itr", "hasNext", "()Z"⟩ U ∧ va_Nw (.fieldLinkNest "java/util/ArrayList$Itr" 28 "java/util/ArrayList" "size" "I" "java/util/ArrayList") U
section GP
variable {tE : Nat} {A : Nat → Prop} {s : State}
theorem gP.C (h : gP tE A s) (q : String × String) (hq : q ∈ exC) : va_Nw (.castable q.1 q.2) s := h.2.1 q hq
theorem gP.M (h : gP tE A s) (q : String × Nat × MethodName) (hq : q ∈ exN) : va_Nw (.methodLinkNest q.1 q.2.1 q.2.2 "Foundrymark") s := h.2.2.1 q hq
theorem gP.O (h : gP tE A s) (C : String) (hq : C ∈ exA) : va_AO C s := h.2.2.2.1 C hq
theorem gP.S (h : gP tE A s) (q : Nat × String) (hq : q ∈ exS) : ∃ sa : Nat, vk_R "Foundrymark" q.1 q.2 sa s := h.2.2.2.2.1 q hq
theorem gP.U (h : gP tE A s) : vx_Zq Bundle.tN "UNASSIGNED_STACK" Bundle.steD A s s.heap := h.2.2.2.2.2.1
theorem gP.N (h : gP tE A s) : vx_Zq Bundle.tN "SUPPRESSED_SENTINEL" Bundle.listD A s s.heap := h.2.2.2.2.2.2.1
theorem gP.Z (h : gP tE A s) : va_Z "java/util/ArrayList" "DEFAULTCAPACITY_EMPTY_ELEMENTDATA" "[Ljava/lang/Object;" (.ref tE) A s s.heap := h.2.2.2.2.2.2.2.1
theorem gP.T (h : gP tE A s) : va_T (.object "java/lang/Object") tE 0 (fun _ => .null) A s s.heap := h.2.2.2.2.2.2.2.2.1
theorem gP.F (h : gP tE A s) : va_Fw "java/util/ArrayList$Itr" ⟨"java/util/Iterator", "hasNext", "()Z"⟩ ⟨"java/util/ArrayList$Itr", "hasNext", "()Z"⟩ s := h.2.2.2.2.2.2.2.2.2.1
theorem gP.E (h : gP tE A s) : va_Nw (.fieldLinkNest "java/util/ArrayList$Itr" 28 "java/util/ArrayList" "size" "I" "java/util/ArrayList") s := h.2.2.2.2.2.2.2.2.2.2
theorem exB_ot : ∀ w ∈ exB, w.onTables = true := by decide +kernel
theorem gP.B (h : gP tE A s) {args : Array Value} : ∀ w ∈ exB, w.before args s = true := fun w hw => va_any (exB_ot w hw) (A := #[]) (by
  simp only [exB, List.mem_cons, List.not_mem_nil, or_false] at hw
  rcases hw with rfl | rfl | rfl | rfl | rfl | rfl
  · exact h.1 _ (by decide)
  · exact h.1 _ (by decide)
  · exact h.1 _ (by decide)
  · exact h.2.1 (_, _) (by decide)
  · exact h.2.1 (_, _) (by decide)
  · exact h.2.1 (_, _) (by decide))
theorem gP.call {A1 : Nat → Prop} {H : Heap} {locs : List Loc} {U : State} (h : gP tE A s) (hS : va_S A s.heap H locs) (hU : U.heap = H) (hW : s.WarmedH U.vm) (hA : ∀ q, A1 q → A q) : gP tE A1 U := by
  have hk : ∀ a : Nat, a < s.heap.size → ¬ A a → U.heap[a]? = s.heap[a]? := fun a h1 h2 => by rw [hU]; exact hS.2.1 a h1 h2
  exact ⟨fun x hx => (h.1 x hx).warmD hW, fun q hq => (h.2.1 q hq).warmC hW, fun q hq => (h.2.2.1 q hq).warmM hW, fun C hC => (h.2.2.2.1 C hC).moved hW.alike,
    fun q hq => (h.2.2.2.2.1 q hq).elim (fun sa hsa => ⟨sa, hsa.warm hW⟩), ((h.U.moved hW.alike).kept hk).narrow hA, ((h.N.moved hW.alike).kept hk).narrow hA, ((h.Z.moved hW.alike).kept hk).narrow hA, ((h.T.moved hW.alike).kept hk).narrow hA, h.F.moved (by decide) hW.alike, h.E.warmF hW⟩
theorem gP.blind (h : gP tE A s) (g : JFrame) (mk : MethodId) (a : Array Value) : gP tE A (s.calling g mk a) :=
  ⟨fun x hx => (h.1 x hx).same rfl rfl, fun q hq => (h.2.1 q hq).same rfl rfl, fun q hq => (h.2.2.1 q hq).same rfl rfl, fun C hC => (h.2.2.2.1 C hC).moved (Vm.Alike.refl s.vm),
    fun q hq => (h.2.2.2.2.1 q hq).elim (fun sa hsa => ⟨sa, hsa.same rfl⟩), h.U.moved (Vm.Alike.refl s.vm), h.N.moved (Vm.Alike.refl s.vm), h.Z.moved (Vm.Alike.refl s.vm), h.T.moved (Vm.Alike.refl s.vm), h.F.moved (by decide) (Vm.Alike.refl s.vm), h.E.same rfl rfl⟩
end GP
/-- a start: the world of a method that only reads; of one that writes -/
abbrev gR (D : va_G) (ws : va_W) (tys : List (ClassId × FieldType)) (U : State) : Prop := va_P D vwCl ws U.heap ∧ va_K D vwCl tys U
abbrev gS (tE : Nat) (D : va_G) (ws : va_W) (tys : List (ClassId × FieldType)) (sz : Nat) (U : State) : Prop := U.heap.size = sz ∧ va_P D vwCl ws U.heap ∧ va_K D vwCl tys U ∧ va_D (fun _ => True) ws ∧ gP tE (va_A ws sz) U
theorem gR_blind {D : va_G} {ws : va_W} {tys : List (ClassId × FieldType)} {av : List Value} : FrameBlind (va_Pc av (gR D ws tys)) := fun a U g mk q =>
  ⟨q.1, q.2.1, va_K.moved (u := U) (U := U.calling g mk a) (Vm.Alike.refl U.vm) q.2.2⟩
theorem gS_blind {tE : Nat} {D : va_G} {ws : va_W} {tys : List (ClassId × FieldType)} {sz : Nat} {av : List Value} : FrameBlind (va_Pc av (gS tE D ws tys sz)) := fun a U g mk q =>
  ⟨q.1, q.2.1, q.2.2.1, va_K.moved (u := U) (U := U.calling g mk a) (Vm.Alike.refl U.vm) q.2.2.2.1, q.2.2.2.2.1, q.2.2.2.2.2.blind g mk a⟩
/-- an end -/
abbrev gO {U : Type} (D : va_G) (WO : U → va_W) (tO : U → List (ClassId × FieldType)) (A : Nat → Prop) (u : U) (t : State) : Prop := va_P D vwCl (WO u) t.heap ∧ va_K D vwCl (tO u) t ∧ va_D A (WO u)
theorem gF9 {A : Nat → Prop} {s t : State} {H : Heap} {locs : List Loc} (hS : va_S A s.heap H locs) (hz : H.size ≤ t.heap.size) (hk : ∀ q : Nat, q < H.size → t.heap[q]? = H[q]?) : va_F A s t :=
  ⟨Nat.le_trans hS.1 hz, fun q h1 h2 => (hk q (Nat.lt_of_lt_of_le h1 hS.1)).trans (hS.2.1 q h1 h2)⟩
theorem loop_g {σ : Type} {Wg : σ → Prop} (N : Nat) (I : Nat → σ → Prop) (step : ∀ j, j < N → (∀ z, I (j + 1) z → Wg z) → ∀ z, I j z → Wg z) (exit : ∀ z, I N z → Wg z) : ∀ z, I 0 z → Wg z := by
  have h : ∀ n j, j + n = N → ∀ z, I j z → Wg z := by
    intro n
    induction n with
    | zero => intro j hj z hz; exact exit z (by rw [Nat.add_zero] at hj; exact hj ▸ hz)
    | succ n ih => intro j hj z hz; exact step j (by omega) (fun z2 h2 => ih (j + 1) (by omega) z2 h2) z hz
  exact fun z hz => h N 0 (by omega) z hz
section GJ
variable {p : Program} {l : Launch} {e : Env} {R : Room} {s : State} {m : MethodId} {args : Array Value} {below : List Frame} {meth : Method} {c : Code} {H : Heap} {locs : List Loc} {cells slots : Nat} {Q : State → Prop}
variable {pc mc ms : Nat} {ls : Array Slot} {rest st0 : List Value} {D : va_G} {A : Nat → Prop} {H0 : Heap} {U SX : Type} {WO : U → va_W} {tO : U → List (ClassId × FieldType)} {wc wr ws : va_W} {tys : List (ClassId × FieldType)} {isC isR : List Nat} {a : Array Value} {px : SX → Prop} {X9 : String}
theorem gJ_i {post : Int32 → U → Prop} (hr : va_Run p l e R s m args below meth c H locs cells slots mc ms (F0 m pc ls st0) rest (va_Qi post (gO D WO tO (va_A wc H.size)) (va_A wc H.size) a) (va_A wc H.size)) (hP : va_P D vwCl ws H) (hD : va_D A ws) (hS : va_S A H0 H locs) (hK : va_K D vwCl tys s) (hFc : ∀ q, va_A wc H.size q → A q) (hC : isC.map (fun i => ws[i]?) = wc.map some) (hR : isR.map (fun i => ws[i]?) = wr.map some) (hn : va_nd isR = true) (hdis : ∀ i ∈ isR, i ∉ isC)
    (kk : ∀ (r : Int32) (u : U) (H1 : Heap) (locs1 : List Loc), post r u → va_P D vwCl (wr ++ WO u) H1 → va_D A (wr ++ WO u) → va_S A H0 H1 locs1 → va_K D vwCl (tys ++ tO u) s → W p l e R s m args below meth c H1 locs1 (cells + mc) (slots + ms) Q (F0 m (pc + 3) ls (.int r :: rest))) : W p l e R s m args below meth c H locs cells slots Q (F0 m pc ls st0) :=
  va_calli hr hS (fun q _ h => hFc q h) hFc (fun r u t H1 locs1 ht hvm hp hB hz hk hS1 => by
    obtain ⟨hP1, hK1, hD1⟩ := hB
    rw [ht] at hP1
    obtain ⟨a1, a2⟩ := va_join hP hD isC isR hC hR hn hdis hk hFc hP1 hD1
    exact kk r u H1 locs1 hp a1 a2 hS1 (hK.app (va_K.moved hvm.symm hK1)))
theorem gJ_l {post : Int64 → U → Prop} (hr : va_Run p l e R s m args below meth c H locs cells slots mc ms (F0 m pc ls st0) rest (va_Ql post (gO D WO tO (va_A wc H.size)) (va_A wc H.size) a) (va_A wc H.size)) (hP : va_P D vwCl ws H) (hD : va_D A ws) (hS : va_S A H0 H locs) (hK : va_K D vwCl tys s) (hFc : ∀ q, va_A wc H.size q → A q) (hC : isC.map (fun i => ws[i]?) = wc.map some) (hR : isR.map (fun i => ws[i]?) = wr.map some) (hn : va_nd isR = true) (hdis : ∀ i ∈ isR, i ∉ isC)
    (kk : ∀ (r : Int64) (u : U) (H1 : Heap) (locs1 : List Loc), post r u → va_P D vwCl (wr ++ WO u) H1 → va_D A (wr ++ WO u) → va_S A H0 H1 locs1 → va_K D vwCl (tys ++ tO u) s → W p l e R s m args below meth c H1 locs1 (cells + mc) (slots + ms) Q (F0 m (pc + 3) ls (.long r :: rest))) : W p l e R s m args below meth c H locs cells slots Q (F0 m pc ls st0) :=
  va_calll hr hS (fun q _ h => hFc q h) hFc (fun r u t H1 locs1 ht hvm hp hB hz hk hS1 => by
    obtain ⟨hP1, hK1, hD1⟩ := hB
    rw [ht] at hP1
    obtain ⟨a1, a2⟩ := va_join hP hD isC isR hC hR hn hdis hk hFc hP1 hD1
    exact kk r u H1 locs1 hp a1 a2 hS1 (hK.app (va_K.moved hvm.symm hK1)))
theorem gJ_v {post : U → Prop} (hr : va_Run p l e R s m args below meth c H locs cells slots mc ms (F0 m pc ls st0) rest (va_Qv post (gO D WO tO (va_A wc H.size)) (va_A wc H.size) a) (va_A wc H.size)) (hP : va_P D vwCl ws H) (hD : va_D A ws) (hS : va_S A H0 H locs) (hK : va_K D vwCl tys s) (hFc : ∀ q, va_A wc H.size q → A q) (hC : isC.map (fun i => ws[i]?) = wc.map some) (hR : isR.map (fun i => ws[i]?) = wr.map some) (hn : va_nd isR = true) (hdis : ∀ i ∈ isR, i ∉ isC)
    (kk : ∀ (u : U) (H1 : Heap) (locs1 : List Loc), post u → va_P D vwCl (wr ++ WO u) H1 → va_D A (wr ++ WO u) → va_S A H0 H1 locs1 → va_K D vwCl (tys ++ tO u) s → W p l e R s m args below meth c H1 locs1 (cells + mc) (slots + ms) Q (F0 m (pc + 3) ls (rest))) : W p l e R s m args below meth c H locs cells slots Q (F0 m pc ls st0) :=
  va_callv hr hS (fun q _ h => hFc q h) hFc (fun u t H1 locs1 ht hvm hp hB hz hk hS1 => by
    obtain ⟨hP1, hK1, hD1⟩ := hB
    rw [ht] at hP1
    obtain ⟨a1, a2⟩ := va_join hP hD isC isR hC hR hn hdis hk hFc hP1 hD1
    exact kk u H1 locs1 hp a1 a2 hS1 (hK.app (va_K.moved hvm.symm hK1)))
theorem gJ_q {post : Option Nat → U → Prop} (hr : va_Run p l e R s m args below meth c H locs cells slots mc ms (F0 m pc ls st0) rest (va_Qq post (gO D WO tO (va_A wc H.size)) (va_A wc H.size) a) (va_A wc H.size)) (hP : va_P D vwCl ws H) (hD : va_D A ws) (hS : va_S A H0 H locs) (hK : va_K D vwCl tys s) (hFc : ∀ q, va_A wc H.size q → A q) (hC : isC.map (fun i => ws[i]?) = wc.map some) (hR : isR.map (fun i => ws[i]?) = wr.map some) (hn : va_nd isR = true) (hdis : ∀ i ∈ isR, i ∉ isC)
    (kk : ∀ (r : Option Nat) (u : U) (H1 : Heap) (locs1 : List Loc), post r u → va_P D vwCl (wr ++ WO u) H1 → va_D A (wr ++ WO u) → va_S A H0 H1 locs1 → va_K D vwCl (tys ++ tO u) s → W p l e R s m args below meth c H1 locs1 (cells + mc) (slots + ms) Q (F0 m (pc + 3) ls (va_rf r :: rest))) : W p l e R s m args below meth c H locs cells slots Q (F0 m pc ls st0) :=
  va_callq hr hS (fun q _ h => hFc q h) hFc (fun r u t H1 locs1 ht hvm hp hB hz hk hS1 => by
    obtain ⟨hP1, hK1, hD1⟩ := hB
    rw [ht] at hP1
    obtain ⟨a1, a2⟩ := va_join hP hD isC isR hC hR hn hdis hk hFc hP1 hD1
    exact kk r u H1 locs1 hp a1 a2 hS1 (hK.app (va_K.moved hvm.symm hK1)))
theorem gX0 (hr : vx_Run p l e R s m args below meth c H locs cells slots mc ms (F0 m pc ls st0) rest (fun _ _ _ => False) (vx_X px (fun E9 _ _ => E9 = X9) (va_A wc H.size)) (va_A wc H.size)) (hP : va_P D vwCl ws H) (hD : va_D A ws) (hS : va_S A H0 H locs) (hFc : ∀ q, va_A wc H.size q → A q) (hC : isC.map (fun i => ws[i]?) = wc.map some) (hR : isR.map (fun i => ws[i]?) = wr.map some) (hn : va_nd isR = true) (hdis : ∀ i ∈ isR, i ∉ isC)
    (kx : ∀ (E9 : String) (ce : Cell) (q9 : Addr) (u : SX) (H1 : Heap) (locs1 : List Loc), px u ∧ E9 = X9 → H.size ≤ H1.size → va_P D vwCl wr H1 → va_D A wr → va_S A H0 H1 locs1 → H1[q9]? = some ce → ce.vm = .none → s.vm.findClass E9 = some ce.cls → vx_W p l e R s m args below meth c H1 locs1 (cells + mc) (slots + ms) Q (F0 m pc ls rest) q9) : W p l e R s m args below meth c H locs cells slots Q (F0 m pc ls st0) := by
  intro T hT X
  rcases hr T hT X with ⟨v, st₀, t, T', L, h0, X', hL, e1, e2, hF, st⟩ | ⟨q, st₀, t, T', L, E, ce, h0, X', hL, e1, e2, ⟨u, hp, hb, hF⟩, hce, hcv, hcl, st⟩
  · exact hF.elim
  · obtain ⟨k1, k2, k3⟩ := vx_keep h0 e1 hS (fun q _ h => hFc q h) hFc hL hF
    obtain ⟨b1, b2⟩ := va_join (w1 := []) hP hD isC isR hC hR hn hdis k2 hFc (fun k q h => by simp at h) ⟨fun i j p q h => by simp at h, fun k q h => by simp at h⟩
    rw [List.append_nil] at b1 b2
    obtain ⟨t2, a1, c1⟩ := kx E ce q u T'.heap (locs ++ L) ⟨hp, hb⟩ k1 b1 b2 k3 (by rw [e1]; exact hce) hcv hcl T' rfl X'
    exact ⟨t2, st.trans a1, c1⟩
end GJ
/-! the worlds of new objects -/
abbrev wX (h0 a1 a2 a3 a4 a5 h6 s0 s1 s2 s3 : Nat) (t1 t2 t3 t4 t5 : ClassId) : va_W := [(h0, .inr (15, [.ref a1, .ref a2, .ref a3, .ref a4, .ref a5, .ref h6, .int 0, .int 0, .int 0, .int 0, .int 0, .int 0, .long 0, .long 0])), (a1, .inl (t1, 5, .inr (.inr (.inr (.inr (fun _ => none)))))), (a2, .inl (t2, 12, .inr (.inr (.inr (.inr (fun _ => none)))))), (a3, .inl (t3, 4, .inr (.inr (.inr (.inr (va_up (va_up (va_up (va_up (fun _ => none) 0 (some s0)) 1 (some s1)) 2 (some s2)) 3 (some s3))))))), (a4, .inl (t4, 90, .inr (.inr (.inr (.inr (fun _ => none)))))), (a5, .inl (t5, 30, .inr (.inr (.inr (.inr (fun _ => none)))))), (h6, .inr (10, [.long 0, .long 0])), (s0, .inr (14, [.int 110, .int 0, .int 0])), (s1, .inr (14, [.int 110, .int 0, .int 0])), (s2, .inr (14, [.int 110, .int 0, .int 0])), (s3, .inr (14, [.int 110, .int 0, .int 0]))]
abbrev tX (t1 t2 t3 t4 t5 : ClassId) : List (ClassId × FieldType) := [(t1, .object "Foundrymark$Machine"), (t2, .object "Foundrymark$Part"), (t3, .object "Foundrymark$Supplier"), (t4, .object "Foundrymark$Lot"), (t5, .object "Foundrymark$Order")]
end
section
set_option maxHeartbeats 4000000 in
set_option maxRecDepth 100000 in
theorem c_X10_isFrom (l : Launch) (v a b : Int32) : Met l ⟨"Foundrymark", "isFrom", "(III)Z"⟩ (wsC ⟨"Foundrymark", "isFrom", "(III)Z"⟩ cX10_isFrom 3 (some .boolean)) ({ frames := 0, cells := 0, slots := 0, locals := 0 }) (va_Pc [.int v, .int a, .int b] (fun _ => True)) (vp_Si (fun r => r = bI (inR v a b))) 0 0 (fun _ => False) := by
  refine Met.ofW (cc := cX10_isFrom) (maxL := 3) (ret := (some .boolean)) (by decide) rfl ?_
  intro p e s m args below meth c s₁ B hml hv
  obtain ⟨rfl, -⟩ := hv
  have hx := B.exec
  have hb := B.bytes
  have hr := B.returns
  have hlocks := B.notSynchronized
  have hts := atoms_spec (ws := wsC ⟨"Foundrymark", "isFrom", "(III)Z"⟩ cX10_isFrom 3 (some .boolean)) B.pre
  have hta : ∀ w ∈ WA, w.before _ s = true := fun w h => hts w (List.mem_cons_of_mem _ h)
  have hown : s.vm.findClass "Foundrymark" = some m.cls := findClass_of_methodNamed B.named
  have hl := lv_entry ([.int v, .int a, .int b]) (n := 3) (Nat.le_of_ble_eq_true rfl)
  rw [lg_entry_eq]
  generalize (lg_sl ([.int v, .int a, .int b]) ++ List.replicate (3 - (lg_sl ([.int v, .int a, .int b])).length) Slot.unset).toArray = ls at hl ⊢
  have hl : lv_has ls 3 [(0, .int v), (1, .int a), (2, .int b)] := hl
  refine lv_iload_n hx hb dX10_isFrom_0 rfl (lv_at hl 0 rfl) ?_
  refine lv_iload_n hx hb dX10_isFrom_1 rfl (lv_at hl 1 rfl) ?_
  refine lv_icmp_lt (tgt := 14) hx hb dX10_isFrom_2 (by decide) (fun c1 => ?_) (fun c1 => ?_)
  · skip
    refine lv_iconst (v := 0) hx hb dX10_isFrom_14 (by decide) ?_
    have a9 : inR v a b = false := inR_f1 (Int32.not_le.mpr c1)
    exact W.zret (v := 0) (ty := .boolean) hx hb hr (by decide) (fun t ht hWm => ⟨_, rfl, (by rw [a9]; rfl), ht⟩) (fun q h => absurd h List.not_mem_nil) dX10_isFrom_15
  · skip
    refine lv_iload_n hx hb dX10_isFrom_5 rfl (lv_at hl 0 rfl) ?_
    refine lv_iload_n hx hb dX10_isFrom_6 rfl (lv_at hl 2 rfl) ?_
    refine lv_icmp_gt (tgt := 14) hx hb dX10_isFrom_7 (by decide) (fun c2 => ?_) (fun c2 => ?_)
    · skip
      refine lv_iconst (v := 0) hx hb dX10_isFrom_14 (by decide) ?_
      have a9 : inR v a b = false := inR_f2 (Int32.not_le.mpr c2)
      exact W.zret (v := 0) (ty := .boolean) hx hb hr (by decide) (fun t ht hWm => ⟨_, rfl, (by rw [a9]; rfl), ht⟩) (fun q h => absurd h List.not_mem_nil) dX10_isFrom_15
    · skip
      refine lv_iconst (v := 1) hx hb dX10_isFrom_10 (by decide) ?_
      refine lv_goto (tgt := 15) hx hb dX10_isFrom_11 (by decide) ?_
      have a9 : inR v a b = true := inR_t (Int32.not_lt.mp c1) (Int32.not_lt.mp c2)
      exact W.zret (v := 1) (ty := .boolean) hx hb hr (by decide) (fun t ht hWm => ⟨_, rfl, (by rw [a9]; rfl), ht⟩) (fun q h => absurd h List.not_mem_nil) dX10_isFrom_15

set_option maxHeartbeats 4000000 in
set_option maxRecDepth 100000 in
theorem c_X15_in (l : Launch) (v a b : Int32) : Met l ⟨"FoundrymarkModel", "in", "(III)Z"⟩ (wsC ⟨"FoundrymarkModel", "in", "(III)Z"⟩ cX15_in 3 (some .boolean)) ({ frames := 0, cells := 0, slots := 0, locals := 0 }) (va_Pc [.int v, .int a, .int b] (fun _ => True)) (vp_Si (fun r => r = bI (inR v a b))) 0 0 (fun _ => False) := by
  refine Met.ofW (cc := cX15_in) (maxL := 3) (ret := (some .boolean)) (by decide) rfl ?_
  intro p e s m args below meth c s₁ B hml hv
  obtain ⟨rfl, -⟩ := hv
  have hx := B.exec
  have hb := B.bytes
  have hr := B.returns
  have hlocks := B.notSynchronized
  have hts := atoms_spec (ws := wsC ⟨"FoundrymarkModel", "in", "(III)Z"⟩ cX15_in 3 (some .boolean)) B.pre
  have hta : ∀ w ∈ WA, w.before _ s = true := fun w h => hts w (List.mem_cons_of_mem _ h)
  have hown : s.vm.findClass "FoundrymarkModel" = some m.cls := findClass_of_methodNamed B.named
  have hl := lv_entry ([.int v, .int a, .int b]) (n := 3) (Nat.le_of_ble_eq_true rfl)
  rw [lg_entry_eq]
  generalize (lg_sl ([.int v, .int a, .int b]) ++ List.replicate (3 - (lg_sl ([.int v, .int a, .int b])).length) Slot.unset).toArray = ls at hl ⊢
  have hl : lv_has ls 3 [(0, .int v), (1, .int a), (2, .int b)] := hl
  refine lv_iload_n hx hb dX15_in_0 rfl (lv_at hl 0 rfl) ?_
  refine lv_iload_n hx hb dX15_in_1 rfl (lv_at hl 1 rfl) ?_
  refine lv_icmp_lt (tgt := 14) hx hb dX15_in_2 (by decide) (fun c1 => ?_) (fun c1 => ?_)
  · skip
    refine lv_iconst (v := 0) hx hb dX15_in_14 (by decide) ?_
    have a9 : inR v a b = false := inR_f1 (Int32.not_le.mpr c1)
    exact W.zret (v := 0) (ty := .boolean) hx hb hr (by decide) (fun t ht hWm => ⟨_, rfl, (by rw [a9]; rfl), ht⟩) (fun q h => absurd h List.not_mem_nil) dX15_in_15
  · skip
    refine lv_iload_n hx hb dX15_in_5 rfl (lv_at hl 0 rfl) ?_
    refine lv_iload_n hx hb dX15_in_6 rfl (lv_at hl 2 rfl) ?_
    refine lv_icmp_gt (tgt := 14) hx hb dX15_in_7 (by decide) (fun c2 => ?_) (fun c2 => ?_)
    · skip
      refine lv_iconst (v := 0) hx hb dX15_in_14 (by decide) ?_
      have a9 : inR v a b = false := inR_f2 (Int32.not_le.mpr c2)
      exact W.zret (v := 0) (ty := .boolean) hx hb hr (by decide) (fun t ht hWm => ⟨_, rfl, (by rw [a9]; rfl), ht⟩) (fun q h => absurd h List.not_mem_nil) dX15_in_15
    · skip
      refine lv_iconst (v := 1) hx hb dX15_in_10 (by decide) ?_
      refine lv_goto (tgt := 15) hx hb dX15_in_11 (by decide) ?_
      have a9 : inR v a b = true := inR_t (Int32.not_lt.mp c1) (Int32.not_lt.mp c2)
      exact W.zret (v := 1) (ty := .boolean) hx hb hr (by decide) (fun t ht hWm => ⟨_, rfl, (by rw [a9]; rfl), ht⟩) (fun q h => absurd h List.not_mem_nil) dX15_in_15
end
section
set_option maxHeartbeats 4000000 in
set_option maxRecDepth 100000 in
theorem c_X10_knownMachine (l : Launch) (hl0 : l.stackTraces = false) {D : va_G} {tE sz : Nat} {h0 a1 a2 a3 a4 a5 h6 s0 s1 s2 s3 : Nat} {t1 t2 t3 t4 t5 : ClassId} {n : Int32} : vx_Met l ⟨"Foundrymark", "knownMachine", "(I)LFoundrymark$Machine;"⟩ (wsC ⟨"Foundrymark", "knownMachine", "(I)LFoundrymark$Machine;"⟩ cX10_knownMachine 3 (some (.object "Foundrymark$Machine"))) ({ frames := 6, cells := 1, slots := 6, locals := 98 }) (va_Pc [.ref h0, .int n] (gS tE D (wX h0 a1 a2 a3 a4 a5 h6 s0 s1 s2 s3 t1 t2 t3 t4 t5) (tX t1 t2 t3 t4 t5) sz)) (fun _ _ _ _ => False) (vx_X (fun _ : Unit => True) (fun E9 _ _ => E9 = "java/lang/IndexOutOfBoundsException") (va_A (wX h0 a1 a2 a3 a4 a5 h6 s0 s1 s2 s3 t1 t2 t3 t4 t5) sz)) 1 6 (va_A (wX h0 a1 a2 a3 a4 a5 h6 s0 s1 s2 s3 t1 t2 t3 t4 t5) sz) := by
  refine vx_ofW (cc := cX10_knownMachine) (maxL := 3) (ret := (some (.object "Foundrymark$Machine"))) (by decide) rfl ?_
  intro p e s m args below meth c s₁ B hml hout hv
  obtain ⟨rfl, hsz, hP, hK, hD0, hG⟩ := hv
  have hx := B.exec
  have hb := B.bytes
  have hr := B.returns
  have hlocks := B.notSynchronized
  have hts := atoms_spec (ws := wsC ⟨"Foundrymark", "knownMachine", "(I)LFoundrymark$Machine;"⟩ cX10_knownMachine 3 (some (.object "Foundrymark$Machine"))) B.pre
  have hta : ∀ w ∈ WA, w.before _ s = true := fun w h => hts w (List.mem_cons_of_mem _ h)
  have hown : s.vm.findClass "Foundrymark" = some m.cls := findClass_of_methodNamed B.named
  subst hsz
  have hD : va_D (va_A (wX h0 a1 a2 a3 a4 a5 h6 s0 s1 s2 s3 t1 t2 t3 t4 t5) s.heap.size) (wX h0 a1 a2 a3 a4 a5 h6 s0 s1 s2 s3 t1 t2 t3 t4 t5) := hD0.self (sz := s.heap.size)
  generalize hAe : va_A (wX h0 a1 a2 a3 a4 a5 h6 s0 s1 s2 s3 t1 t2 t3 t4 t5) s.heap.size = A at hD hG ⊢
  have hA : ∀ q : Nat, s.heap.size ≤ q → A q := fun q h => by rw [← hAe]; exact Or.inr h
  have hS : va_S A s.heap s.heap [] := va_S.rf
  have hP : va_P D vwCl (wX h0 a1 a2 a3 a4 a5 h6 s0 s1 s2 s3 t1 t2 t3 t4 t5) s.heap := hP
  have hl := lv_entry ([.ref h0, .int n]) (n := 3) (Nat.le_of_ble_eq_true rfl)
  rw [lg_entry_eq]
  generalize (lg_sl ([.ref h0, .int n]) ++ List.replicate (3 - (lg_sl ([.ref h0, .int n])).length) Slot.unset).toArray = ls at hl ⊢
  have hl : lv_has ls 3 [(0, .ref h0), (1, .int n)] := hl
  refine lv_iload_n hx hb dX10_knownMachine_0 rfl (lv_at hl 1 rfl) ?_
  refine lv_if_lt (tgt := 22) hx hb dX10_knownMachine_1 (by decide) (fun c1 => ?_) (fun c1 => ?_)
  · skip
    refine lv_null hx hb dX10_knownMachine_22 ?_
    refine lv_astore_nN (lv' := [(2, .null), (0, .ref h0), (1, .int n)]) hx hb dX10_knownMachine_23 rfl hl (by decide) rfl (fun ls hl => ?_)
    refine lv_aload_nN hx hb dX10_knownMachine_24 rfl (lv_at hl 0 rfl) ?_
    refine lv_ifnonnullN hx hb dX10_knownMachine_25 ?_
    obtain ⟨sa, hsa⟩ := hG.S (387, "there is no such machine") (by decide)
    exact vx_throwSW (names := xnms) (mc := 1) (ms := 6) (text := "there is no such machine") (own := "Foundrymark") hx hb hl0 hown (by decide +kernel) (by decide +kernel) (hta _ mw0) (hta _ mw1) hsa (vx_hat (B := exB) (fun w hw => hta w (wx_168 w hw)) (by decide +kernel) (fun w hw => hG.B w hw)) (by decide +kernel) hG.U hG.N hS (hl.1.trans hml.symm) dX10_knownMachine_28 dX10_knownMachine_31 dX10_knownMachine_32 dX10_knownMachine_35 dX10_knownMachine_38 (fun x hx9 => (hout x hx9).elim) (Nat.le_of_ble_eq_true rfl) (Nat.le_of_ble_eq_true rfl) (Nat.le_of_ble_eq_true rfl) (Nat.le_of_ble_eq_true rfl) hlocks (fun t hv hz hk => ⟨(), trivial, rfl, gF9 hS hz hk⟩) hS.2.2 (Nat.le_of_ble_eq_true rfl) (Nat.le_of_ble_eq_true rfl)
  · skip
    refine lv_iload_n hx hb dX10_knownMachine_4 rfl (lv_at hl 1 rfl) ?_
    refine lv_aload_n hx hb dX10_knownMachine_5 rfl (lv_at hl 0 rfl) ?_
    refine va_get (D := D) (ci := 15) (v := .ref a1) (C := RX10) (T := TX10) (N := 14) hx hb hta iwX10 hown hK hP 0 rfl rfl 0 (by decide) (hta _ mw2) (fun _ h9 => h9) rfl dX10_knownMachine_6 ?_
    refine va_alen hx hb hK hP 1 0 rfl rfl (v := 5) rfl dX10_knownMachine_9 ?_
    refine lv_icmp_ge (tgt := 22) hx hb dX10_knownMachine_10 (by decide) (fun c2 => ?_) (fun c2 => ?_)
    · skip
      refine lv_null hx hb dX10_knownMachine_22 ?_
      refine lv_astore_nN (lv' := [(2, .null), (0, .ref h0), (1, .int n)]) hx hb dX10_knownMachine_23 rfl hl (by decide) rfl (fun ls hl => ?_)
      refine lv_aload_nN hx hb dX10_knownMachine_24 rfl (lv_at hl 0 rfl) ?_
      refine lv_ifnonnullN hx hb dX10_knownMachine_25 ?_
      obtain ⟨sa, hsa⟩ := hG.S (387, "there is no such machine") (by decide)
      exact vx_throwSW (names := xnms) (mc := 1) (ms := 6) (text := "there is no such machine") (own := "Foundrymark") hx hb hl0 hown (by decide +kernel) (by decide +kernel) (hta _ mw0) (hta _ mw1) hsa (vx_hat (B := exB) (fun w hw => hta w (wx_168 w hw)) (by decide +kernel) (fun w hw => hG.B w hw)) (by decide +kernel) hG.U hG.N hS (hl.1.trans hml.symm) dX10_knownMachine_28 dX10_knownMachine_31 dX10_knownMachine_32 dX10_knownMachine_35 dX10_knownMachine_38 (fun x hx9 => (hout x hx9).elim) (Nat.le_of_ble_eq_true rfl) (Nat.le_of_ble_eq_true rfl) (Nat.le_of_ble_eq_true rfl) (Nat.le_of_ble_eq_true rfl) hlocks (fun t hv hz hk => ⟨(), trivial, rfl, gF9 hS hz hk⟩) hS.2.2 (Nat.le_of_ble_eq_true rfl) (Nat.le_of_ble_eq_true rfl)
    · skip
      refine lv_aload_n hx hb dX10_knownMachine_13 rfl (lv_at hl 0 rfl) ?_
      refine va_get (D := D) (ci := 15) (v := .ref a1) (C := RX10) (T := TX10) (N := 14) hx hb hta iwX10 hown hK hP 0 rfl rfl 0 (by decide) (hta _ mw2) (fun _ h9 => h9) rfl dX10_knownMachine_14 ?_
      refine lv_iload_n hx hb dX10_knownMachine_17 rfl (lv_at hl 1 rfl) ?_
      refine va_aldq hx hb hK hP 1 0 rfl rfl (i := n) (gIn (M := 5) rfl c1 c2) dX10_knownMachine_18 ?_
      refine W.eq (g2 := F0 m 19 ls [.null]) rfl ?_
      refine lv_goto (tgt := 23) hx hb dX10_knownMachine_19 (by decide) ?_
      refine lv_astore_nN (lv' := [(2, .null), (0, .ref h0), (1, .int n)]) hx hb dX10_knownMachine_23 rfl hl (by decide) rfl (fun ls hl => ?_)
      refine lv_aload_nN hx hb dX10_knownMachine_24 rfl (lv_at hl 0 rfl) ?_
      refine lv_ifnonnullN hx hb dX10_knownMachine_25 ?_
      obtain ⟨sa, hsa⟩ := hG.S (387, "there is no such machine") (by decide)
      exact vx_throwSW (names := xnms) (mc := 1) (ms := 6) (text := "there is no such machine") (own := "Foundrymark") hx hb hl0 hown (by decide +kernel) (by decide +kernel) (hta _ mw0) (hta _ mw1) hsa (vx_hat (B := exB) (fun w hw => hta w (wx_168 w hw)) (by decide +kernel) (fun w hw => hG.B w hw)) (by decide +kernel) hG.U hG.N hS (hl.1.trans hml.symm) dX10_knownMachine_28 dX10_knownMachine_31 dX10_knownMachine_32 dX10_knownMachine_35 dX10_knownMachine_38 (fun x hx9 => (hout x hx9).elim) (Nat.le_of_ble_eq_true rfl) (Nat.le_of_ble_eq_true rfl) (Nat.le_of_ble_eq_true rfl) (Nat.le_of_ble_eq_true rfl) hlocks (fun t hv hz hk => ⟨(), trivial, rfl, gF9 hS hz hk⟩) hS.2.2 (Nat.le_of_ble_eq_true rfl) (Nat.le_of_ble_eq_true rfl)

set_option maxHeartbeats 4000000 in
set_option maxRecDepth 100000 in
theorem c_X10_knownPart (l : Launch) (hl0 : l.stackTraces = false) {D : va_G} {tE sz : Nat} {h0 a1 a2 a3 a4 a5 h6 s0 s1 s2 s3 : Nat} {t1 t2 t3 t4 t5 : ClassId} {n : Int32} : vx_Met l ⟨"Foundrymark", "knownPart", "(I)LFoundrymark$Part;"⟩ (wsC ⟨"Foundrymark", "knownPart", "(I)LFoundrymark$Part;"⟩ cX10_knownPart 3 (some (.object "Foundrymark$Part"))) ({ frames := 6, cells := 1, slots := 6, locals := 98 }) (va_Pc [.ref h0, .int n] (gS tE D (wX h0 a1 a2 a3 a4 a5 h6 s0 s1 s2 s3 t1 t2 t3 t4 t5) (tX t1 t2 t3 t4 t5) sz)) (fun _ _ _ _ => False) (vx_X (fun _ : Unit => True) (fun E9 _ _ => E9 = "java/lang/IndexOutOfBoundsException") (va_A (wX h0 a1 a2 a3 a4 a5 h6 s0 s1 s2 s3 t1 t2 t3 t4 t5) sz)) 1 6 (va_A (wX h0 a1 a2 a3 a4 a5 h6 s0 s1 s2 s3 t1 t2 t3 t4 t5) sz) := by
  refine vx_ofW (cc := cX10_knownPart) (maxL := 3) (ret := (some (.object "Foundrymark$Part"))) (by decide) rfl ?_
  intro p e s m args below meth c s₁ B hml hout hv
  obtain ⟨rfl, hsz, hP, hK, hD0, hG⟩ := hv
  have hx := B.exec
  have hb := B.bytes
  have hr := B.returns
  have hlocks := B.notSynchronized
  have hts := atoms_spec (ws := wsC ⟨"Foundrymark", "knownPart", "(I)LFoundrymark$Part;"⟩ cX10_knownPart 3 (some (.object "Foundrymark$Part"))) B.pre
  have hta : ∀ w ∈ WA, w.before _ s = true := fun w h => hts w (List.mem_cons_of_mem _ h)
  have hown : s.vm.findClass "Foundrymark" = some m.cls := findClass_of_methodNamed B.named
  subst hsz
  have hD : va_D (va_A (wX h0 a1 a2 a3 a4 a5 h6 s0 s1 s2 s3 t1 t2 t3 t4 t5) s.heap.size) (wX h0 a1 a2 a3 a4 a5 h6 s0 s1 s2 s3 t1 t2 t3 t4 t5) := hD0.self (sz := s.heap.size)
  generalize hAe : va_A (wX h0 a1 a2 a3 a4 a5 h6 s0 s1 s2 s3 t1 t2 t3 t4 t5) s.heap.size = A at hD hG ⊢
  have hA : ∀ q : Nat, s.heap.size ≤ q → A q := fun q h => by rw [← hAe]; exact Or.inr h
  have hS : va_S A s.heap s.heap [] := va_S.rf
  have hP : va_P D vwCl (wX h0 a1 a2 a3 a4 a5 h6 s0 s1 s2 s3 t1 t2 t3 t4 t5) s.heap := hP
  have hl := lv_entry ([.ref h0, .int n]) (n := 3) (Nat.le_of_ble_eq_true rfl)
  rw [lg_entry_eq]
  generalize (lg_sl ([.ref h0, .int n]) ++ List.replicate (3 - (lg_sl ([.ref h0, .int n])).length) Slot.unset).toArray = ls at hl ⊢
  have hl : lv_has ls 3 [(0, .ref h0), (1, .int n)] := hl
  refine lv_iload_n hx hb dX10_knownPart_0 rfl (lv_at hl 1 rfl) ?_
  refine lv_if_lt (tgt := 22) hx hb dX10_knownPart_1 (by decide) (fun c1 => ?_) (fun c1 => ?_)
  · skip
    refine lv_null hx hb dX10_knownPart_22 ?_
    refine lv_astore_nN (lv' := [(2, .null), (0, .ref h0), (1, .int n)]) hx hb dX10_knownPart_23 rfl hl (by decide) rfl (fun ls hl => ?_)
    refine lv_aload_nN hx hb dX10_knownPart_24 rfl (lv_at hl 0 rfl) ?_
    refine lv_ifnonnullN hx hb dX10_knownPart_25 ?_
    obtain ⟨sa, hsa⟩ := hG.S (389, "there is no such part") (by decide)
    exact vx_throwSW (names := xnms) (mc := 1) (ms := 6) (text := "there is no such part") (own := "Foundrymark") hx hb hl0 hown (by decide +kernel) (by decide +kernel) (hta _ mw0) (hta _ mw1) hsa (vx_hat (B := exB) (fun w hw => hta w (wx_168 w hw)) (by decide +kernel) (fun w hw => hG.B w hw)) (by decide +kernel) hG.U hG.N hS (hl.1.trans hml.symm) dX10_knownPart_28 dX10_knownPart_31 dX10_knownPart_32 dX10_knownPart_35 dX10_knownPart_38 (fun x hx9 => (hout x hx9).elim) (Nat.le_of_ble_eq_true rfl) (Nat.le_of_ble_eq_true rfl) (Nat.le_of_ble_eq_true rfl) (Nat.le_of_ble_eq_true rfl) hlocks (fun t hv hz hk => ⟨(), trivial, rfl, gF9 hS hz hk⟩) hS.2.2 (Nat.le_of_ble_eq_true rfl) (Nat.le_of_ble_eq_true rfl)
  · skip
    refine lv_iload_n hx hb dX10_knownPart_4 rfl (lv_at hl 1 rfl) ?_
    refine lv_aload_n hx hb dX10_knownPart_5 rfl (lv_at hl 0 rfl) ?_
    refine va_get (D := D) (ci := 15) (v := .ref a2) (C := RX10) (T := TX10) (N := 14) hx hb hta iwX10 hown hK hP 0 rfl rfl 1 (by decide) (hta _ mw3) (fun _ h9 => h9) rfl dX10_knownPart_6 ?_
    refine va_alen hx hb hK hP 2 1 rfl rfl (v := 12) rfl dX10_knownPart_9 ?_
    refine lv_icmp_ge (tgt := 22) hx hb dX10_knownPart_10 (by decide) (fun c2 => ?_) (fun c2 => ?_)
    · skip
      refine lv_null hx hb dX10_knownPart_22 ?_
      refine lv_astore_nN (lv' := [(2, .null), (0, .ref h0), (1, .int n)]) hx hb dX10_knownPart_23 rfl hl (by decide) rfl (fun ls hl => ?_)
      refine lv_aload_nN hx hb dX10_knownPart_24 rfl (lv_at hl 0 rfl) ?_
      refine lv_ifnonnullN hx hb dX10_knownPart_25 ?_
      obtain ⟨sa, hsa⟩ := hG.S (389, "there is no such part") (by decide)
      exact vx_throwSW (names := xnms) (mc := 1) (ms := 6) (text := "there is no such part") (own := "Foundrymark") hx hb hl0 hown (by decide +kernel) (by decide +kernel) (hta _ mw0) (hta _ mw1) hsa (vx_hat (B := exB) (fun w hw => hta w (wx_168 w hw)) (by decide +kernel) (fun w hw => hG.B w hw)) (by decide +kernel) hG.U hG.N hS (hl.1.trans hml.symm) dX10_knownPart_28 dX10_knownPart_31 dX10_knownPart_32 dX10_knownPart_35 dX10_knownPart_38 (fun x hx9 => (hout x hx9).elim) (Nat.le_of_ble_eq_true rfl) (Nat.le_of_ble_eq_true rfl) (Nat.le_of_ble_eq_true rfl) (Nat.le_of_ble_eq_true rfl) hlocks (fun t hv hz hk => ⟨(), trivial, rfl, gF9 hS hz hk⟩) hS.2.2 (Nat.le_of_ble_eq_true rfl) (Nat.le_of_ble_eq_true rfl)
    · skip
      refine lv_aload_n hx hb dX10_knownPart_13 rfl (lv_at hl 0 rfl) ?_
      refine va_get (D := D) (ci := 15) (v := .ref a2) (C := RX10) (T := TX10) (N := 14) hx hb hta iwX10 hown hK hP 0 rfl rfl 1 (by decide) (hta _ mw3) (fun _ h9 => h9) rfl dX10_knownPart_14 ?_
      refine lv_iload_n hx hb dX10_knownPart_17 rfl (lv_at hl 1 rfl) ?_
      refine va_aldq hx hb hK hP 2 1 rfl rfl (i := n) (gIn (M := 12) rfl c1 c2) dX10_knownPart_18 ?_
      refine W.eq (g2 := F0 m 19 ls [.null]) rfl ?_
      refine lv_goto (tgt := 23) hx hb dX10_knownPart_19 (by decide) ?_
      refine lv_astore_nN (lv' := [(2, .null), (0, .ref h0), (1, .int n)]) hx hb dX10_knownPart_23 rfl hl (by decide) rfl (fun ls hl => ?_)
      refine lv_aload_nN hx hb dX10_knownPart_24 rfl (lv_at hl 0 rfl) ?_
      refine lv_ifnonnullN hx hb dX10_knownPart_25 ?_
      obtain ⟨sa, hsa⟩ := hG.S (389, "there is no such part") (by decide)
      exact vx_throwSW (names := xnms) (mc := 1) (ms := 6) (text := "there is no such part") (own := "Foundrymark") hx hb hl0 hown (by decide +kernel) (by decide +kernel) (hta _ mw0) (hta _ mw1) hsa (vx_hat (B := exB) (fun w hw => hta w (wx_168 w hw)) (by decide +kernel) (fun w hw => hG.B w hw)) (by decide +kernel) hG.U hG.N hS (hl.1.trans hml.symm) dX10_knownPart_28 dX10_knownPart_31 dX10_knownPart_32 dX10_knownPart_35 dX10_knownPart_38 (fun x hx9 => (hout x hx9).elim) (Nat.le_of_ble_eq_true rfl) (Nat.le_of_ble_eq_true rfl) (Nat.le_of_ble_eq_true rfl) (Nat.le_of_ble_eq_true rfl) hlocks (fun t hv hz hk => ⟨(), trivial, rfl, gF9 hS hz hk⟩) hS.2.2 (Nat.le_of_ble_eq_true rfl) (Nat.le_of_ble_eq_true rfl)

set_option maxHeartbeats 4000000 in
set_option maxRecDepth 100000 in
theorem c_X10_knownLot (l : Launch) (hl0 : l.stackTraces = false) {D : va_G} {tE sz : Nat} {h0 a1 a2 a3 a4 a5 h6 s0 s1 s2 s3 : Nat} {t1 t2 t3 t4 t5 : ClassId} {n : Int32} : vx_Met l ⟨"Foundrymark", "knownLot", "(I)LFoundrymark$Lot;"⟩ (wsC ⟨"Foundrymark", "knownLot", "(I)LFoundrymark$Lot;"⟩ cX10_knownLot 3 (some (.object "Foundrymark$Lot"))) ({ frames := 6, cells := 1, slots := 6, locals := 98 }) (va_Pc [.ref h0, .int n] (gS tE D (wX h0 a1 a2 a3 a4 a5 h6 s0 s1 s2 s3 t1 t2 t3 t4 t5) (tX t1 t2 t3 t4 t5) sz)) (fun _ _ _ _ => False) (vx_X (fun _ : Unit => True) (fun E9 _ _ => E9 = "java/lang/IndexOutOfBoundsException") (va_A (wX h0 a1 a2 a3 a4 a5 h6 s0 s1 s2 s3 t1 t2 t3 t4 t5) sz)) 1 6 (va_A (wX h0 a1 a2 a3 a4 a5 h6 s0 s1 s2 s3 t1 t2 t3 t4 t5) sz) := by
  refine vx_ofW (cc := cX10_knownLot) (maxL := 3) (ret := (some (.object "Foundrymark$Lot"))) (by decide) rfl ?_
  intro p e s m args below meth c s₁ B hml hout hv
  obtain ⟨rfl, hsz, hP, hK, hD0, hG⟩ := hv
  have hx := B.exec
  have hb := B.bytes
  have hr := B.returns
  have hlocks := B.notSynchronized
  have hts := atoms_spec (ws := wsC ⟨"Foundrymark", "knownLot", "(I)LFoundrymark$Lot;"⟩ cX10_knownLot 3 (some (.object "Foundrymark$Lot"))) B.pre
  have hta : ∀ w ∈ WA, w.before _ s = true := fun w h => hts w (List.mem_cons_of_mem _ h)
  have hown : s.vm.findClass "Foundrymark" = some m.cls := findClass_of_methodNamed B.named
  subst hsz
  have hD : va_D (va_A (wX h0 a1 a2 a3 a4 a5 h6 s0 s1 s2 s3 t1 t2 t3 t4 t5) s.heap.size) (wX h0 a1 a2 a3 a4 a5 h6 s0 s1 s2 s3 t1 t2 t3 t4 t5) := hD0.self (sz := s.heap.size)
  generalize hAe : va_A (wX h0 a1 a2 a3 a4 a5 h6 s0 s1 s2 s3 t1 t2 t3 t4 t5) s.heap.size = A at hD hG ⊢
  have hA : ∀ q : Nat, s.heap.size ≤ q → A q := fun q h => by rw [← hAe]; exact Or.inr h
  have hS : va_S A s.heap s.heap [] := va_S.rf
  have hP : va_P D vwCl (wX h0 a1 a2 a3 a4 a5 h6 s0 s1 s2 s3 t1 t2 t3 t4 t5) s.heap := hP
  have hl := lv_entry ([.ref h0, .int n]) (n := 3) (Nat.le_of_ble_eq_true rfl)
  rw [lg_entry_eq]
  generalize (lg_sl ([.ref h0, .int n]) ++ List.replicate (3 - (lg_sl ([.ref h0, .int n])).length) Slot.unset).toArray = ls at hl ⊢
  have hl : lv_has ls 3 [(0, .ref h0), (1, .int n)] := hl
  refine lv_iload_n hx hb dX10_knownLot_0 rfl (lv_at hl 1 rfl) ?_
  refine lv_if_lt (tgt := 22) hx hb dX10_knownLot_1 (by decide) (fun c1 => ?_) (fun c1 => ?_)
  · skip
    refine lv_null hx hb dX10_knownLot_22 ?_
    refine lv_astore_nN (lv' := [(2, .null), (0, .ref h0), (1, .int n)]) hx hb dX10_knownLot_23 rfl hl (by decide) rfl (fun ls hl => ?_)
    refine lv_aload_nN hx hb dX10_knownLot_24 rfl (lv_at hl 0 rfl) ?_
    refine lv_ifnonnullN hx hb dX10_knownLot_25 ?_
    obtain ⟨sa, hsa⟩ := hG.S (391, "there is no such lot") (by decide)
    exact vx_throwSW (names := xnms) (mc := 1) (ms := 6) (text := "there is no such lot") (own := "Foundrymark") hx hb hl0 hown (by decide +kernel) (by decide +kernel) (hta _ mw0) (hta _ mw1) hsa (vx_hat (B := exB) (fun w hw => hta w (wx_168 w hw)) (by decide +kernel) (fun w hw => hG.B w hw)) (by decide +kernel) hG.U hG.N hS (hl.1.trans hml.symm) dX10_knownLot_28 dX10_knownLot_31 dX10_knownLot_32 dX10_knownLot_35 dX10_knownLot_38 (fun x hx9 => (hout x hx9).elim) (Nat.le_of_ble_eq_true rfl) (Nat.le_of_ble_eq_true rfl) (Nat.le_of_ble_eq_true rfl) (Nat.le_of_ble_eq_true rfl) hlocks (fun t hv hz hk => ⟨(), trivial, rfl, gF9 hS hz hk⟩) hS.2.2 (Nat.le_of_ble_eq_true rfl) (Nat.le_of_ble_eq_true rfl)
  · skip
    refine lv_iload_n hx hb dX10_knownLot_4 rfl (lv_at hl 1 rfl) ?_
    refine lv_aload_n hx hb dX10_knownLot_5 rfl (lv_at hl 0 rfl) ?_
    refine va_get (D := D) (ci := 15) (v := .ref a4) (C := RX10) (T := TX10) (N := 14) hx hb hta iwX10 hown hK hP 0 rfl rfl 3 (by decide) (hta _ mw4) (fun _ h9 => h9) rfl dX10_knownLot_6 ?_
    refine va_alen hx hb hK hP 4 3 rfl rfl (v := 90) rfl dX10_knownLot_9 ?_
    refine lv_icmp_ge (tgt := 22) hx hb dX10_knownLot_10 (by decide) (fun c2 => ?_) (fun c2 => ?_)
    · skip
      refine lv_null hx hb dX10_knownLot_22 ?_
      refine lv_astore_nN (lv' := [(2, .null), (0, .ref h0), (1, .int n)]) hx hb dX10_knownLot_23 rfl hl (by decide) rfl (fun ls hl => ?_)
      refine lv_aload_nN hx hb dX10_knownLot_24 rfl (lv_at hl 0 rfl) ?_
      refine lv_ifnonnullN hx hb dX10_knownLot_25 ?_
      obtain ⟨sa, hsa⟩ := hG.S (391, "there is no such lot") (by decide)
      exact vx_throwSW (names := xnms) (mc := 1) (ms := 6) (text := "there is no such lot") (own := "Foundrymark") hx hb hl0 hown (by decide +kernel) (by decide +kernel) (hta _ mw0) (hta _ mw1) hsa (vx_hat (B := exB) (fun w hw => hta w (wx_168 w hw)) (by decide +kernel) (fun w hw => hG.B w hw)) (by decide +kernel) hG.U hG.N hS (hl.1.trans hml.symm) dX10_knownLot_28 dX10_knownLot_31 dX10_knownLot_32 dX10_knownLot_35 dX10_knownLot_38 (fun x hx9 => (hout x hx9).elim) (Nat.le_of_ble_eq_true rfl) (Nat.le_of_ble_eq_true rfl) (Nat.le_of_ble_eq_true rfl) (Nat.le_of_ble_eq_true rfl) hlocks (fun t hv hz hk => ⟨(), trivial, rfl, gF9 hS hz hk⟩) hS.2.2 (Nat.le_of_ble_eq_true rfl) (Nat.le_of_ble_eq_true rfl)
    · skip
      refine lv_aload_n hx hb dX10_knownLot_13 rfl (lv_at hl 0 rfl) ?_
      refine va_get (D := D) (ci := 15) (v := .ref a4) (C := RX10) (T := TX10) (N := 14) hx hb hta iwX10 hown hK hP 0 rfl rfl 3 (by decide) (hta _ mw4) (fun _ h9 => h9) rfl dX10_knownLot_14 ?_
      refine lv_iload_n hx hb dX10_knownLot_17 rfl (lv_at hl 1 rfl) ?_
      refine va_aldq hx hb hK hP 4 3 rfl rfl (i := n) (gIn (M := 90) rfl c1 c2) dX10_knownLot_18 ?_
      refine W.eq (g2 := F0 m 19 ls [.null]) rfl ?_
      refine lv_goto (tgt := 23) hx hb dX10_knownLot_19 (by decide) ?_
      refine lv_astore_nN (lv' := [(2, .null), (0, .ref h0), (1, .int n)]) hx hb dX10_knownLot_23 rfl hl (by decide) rfl (fun ls hl => ?_)
      refine lv_aload_nN hx hb dX10_knownLot_24 rfl (lv_at hl 0 rfl) ?_
      refine lv_ifnonnullN hx hb dX10_knownLot_25 ?_
      obtain ⟨sa, hsa⟩ := hG.S (391, "there is no such lot") (by decide)
      exact vx_throwSW (names := xnms) (mc := 1) (ms := 6) (text := "there is no such lot") (own := "Foundrymark") hx hb hl0 hown (by decide +kernel) (by decide +kernel) (hta _ mw0) (hta _ mw1) hsa (vx_hat (B := exB) (fun w hw => hta w (wx_168 w hw)) (by decide +kernel) (fun w hw => hG.B w hw)) (by decide +kernel) hG.U hG.N hS (hl.1.trans hml.symm) dX10_knownLot_28 dX10_knownLot_31 dX10_knownLot_32 dX10_knownLot_35 dX10_knownLot_38 (fun x hx9 => (hout x hx9).elim) (Nat.le_of_ble_eq_true rfl) (Nat.le_of_ble_eq_true rfl) (Nat.le_of_ble_eq_true rfl) (Nat.le_of_ble_eq_true rfl) hlocks (fun t hv hz hk => ⟨(), trivial, rfl, gF9 hS hz hk⟩) hS.2.2 (Nat.le_of_ble_eq_true rfl) (Nat.le_of_ble_eq_true rfl)

set_option maxHeartbeats 4000000 in
set_option maxRecDepth 100000 in
theorem c_X10_knownOrder (l : Launch) (hl0 : l.stackTraces = false) {D : va_G} {tE sz : Nat} {h0 a1 a2 a3 a4 a5 h6 s0 s1 s2 s3 : Nat} {t1 t2 t3 t4 t5 : ClassId} {n : Int32} : vx_Met l ⟨"Foundrymark", "knownOrder", "(I)LFoundrymark$Order;"⟩ (wsC ⟨"Foundrymark", "knownOrder", "(I)LFoundrymark$Order;"⟩ cX10_knownOrder 3 (some (.object "Foundrymark$Order"))) ({ frames := 6, cells := 1, slots := 6, locals := 98 }) (va_Pc [.ref h0, .int n] (gS tE D (wX h0 a1 a2 a3 a4 a5 h6 s0 s1 s2 s3 t1 t2 t3 t4 t5) (tX t1 t2 t3 t4 t5) sz)) (fun _ _ _ _ => False) (vx_X (fun _ : Unit => True) (fun E9 _ _ => E9 = "java/lang/IndexOutOfBoundsException") (va_A (wX h0 a1 a2 a3 a4 a5 h6 s0 s1 s2 s3 t1 t2 t3 t4 t5) sz)) 1 6 (va_A (wX h0 a1 a2 a3 a4 a5 h6 s0 s1 s2 s3 t1 t2 t3 t4 t5) sz) := by
  refine vx_ofW (cc := cX10_knownOrder) (maxL := 3) (ret := (some (.object "Foundrymark$Order"))) (by decide) rfl ?_
  intro p e s m args below meth c s₁ B hml hout hv
  obtain ⟨rfl, hsz, hP, hK, hD0, hG⟩ := hv
  have hx := B.exec
  have hb := B.bytes
  have hr := B.returns
  have hlocks := B.notSynchronized
  have hts := atoms_spec (ws := wsC ⟨"Foundrymark", "knownOrder", "(I)LFoundrymark$Order;"⟩ cX10_knownOrder 3 (some (.object "Foundrymark$Order"))) B.pre
  have hta : ∀ w ∈ WA, w.before _ s = true := fun w h => hts w (List.mem_cons_of_mem _ h)
  have hown : s.vm.findClass "Foundrymark" = some m.cls := findClass_of_methodNamed B.named
  subst hsz
  have hD : va_D (va_A (wX h0 a1 a2 a3 a4 a5 h6 s0 s1 s2 s3 t1 t2 t3 t4 t5) s.heap.size) (wX h0 a1 a2 a3 a4 a5 h6 s0 s1 s2 s3 t1 t2 t3 t4 t5) := hD0.self (sz := s.heap.size)
  generalize hAe : va_A (wX h0 a1 a2 a3 a4 a5 h6 s0 s1 s2 s3 t1 t2 t3 t4 t5) s.heap.size = A at hD hG ⊢
  have hA : ∀ q : Nat, s.heap.size ≤ q → A q := fun q h => by rw [← hAe]; exact Or.inr h
  have hS : va_S A s.heap s.heap [] := va_S.rf
  have hP : va_P D vwCl (wX h0 a1 a2 a3 a4 a5 h6 s0 s1 s2 s3 t1 t2 t3 t4 t5) s.heap := hP
  have hl := lv_entry ([.ref h0, .int n]) (n := 3) (Nat.le_of_ble_eq_true rfl)
  rw [lg_entry_eq]
  generalize (lg_sl ([.ref h0, .int n]) ++ List.replicate (3 - (lg_sl ([.ref h0, .int n])).length) Slot.unset).toArray = ls at hl ⊢
  have hl : lv_has ls 3 [(0, .ref h0), (1, .int n)] := hl
  refine lv_iload_n hx hb dX10_knownOrder_0 rfl (lv_at hl 1 rfl) ?_
  refine lv_if_lt (tgt := 22) hx hb dX10_knownOrder_1 (by decide) (fun c1 => ?_) (fun c1 => ?_)
  · skip
    refine lv_null hx hb dX10_knownOrder_22 ?_
    refine lv_astore_nN (lv' := [(2, .null), (0, .ref h0), (1, .int n)]) hx hb dX10_knownOrder_23 rfl hl (by decide) rfl (fun ls hl => ?_)
    refine lv_aload_nN hx hb dX10_knownOrder_24 rfl (lv_at hl 0 rfl) ?_
    refine lv_ifnonnullN hx hb dX10_knownOrder_25 ?_
    obtain ⟨sa, hsa⟩ := hG.S (393, "there is no such order") (by decide)
    exact vx_throwSW (names := xnms) (mc := 1) (ms := 6) (text := "there is no such order") (own := "Foundrymark") hx hb hl0 hown (by decide +kernel) (by decide +kernel) (hta _ mw0) (hta _ mw1) hsa (vx_hat (B := exB) (fun w hw => hta w (wx_168 w hw)) (by decide +kernel) (fun w hw => hG.B w hw)) (by decide +kernel) hG.U hG.N hS (hl.1.trans hml.symm) dX10_knownOrder_28 dX10_knownOrder_31 dX10_knownOrder_32 dX10_knownOrder_35 dX10_knownOrder_38 (fun x hx9 => (hout x hx9).elim) (Nat.le_of_ble_eq_true rfl) (Nat.le_of_ble_eq_true rfl) (Nat.le_of_ble_eq_true rfl) (Nat.le_of_ble_eq_true rfl) hlocks (fun t hv hz hk => ⟨(), trivial, rfl, gF9 hS hz hk⟩) hS.2.2 (Nat.le_of_ble_eq_true rfl) (Nat.le_of_ble_eq_true rfl)
  · skip
    refine lv_iload_n hx hb dX10_knownOrder_4 rfl (lv_at hl 1 rfl) ?_
    refine lv_aload_n hx hb dX10_knownOrder_5 rfl (lv_at hl 0 rfl) ?_
    refine va_get (D := D) (ci := 15) (v := .ref a5) (C := RX10) (T := TX10) (N := 14) hx hb hta iwX10 hown hK hP 0 rfl rfl 4 (by decide) (hta _ mw5) (fun _ h9 => h9) rfl dX10_knownOrder_6 ?_
    refine va_alen hx hb hK hP 5 4 rfl rfl (v := 30) rfl dX10_knownOrder_9 ?_
    refine lv_icmp_ge (tgt := 22) hx hb dX10_knownOrder_10 (by decide) (fun c2 => ?_) (fun c2 => ?_)
    · skip
      refine lv_null hx hb dX10_knownOrder_22 ?_
      refine lv_astore_nN (lv' := [(2, .null), (0, .ref h0), (1, .int n)]) hx hb dX10_knownOrder_23 rfl hl (by decide) rfl (fun ls hl => ?_)
      refine lv_aload_nN hx hb dX10_knownOrder_24 rfl (lv_at hl 0 rfl) ?_
      refine lv_ifnonnullN hx hb dX10_knownOrder_25 ?_
      obtain ⟨sa, hsa⟩ := hG.S (393, "there is no such order") (by decide)
      exact vx_throwSW (names := xnms) (mc := 1) (ms := 6) (text := "there is no such order") (own := "Foundrymark") hx hb hl0 hown (by decide +kernel) (by decide +kernel) (hta _ mw0) (hta _ mw1) hsa (vx_hat (B := exB) (fun w hw => hta w (wx_168 w hw)) (by decide +kernel) (fun w hw => hG.B w hw)) (by decide +kernel) hG.U hG.N hS (hl.1.trans hml.symm) dX10_knownOrder_28 dX10_knownOrder_31 dX10_knownOrder_32 dX10_knownOrder_35 dX10_knownOrder_38 (fun x hx9 => (hout x hx9).elim) (Nat.le_of_ble_eq_true rfl) (Nat.le_of_ble_eq_true rfl) (Nat.le_of_ble_eq_true rfl) (Nat.le_of_ble_eq_true rfl) hlocks (fun t hv hz hk => ⟨(), trivial, rfl, gF9 hS hz hk⟩) hS.2.2 (Nat.le_of_ble_eq_true rfl) (Nat.le_of_ble_eq_true rfl)
    · skip
      refine lv_aload_n hx hb dX10_knownOrder_13 rfl (lv_at hl 0 rfl) ?_
      refine va_get (D := D) (ci := 15) (v := .ref a5) (C := RX10) (T := TX10) (N := 14) hx hb hta iwX10 hown hK hP 0 rfl rfl 4 (by decide) (hta _ mw5) (fun _ h9 => h9) rfl dX10_knownOrder_14 ?_
      refine lv_iload_n hx hb dX10_knownOrder_17 rfl (lv_at hl 1 rfl) ?_
      refine va_aldq hx hb hK hP 5 4 rfl rfl (i := n) (gIn (M := 30) rfl c1 c2) dX10_knownOrder_18 ?_
      refine W.eq (g2 := F0 m 19 ls [.null]) rfl ?_
      refine lv_goto (tgt := 23) hx hb dX10_knownOrder_19 (by decide) ?_
      refine lv_astore_nN (lv' := [(2, .null), (0, .ref h0), (1, .int n)]) hx hb dX10_knownOrder_23 rfl hl (by decide) rfl (fun ls hl => ?_)
      refine lv_aload_nN hx hb dX10_knownOrder_24 rfl (lv_at hl 0 rfl) ?_
      refine lv_ifnonnullN hx hb dX10_knownOrder_25 ?_
      obtain ⟨sa, hsa⟩ := hG.S (393, "there is no such order") (by decide)
      exact vx_throwSW (names := xnms) (mc := 1) (ms := 6) (text := "there is no such order") (own := "Foundrymark") hx hb hl0 hown (by decide +kernel) (by decide +kernel) (hta _ mw0) (hta _ mw1) hsa (vx_hat (B := exB) (fun w hw => hta w (wx_168 w hw)) (by decide +kernel) (fun w hw => hG.B w hw)) (by decide +kernel) hG.U hG.N hS (hl.1.trans hml.symm) dX10_knownOrder_28 dX10_knownOrder_31 dX10_knownOrder_32 dX10_knownOrder_35 dX10_knownOrder_38 (fun x hx9 => (hout x hx9).elim) (Nat.le_of_ble_eq_true rfl) (Nat.le_of_ble_eq_true rfl) (Nat.le_of_ble_eq_true rfl) (Nat.le_of_ble_eq_true rfl) hlocks (fun t hv hz hk => ⟨(), trivial, rfl, gF9 hS hz hk⟩) hS.2.2 (Nat.le_of_ble_eq_true rfl) (Nat.le_of_ble_eq_true rfl)
end
section
set_option maxHeartbeats 4000000 in
set_option maxRecDepth 100000 in
theorem c_X10_addComponent (l : Launch) (hl0 : l.stackTraces = false) {D : va_G} {tE sz : Nat} {h0 a1 a2 a3 a4 a5 h6 s0 s1 s2 s3 : Nat} {t1 t2 t3 t4 t5 : ClassId} {x0 x1 x2 x3 : Int32} : vx_Met l ⟨"Foundrymark", "addComponent", "(IIII)I"⟩ (wsC ⟨"Foundrymark", "addComponent", "(IIII)I"⟩ cX10_addComponent 7 (some .int)) ({ frames := 7, cells := 1, slots := 6, locals := 120 }) (va_Pc [.ref h0, .int x0, .int x1, .int x2, .int x3] (gS tE D (wX h0 a1 a2 a3 a4 a5 h6 s0 s1 s2 s3 t1 t2 t3 t4 t5) (tX t1 t2 t3 t4 t5) sz)) (fun _ _ _ _ => False) (vx_X (fun _ : Unit => True) (fun E9 _ _ => E9 = "java/lang/IndexOutOfBoundsException") (va_A (wX h0 a1 a2 a3 a4 a5 h6 s0 s1 s2 s3 t1 t2 t3 t4 t5) sz)) 1 6 (va_A (wX h0 a1 a2 a3 a4 a5 h6 s0 s1 s2 s3 t1 t2 t3 t4 t5) sz) := by
  refine vx_ofW (cc := cX10_addComponent) (maxL := 7) (ret := (some .int)) (by decide) rfl ?_
  intro p e s m args below meth c s₁ B hml hout hv
  obtain ⟨rfl, hsz, hP, hK, hD0, hG⟩ := hv
  have hx := B.exec
  have hb := B.bytes
  have hr := B.returns
  have hlocks := B.notSynchronized
  have hts := atoms_spec (ws := wsC ⟨"Foundrymark", "addComponent", "(IIII)I"⟩ cX10_addComponent 7 (some .int)) B.pre
  have hta : ∀ w ∈ WA, w.before _ s = true := fun w h => hts w (List.mem_cons_of_mem _ h)
  have hown : s.vm.findClass "Foundrymark" = some m.cls := findClass_of_methodNamed B.named
  subst hsz
  have hD : va_D (va_A (wX h0 a1 a2 a3 a4 a5 h6 s0 s1 s2 s3 t1 t2 t3 t4 t5) s.heap.size) (wX h0 a1 a2 a3 a4 a5 h6 s0 s1 s2 s3 t1 t2 t3 t4 t5) := hD0.self (sz := s.heap.size)
  generalize hAe : va_A (wX h0 a1 a2 a3 a4 a5 h6 s0 s1 s2 s3 t1 t2 t3 t4 t5) s.heap.size = A at hD hG ⊢
  have hA : ∀ q : Nat, s.heap.size ≤ q → A q := fun q h => by rw [← hAe]; exact Or.inr h
  have hS : va_S A s.heap s.heap [] := va_S.rf
  have hP : va_P D vwCl (wX h0 a1 a2 a3 a4 a5 h6 s0 s1 s2 s3 t1 t2 t3 t4 t5) s.heap := hP
  have hl := lv_entry ([.ref h0, .int x0, .int x1, .int x2, .int x3]) (n := 7) (Nat.le_of_ble_eq_true rfl)
  rw [lg_entry_eq]
  generalize (lg_sl ([.ref h0, .int x0, .int x1, .int x2, .int x3]) ++ List.replicate (7 - (lg_sl ([.ref h0, .int x0, .int x1, .int x2, .int x3])).length) Slot.unset).toArray = ls at hl ⊢
  have hl : lv_has ls 7 [(0, .ref h0), (1, .int x0), (2, .int x1), (3, .int x2), (4, .int x3)] := hl
  refine lv_aload_n hx hb dX10_addComponent_0 rfl (lv_at hl 0 rfl) ?_
  refine lv_iload_n hx hb dX10_addComponent_1 rfl (lv_at hl 1 rfl) ?_
  have hPc := hP.sub (ws' := (wX h0 a1 a2 a3 a4 a5 h6 s0 s1 s2 s3 t1 t2 t3 t4 t5)) [0, 1, 2, 3, 4, 5, 6, 7, 8, 9, 10] rfl
  have hKc := hK.sub (tys' := (tX t1 t2 t3 t4 t5)) [0, 1, 2, 3, 4] rfl
  have hDc := hD.sub (ws' := (wX h0 a1 a2 a3 a4 a5 h6 s0 s1 s2 s3 t1 t2 t3 t4 t5)) [0, 1, 2, 3, 4, 5, 6, 7, 8, 9, 10] (by decide) rfl
  have hFc := va_free (wc := (wX h0 a1 a2 a3 a4 a5 h6 s0 s1 s2 s3 t1 t2 t3 t4 t5)) hD hS hA [0, 1, 2, 3, 4, 5, 6, 7, 8, 9, 10] rfl
  refine gX0 (isC := [0, 1, 2, 3, 4, 5, 6, 7, 8, 9, 10]) (isR := []) (wr := []) (vx_runV (As := [.int x0]) (rest := []) ⟨hx, hb, hml, hown, hta⟩ (c_X10_knownPart l hl0) (cwV 1 hta (gWV mw7 mw8 mw9 mw10 mw6) rfl rfl rfl (by decide +kernel) ⟨Nat.le_of_ble_eq_true rfl, Nat.le_of_ble_eq_true rfl⟩) ⟨gS_blind, va_recv hKc hPc (ci := 15) (q0 := 0) rfl rfl, fun U hU hW => ⟨rfl, by rw [hU], by rw [hU]; exact hPc, va_K.moved hW.alike hKc, hDc.weaken (fun _ _ _ _ => trivial), hG.call hS hU hW hFc⟩⟩ rfl rfl hl.1 rfl (lv_room (Nat.le_of_ble_eq_true rfl)) dX10_addComponent_2 ⟨Nat.le_of_ble_eq_true rfl, Nat.le_of_ble_eq_true rfl⟩) hP hD hS hFc rfl rfl (by decide) (by decide) (fun E9 ce q9 u2 H locs h3 hz9 hP hD hS hc9 hv9 hcl9 => ?_)
  exact vx_widen (k := 1) (n := 6) (Nat.le_of_ble_eq_true rfl) (Nat.le_of_ble_eq_true rfl) (vx_out (fun x hx9 => (hout x hx9).elim) hlocks hc9 hv9 hcl9 (fun t ht hv => ⟨u2, h3.1, h3.2, hS.F ht⟩) hS.2.2 (Nat.le_refl _) (Nat.le_refl _))

set_option maxHeartbeats 4000000 in
set_option maxRecDepth 100000 in
theorem c_X10_addOperation (l : Launch) (hl0 : l.stackTraces = false) {D : va_G} {tE sz : Nat} {h0 a1 a2 a3 a4 a5 h6 s0 s1 s2 s3 : Nat} {t1 t2 t3 t4 t5 : ClassId} {x0 x1 x2 x3 : Int32} : vx_Met l ⟨"Foundrymark", "addOperation", "(IIII)I"⟩ (wsC ⟨"Foundrymark", "addOperation", "(IIII)I"⟩ cX10_addOperation 8 (some .int)) ({ frames := 7, cells := 1, slots := 6, locals := 120 }) (va_Pc [.ref h0, .int x0, .int x1, .int x2, .int x3] (gS tE D (wX h0 a1 a2 a3 a4 a5 h6 s0 s1 s2 s3 t1 t2 t3 t4 t5) (tX t1 t2 t3 t4 t5) sz)) (fun _ _ _ _ => False) (vx_X (fun _ : Unit => True) (fun E9 _ _ => E9 = "java/lang/IndexOutOfBoundsException") (va_A (wX h0 a1 a2 a3 a4 a5 h6 s0 s1 s2 s3 t1 t2 t3 t4 t5) sz)) 1 6 (va_A (wX h0 a1 a2 a3 a4 a5 h6 s0 s1 s2 s3 t1 t2 t3 t4 t5) sz) := by
  refine vx_ofW (cc := cX10_addOperation) (maxL := 8) (ret := (some .int)) (by decide) rfl ?_
  intro p e s m args below meth c s₁ B hml hout hv
  obtain ⟨rfl, hsz, hP, hK, hD0, hG⟩ := hv
  have hx := B.exec
  have hb := B.bytes
  have hr := B.returns
  have hlocks := B.notSynchronized
  have hts := atoms_spec (ws := wsC ⟨"Foundrymark", "addOperation", "(IIII)I"⟩ cX10_addOperation 8 (some .int)) B.pre
  have hta : ∀ w ∈ WA, w.before _ s = true := fun w h => hts w (List.mem_cons_of_mem _ h)
  have hown : s.vm.findClass "Foundrymark" = some m.cls := findClass_of_methodNamed B.named
  subst hsz
  have hD : va_D (va_A (wX h0 a1 a2 a3 a4 a5 h6 s0 s1 s2 s3 t1 t2 t3 t4 t5) s.heap.size) (wX h0 a1 a2 a3 a4 a5 h6 s0 s1 s2 s3 t1 t2 t3 t4 t5) := hD0.self (sz := s.heap.size)
  generalize hAe : va_A (wX h0 a1 a2 a3 a4 a5 h6 s0 s1 s2 s3 t1 t2 t3 t4 t5) s.heap.size = A at hD hG ⊢
  have hA : ∀ q : Nat, s.heap.size ≤ q → A q := fun q h => by rw [← hAe]; exact Or.inr h
  have hS : va_S A s.heap s.heap [] := va_S.rf
  have hP : va_P D vwCl (wX h0 a1 a2 a3 a4 a5 h6 s0 s1 s2 s3 t1 t2 t3 t4 t5) s.heap := hP
  have hl := lv_entry ([.ref h0, .int x0, .int x1, .int x2, .int x3]) (n := 8) (Nat.le_of_ble_eq_true rfl)
  rw [lg_entry_eq]
  generalize (lg_sl ([.ref h0, .int x0, .int x1, .int x2, .int x3]) ++ List.replicate (8 - (lg_sl ([.ref h0, .int x0, .int x1, .int x2, .int x3])).length) Slot.unset).toArray = ls at hl ⊢
  have hl : lv_has ls 8 [(0, .ref h0), (1, .int x0), (2, .int x1), (3, .int x2), (4, .int x3)] := hl
  refine lv_aload_n hx hb dX10_addOperation_0 rfl (lv_at hl 0 rfl) ?_
  refine lv_iload_n hx hb dX10_addOperation_1 rfl (lv_at hl 1 rfl) ?_
  have hPc := hP.sub (ws' := (wX h0 a1 a2 a3 a4 a5 h6 s0 s1 s2 s3 t1 t2 t3 t4 t5)) [0, 1, 2, 3, 4, 5, 6, 7, 8, 9, 10] rfl
  have hKc := hK.sub (tys' := (tX t1 t2 t3 t4 t5)) [0, 1, 2, 3, 4] rfl
  have hDc := hD.sub (ws' := (wX h0 a1 a2 a3 a4 a5 h6 s0 s1 s2 s3 t1 t2 t3 t4 t5)) [0, 1, 2, 3, 4, 5, 6, 7, 8, 9, 10] (by decide) rfl
  have hFc := va_free (wc := (wX h0 a1 a2 a3 a4 a5 h6 s0 s1 s2 s3 t1 t2 t3 t4 t5)) hD hS hA [0, 1, 2, 3, 4, 5, 6, 7, 8, 9, 10] rfl
  refine gX0 (isC := [0, 1, 2, 3, 4, 5, 6, 7, 8, 9, 10]) (isR := []) (wr := []) (vx_runV (As := [.int x0]) (rest := []) ⟨hx, hb, hml, hown, hta⟩ (c_X10_knownPart l hl0) (cwV 1 hta (gWV mw7 mw8 mw9 mw10 mw6) rfl rfl rfl (by decide +kernel) ⟨Nat.le_of_ble_eq_true rfl, Nat.le_of_ble_eq_true rfl⟩) ⟨gS_blind, va_recv hKc hPc (ci := 15) (q0 := 0) rfl rfl, fun U hU hW => ⟨rfl, by rw [hU], by rw [hU]; exact hPc, va_K.moved hW.alike hKc, hDc.weaken (fun _ _ _ _ => trivial), hG.call hS hU hW hFc⟩⟩ rfl rfl hl.1 rfl (lv_room (Nat.le_of_ble_eq_true rfl)) dX10_addOperation_2 ⟨Nat.le_of_ble_eq_true rfl, Nat.le_of_ble_eq_true rfl⟩) hP hD hS hFc rfl rfl (by decide) (by decide) (fun E9 ce q9 u2 H locs h3 hz9 hP hD hS hc9 hv9 hcl9 => ?_)
  exact vx_widen (k := 1) (n := 6) (Nat.le_of_ble_eq_true rfl) (Nat.le_of_ble_eq_true rfl) (vx_out (fun x hx9 => (hout x hx9).elim) hlocks hc9 hv9 hcl9 (fun t ht hv => ⟨u2, h3.1, h3.2, hS.F ht⟩) hS.2.2 (Nat.le_refl _) (Nat.le_refl _))

set_option maxHeartbeats 4000000 in
set_option maxRecDepth 100000 in
theorem c_X10_receive (l : Launch) (hl0 : l.stackTraces = false) {D : va_G} {tE sz : Nat} {h0 a1 a2 a3 a4 a5 h6 s0 s1 s2 s3 : Nat} {t1 t2 t3 t4 t5 : ClassId} {x0 x1 x2 x3 x4 : Int32} : vx_Met l ⟨"Foundrymark", "receive", "(IIIII)I"⟩ (wsC ⟨"Foundrymark", "receive", "(IIIII)I"⟩ cX10_receive 11 (some .int)) ({ frames := 7, cells := 1, slots := 6, locals := 120 }) (va_Pc [.ref h0, .int x0, .int x1, .int x2, .int x3, .int x4] (gS tE D (wX h0 a1 a2 a3 a4 a5 h6 s0 s1 s2 s3 t1 t2 t3 t4 t5) (tX t1 t2 t3 t4 t5) sz)) (fun _ _ _ _ => False) (vx_X (fun _ : Unit => True) (fun E9 _ _ => E9 = "java/lang/IndexOutOfBoundsException") (va_A (wX h0 a1 a2 a3 a4 a5 h6 s0 s1 s2 s3 t1 t2 t3 t4 t5) sz)) 1 6 (va_A (wX h0 a1 a2 a3 a4 a5 h6 s0 s1 s2 s3 t1 t2 t3 t4 t5) sz) := by
  refine vx_ofW (cc := cX10_receive) (maxL := 11) (ret := (some .int)) (by decide) rfl ?_
  intro p e s m args below meth c s₁ B hml hout hv
  obtain ⟨rfl, hsz, hP, hK, hD0, hG⟩ := hv
  have hx := B.exec
  have hb := B.bytes
  have hr := B.returns
  have hlocks := B.notSynchronized
  have hts := atoms_spec (ws := wsC ⟨"Foundrymark", "receive", "(IIIII)I"⟩ cX10_receive 11 (some .int)) B.pre
  have hta : ∀ w ∈ WA, w.before _ s = true := fun w h => hts w (List.mem_cons_of_mem _ h)
  have hown : s.vm.findClass "Foundrymark" = some m.cls := findClass_of_methodNamed B.named
  subst hsz
  have hD : va_D (va_A (wX h0 a1 a2 a3 a4 a5 h6 s0 s1 s2 s3 t1 t2 t3 t4 t5) s.heap.size) (wX h0 a1 a2 a3 a4 a5 h6 s0 s1 s2 s3 t1 t2 t3 t4 t5) := hD0.self (sz := s.heap.size)
  generalize hAe : va_A (wX h0 a1 a2 a3 a4 a5 h6 s0 s1 s2 s3 t1 t2 t3 t4 t5) s.heap.size = A at hD hG ⊢
  have hA : ∀ q : Nat, s.heap.size ≤ q → A q := fun q h => by rw [← hAe]; exact Or.inr h
  have hS : va_S A s.heap s.heap [] := va_S.rf
  have hP : va_P D vwCl (wX h0 a1 a2 a3 a4 a5 h6 s0 s1 s2 s3 t1 t2 t3 t4 t5) s.heap := hP
  have hl := lv_entry ([.ref h0, .int x0, .int x1, .int x2, .int x3, .int x4]) (n := 11) (Nat.le_of_ble_eq_true rfl)
  rw [lg_entry_eq]
  generalize (lg_sl ([.ref h0, .int x0, .int x1, .int x2, .int x3, .int x4]) ++ List.replicate (11 - (lg_sl ([.ref h0, .int x0, .int x1, .int x2, .int x3, .int x4])).length) Slot.unset).toArray = ls at hl ⊢
  have hl : lv_has ls 11 [(0, .ref h0), (1, .int x0), (2, .int x1), (3, .int x2), (4, .int x3), (5, .int x4)] := hl
  refine lv_aload_n hx hb dX10_receive_0 rfl (lv_at hl 0 rfl) ?_
  refine lv_iload_n hx hb dX10_receive_1 rfl (lv_at hl 1 rfl) ?_
  have hPc := hP.sub (ws' := (wX h0 a1 a2 a3 a4 a5 h6 s0 s1 s2 s3 t1 t2 t3 t4 t5)) [0, 1, 2, 3, 4, 5, 6, 7, 8, 9, 10] rfl
  have hKc := hK.sub (tys' := (tX t1 t2 t3 t4 t5)) [0, 1, 2, 3, 4] rfl
  have hDc := hD.sub (ws' := (wX h0 a1 a2 a3 a4 a5 h6 s0 s1 s2 s3 t1 t2 t3 t4 t5)) [0, 1, 2, 3, 4, 5, 6, 7, 8, 9, 10] (by decide) rfl
  have hFc := va_free (wc := (wX h0 a1 a2 a3 a4 a5 h6 s0 s1 s2 s3 t1 t2 t3 t4 t5)) hD hS hA [0, 1, 2, 3, 4, 5, 6, 7, 8, 9, 10] rfl
  refine gX0 (isC := [0, 1, 2, 3, 4, 5, 6, 7, 8, 9, 10]) (isR := []) (wr := []) (vx_runV (As := [.int x0]) (rest := []) ⟨hx, hb, hml, hown, hta⟩ (c_X10_knownPart l hl0) (cwV 1 hta (gWV mw7 mw8 mw9 mw10 mw6) rfl rfl rfl (by decide +kernel) ⟨Nat.le_of_ble_eq_true rfl, Nat.le_of_ble_eq_true rfl⟩) ⟨gS_blind, va_recv hKc hPc (ci := 15) (q0 := 0) rfl rfl, fun U hU hW => ⟨rfl, by rw [hU], by rw [hU]; exact hPc, va_K.moved hW.alike hKc, hDc.weaken (fun _ _ _ _ => trivial), hG.call hS hU hW hFc⟩⟩ rfl rfl hl.1 rfl (lv_room (Nat.le_of_ble_eq_true rfl)) dX10_receive_2 ⟨Nat.le_of_ble_eq_true rfl, Nat.le_of_ble_eq_true rfl⟩) hP hD hS hFc rfl rfl (by decide) (by decide) (fun E9 ce q9 u2 H locs h3 hz9 hP hD hS hc9 hv9 hcl9 => ?_)
  exact vx_widen (k := 1) (n := 6) (Nat.le_of_ble_eq_true rfl) (Nat.le_of_ble_eq_true rfl) (vx_out (fun x hx9 => (hout x hx9).elim) hlocks hc9 hv9 hcl9 (fun t ht hv => ⟨u2, h3.1, h3.2, hS.F ht⟩) hS.2.2 (Nat.le_refl _) (Nat.le_refl _))

set_option maxHeartbeats 4000000 in
set_option maxRecDepth 100000 in
theorem c_X10_hold (l : Launch) (hl0 : l.stackTraces = false) {D : va_G} {tE sz : Nat} {h0 a1 a2 a3 a4 a5 h6 s0 s1 s2 s3 : Nat} {t1 t2 t3 t4 t5 : ClassId} {x0 x1 : Int32} : vx_Met l ⟨"Foundrymark", "hold", "(IZ)I"⟩ (wsC ⟨"Foundrymark", "hold", "(IZ)I"⟩ cX10_hold 4 (some .int)) ({ frames := 7, cells := 1, slots := 6, locals := 120 }) (va_Pc [.ref h0, .int x0, .int x1] (gS tE D (wX h0 a1 a2 a3 a4 a5 h6 s0 s1 s2 s3 t1 t2 t3 t4 t5) (tX t1 t2 t3 t4 t5) sz)) (fun _ _ _ _ => False) (vx_X (fun _ : Unit => True) (fun E9 _ _ => E9 = "java/lang/IndexOutOfBoundsException") (va_A (wX h0 a1 a2 a3 a4 a5 h6 s0 s1 s2 s3 t1 t2 t3 t4 t5) sz)) 1 6 (va_A (wX h0 a1 a2 a3 a4 a5 h6 s0 s1 s2 s3 t1 t2 t3 t4 t5) sz) := by
  refine vx_ofW (cc := cX10_hold) (maxL := 4) (ret := (some .int)) (by decide) rfl ?_
  intro p e s m args below meth c s₁ B hml hout hv
  obtain ⟨rfl, hsz, hP, hK, hD0, hG⟩ := hv
  have hx := B.exec
  have hb := B.bytes
  have hr := B.returns
  have hlocks := B.notSynchronized
  have hts := atoms_spec (ws := wsC ⟨"Foundrymark", "hold", "(IZ)I"⟩ cX10_hold 4 (some .int)) B.pre
  have hta : ∀ w ∈ WA, w.before _ s = true := fun w h => hts w (List.mem_cons_of_mem _ h)
  have hown : s.vm.findClass "Foundrymark" = some m.cls := findClass_of_methodNamed B.named
  subst hsz
  have hD : va_D (va_A (wX h0 a1 a2 a3 a4 a5 h6 s0 s1 s2 s3 t1 t2 t3 t4 t5) s.heap.size) (wX h0 a1 a2 a3 a4 a5 h6 s0 s1 s2 s3 t1 t2 t3 t4 t5) := hD0.self (sz := s.heap.size)
  generalize hAe : va_A (wX h0 a1 a2 a3 a4 a5 h6 s0 s1 s2 s3 t1 t2 t3 t4 t5) s.heap.size = A at hD hG ⊢
  have hA : ∀ q : Nat, s.heap.size ≤ q → A q := fun q h => by rw [← hAe]; exact Or.inr h
  have hS : va_S A s.heap s.heap [] := va_S.rf
  have hP : va_P D vwCl (wX h0 a1 a2 a3 a4 a5 h6 s0 s1 s2 s3 t1 t2 t3 t4 t5) s.heap := hP
  have hl := lv_entry ([.ref h0, .int x0, .int x1]) (n := 4) (Nat.le_of_ble_eq_true rfl)
  rw [lg_entry_eq]
  generalize (lg_sl ([.ref h0, .int x0, .int x1]) ++ List.replicate (4 - (lg_sl ([.ref h0, .int x0, .int x1])).length) Slot.unset).toArray = ls at hl ⊢
  have hl : lv_has ls 4 [(0, .ref h0), (1, .int x0), (2, .int x1)] := hl
  refine lv_aload_n hx hb dX10_hold_0 rfl (lv_at hl 0 rfl) ?_
  refine lv_iload_n hx hb dX10_hold_1 rfl (lv_at hl 1 rfl) ?_
  have hPc := hP.sub (ws' := (wX h0 a1 a2 a3 a4 a5 h6 s0 s1 s2 s3 t1 t2 t3 t4 t5)) [0, 1, 2, 3, 4, 5, 6, 7, 8, 9, 10] rfl
  have hKc := hK.sub (tys' := (tX t1 t2 t3 t4 t5)) [0, 1, 2, 3, 4] rfl
  have hDc := hD.sub (ws' := (wX h0 a1 a2 a3 a4 a5 h6 s0 s1 s2 s3 t1 t2 t3 t4 t5)) [0, 1, 2, 3, 4, 5, 6, 7, 8, 9, 10] (by decide) rfl
  have hFc := va_free (wc := (wX h0 a1 a2 a3 a4 a5 h6 s0 s1 s2 s3 t1 t2 t3 t4 t5)) hD hS hA [0, 1, 2, 3, 4, 5, 6, 7, 8, 9, 10] rfl
  refine gX0 (isC := [0, 1, 2, 3, 4, 5, 6, 7, 8, 9, 10]) (isR := []) (wr := []) (vx_runV (As := [.int x0]) (rest := []) ⟨hx, hb, hml, hown, hta⟩ (c_X10_knownLot l hl0) (cwV 1 hta (gWV mw12 mw13 mw14 mw10 mw11) rfl rfl rfl (by decide +kernel) ⟨Nat.le_of_ble_eq_true rfl, Nat.le_of_ble_eq_true rfl⟩) ⟨gS_blind, va_recv hKc hPc (ci := 15) (q0 := 0) rfl rfl, fun U hU hW => ⟨rfl, by rw [hU], by rw [hU]; exact hPc, va_K.moved hW.alike hKc, hDc.weaken (fun _ _ _ _ => trivial), hG.call hS hU hW hFc⟩⟩ rfl rfl hl.1 rfl (lv_room (Nat.le_of_ble_eq_true rfl)) dX10_hold_2 ⟨Nat.le_of_ble_eq_true rfl, Nat.le_of_ble_eq_true rfl⟩) hP hD hS hFc rfl rfl (by decide) (by decide) (fun E9 ce q9 u2 H locs h3 hz9 hP hD hS hc9 hv9 hcl9 => ?_)
  exact vx_widen (k := 1) (n := 6) (Nat.le_of_ble_eq_true rfl) (Nat.le_of_ble_eq_true rfl) (vx_out (fun x hx9 => (hout x hx9).elim) hlocks hc9 hv9 hcl9 (fun t ht hv => ⟨u2, h3.1, h3.2, hS.F ht⟩) hS.2.2 (Nat.le_refl _) (Nat.le_refl _))

set_option maxHeartbeats 4000000 in
set_option maxRecDepth 100000 in
theorem c_X10_isHeld (l : Launch) (hl0 : l.stackTraces = false) {D : va_G} {tE sz : Nat} {h0 a1 a2 a3 a4 a5 h6 s0 s1 s2 s3 : Nat} {t1 t2 t3 t4 t5 : ClassId} {x0 : Int32} : vx_Met l ⟨"Foundrymark", "isHeld", "(I)Z"⟩ (wsC ⟨"Foundrymark", "isHeld", "(I)Z"⟩ cX10_isHeld 2 (some .boolean)) ({ frames := 7, cells := 1, slots := 6, locals := 120 }) (va_Pc [.ref h0, .int x0] (gS tE D (wX h0 a1 a2 a3 a4 a5 h6 s0 s1 s2 s3 t1 t2 t3 t4 t5) (tX t1 t2 t3 t4 t5) sz)) (fun _ _ _ _ => False) (vx_X (fun _ : Unit => True) (fun E9 _ _ => E9 = "java/lang/IndexOutOfBoundsException") (va_A (wX h0 a1 a2 a3 a4 a5 h6 s0 s1 s2 s3 t1 t2 t3 t4 t5) sz)) 1 6 (va_A (wX h0 a1 a2 a3 a4 a5 h6 s0 s1 s2 s3 t1 t2 t3 t4 t5) sz) := by
  refine vx_ofW (cc := cX10_isHeld) (maxL := 2) (ret := (some .boolean)) (by decide) rfl ?_
  intro p e s m args below meth c s₁ B hml hout hv
  obtain ⟨rfl, hsz, hP, hK, hD0, hG⟩ := hv
  have hx := B.exec
  have hb := B.bytes
  have hr := B.returns
  have hlocks := B.notSynchronized
  have hts := atoms_spec (ws := wsC ⟨"Foundrymark", "isHeld", "(I)Z"⟩ cX10_isHeld 2 (some .boolean)) B.pre
  have hta : ∀ w ∈ WA, w.before _ s = true := fun w h => hts w (List.mem_cons_of_mem _ h)
  have hown : s.vm.findClass "Foundrymark" = some m.cls := findClass_of_methodNamed B.named
  subst hsz
  have hD : va_D (va_A (wX h0 a1 a2 a3 a4 a5 h6 s0 s1 s2 s3 t1 t2 t3 t4 t5) s.heap.size) (wX h0 a1 a2 a3 a4 a5 h6 s0 s1 s2 s3 t1 t2 t3 t4 t5) := hD0.self (sz := s.heap.size)
  generalize hAe : va_A (wX h0 a1 a2 a3 a4 a5 h6 s0 s1 s2 s3 t1 t2 t3 t4 t5) s.heap.size = A at hD hG ⊢
  have hA : ∀ q : Nat, s.heap.size ≤ q → A q := fun q h => by rw [← hAe]; exact Or.inr h
  have hS : va_S A s.heap s.heap [] := va_S.rf
  have hP : va_P D vwCl (wX h0 a1 a2 a3 a4 a5 h6 s0 s1 s2 s3 t1 t2 t3 t4 t5) s.heap := hP
  have hl := lv_entry ([.ref h0, .int x0]) (n := 2) (Nat.le_of_ble_eq_true rfl)
  rw [lg_entry_eq]
  generalize (lg_sl ([.ref h0, .int x0]) ++ List.replicate (2 - (lg_sl ([.ref h0, .int x0])).length) Slot.unset).toArray = ls at hl ⊢
  have hl : lv_has ls 2 [(0, .ref h0), (1, .int x0)] := hl
  refine lv_aload_n hx hb dX10_isHeld_0 rfl (lv_at hl 0 rfl) ?_
  refine lv_aload_n hx hb dX10_isHeld_1 rfl (lv_at hl 0 rfl) ?_
  refine lv_iload_n hx hb dX10_isHeld_2 rfl (lv_at hl 1 rfl) ?_
  have hPc := hP.sub (ws' := (wX h0 a1 a2 a3 a4 a5 h6 s0 s1 s2 s3 t1 t2 t3 t4 t5)) [0, 1, 2, 3, 4, 5, 6, 7, 8, 9, 10] rfl
  have hKc := hK.sub (tys' := (tX t1 t2 t3 t4 t5)) [0, 1, 2, 3, 4] rfl
  have hDc := hD.sub (ws' := (wX h0 a1 a2 a3 a4 a5 h6 s0 s1 s2 s3 t1 t2 t3 t4 t5)) [0, 1, 2, 3, 4, 5, 6, 7, 8, 9, 10] (by decide) rfl
  have hFc := va_free (wc := (wX h0 a1 a2 a3 a4 a5 h6 s0 s1 s2 s3 t1 t2 t3 t4 t5)) hD hS hA [0, 1, 2, 3, 4, 5, 6, 7, 8, 9, 10] rfl
  refine gX0 (isC := [0, 1, 2, 3, 4, 5, 6, 7, 8, 9, 10]) (isR := []) (wr := []) (vx_runV (As := [.int x0]) (rest := [.ref h0]) ⟨hx, hb, hml, hown, hta⟩ (c_X10_knownLot l hl0) (cwV 1 hta (gWV mw12 mw13 mw14 mw10 mw11) rfl rfl rfl (by decide +kernel) ⟨Nat.le_of_ble_eq_true rfl, Nat.le_of_ble_eq_true rfl⟩) ⟨gS_blind, va_recv hKc hPc (ci := 15) (q0 := 0) rfl rfl, fun U hU hW => ⟨rfl, by rw [hU], by rw [hU]; exact hPc, va_K.moved hW.alike hKc, hDc.weaken (fun _ _ _ _ => trivial), hG.call hS hU hW hFc⟩⟩ rfl rfl hl.1 rfl (lv_room (Nat.le_of_ble_eq_true rfl)) dX10_isHeld_3 ⟨Nat.le_of_ble_eq_true rfl, Nat.le_of_ble_eq_true rfl⟩) hP hD hS hFc rfl rfl (by decide) (by decide) (fun E9 ce q9 u2 H locs h3 hz9 hP hD hS hc9 hv9 hcl9 => ?_)
  exact vx_widen (k := 1) (n := 6) (Nat.le_of_ble_eq_true rfl) (Nat.le_of_ble_eq_true rfl) (vx_out (fun x hx9 => (hout x hx9).elim) hlocks hc9 hv9 hcl9 (fun t ht hv => ⟨u2, h3.1, h3.2, hS.F ht⟩) hS.2.2 (Nat.le_refl _) (Nat.le_refl _))

set_option maxHeartbeats 4000000 in
set_option maxRecDepth 100000 in
theorem c_X10_setChart (l : Launch) (hl0 : l.stackTraces = false) {D : va_G} {tE sz : Nat} {h0 a1 a2 a3 a4 a5 h6 s0 s1 s2 s3 : Nat} {t1 t2 t3 t4 t5 : ClassId} {x0 x1 x2 : Int32} : vx_Met l ⟨"Foundrymark", "setChart", "(III)I"⟩ (wsC ⟨"Foundrymark", "setChart", "(III)I"⟩ cX10_setChart 5 (some .int)) ({ frames := 7, cells := 1, slots := 6, locals := 120 }) (va_Pc [.ref h0, .int x0, .int x1, .int x2] (gS tE D (wX h0 a1 a2 a3 a4 a5 h6 s0 s1 s2 s3 t1 t2 t3 t4 t5) (tX t1 t2 t3 t4 t5) sz)) (fun _ _ _ _ => False) (vx_X (fun _ : Unit => True) (fun E9 _ _ => E9 = "java/lang/IndexOutOfBoundsException") (va_A (wX h0 a1 a2 a3 a4 a5 h6 s0 s1 s2 s3 t1 t2 t3 t4 t5) sz)) 1 6 (va_A (wX h0 a1 a2 a3 a4 a5 h6 s0 s1 s2 s3 t1 t2 t3 t4 t5) sz) := by
  refine vx_ofW (cc := cX10_setChart) (maxL := 5) (ret := (some .int)) (by decide) rfl ?_
  intro p e s m args below meth c s₁ B hml hout hv
  obtain ⟨rfl, hsz, hP, hK, hD0, hG⟩ := hv
  have hx := B.exec
  have hb := B.bytes
  have hr := B.returns
  have hlocks := B.notSynchronized
  have hts := atoms_spec (ws := wsC ⟨"Foundrymark", "setChart", "(III)I"⟩ cX10_setChart 5 (some .int)) B.pre
  have hta : ∀ w ∈ WA, w.before _ s = true := fun w h => hts w (List.mem_cons_of_mem _ h)
  have hown : s.vm.findClass "Foundrymark" = some m.cls := findClass_of_methodNamed B.named
  subst hsz
  have hD : va_D (va_A (wX h0 a1 a2 a3 a4 a5 h6 s0 s1 s2 s3 t1 t2 t3 t4 t5) s.heap.size) (wX h0 a1 a2 a3 a4 a5 h6 s0 s1 s2 s3 t1 t2 t3 t4 t5) := hD0.self (sz := s.heap.size)
  generalize hAe : va_A (wX h0 a1 a2 a3 a4 a5 h6 s0 s1 s2 s3 t1 t2 t3 t4 t5) s.heap.size = A at hD hG ⊢
  have hA : ∀ q : Nat, s.heap.size ≤ q → A q := fun q h => by rw [← hAe]; exact Or.inr h
  have hS : va_S A s.heap s.heap [] := va_S.rf
  have hP : va_P D vwCl (wX h0 a1 a2 a3 a4 a5 h6 s0 s1 s2 s3 t1 t2 t3 t4 t5) s.heap := hP
  have hl := lv_entry ([.ref h0, .int x0, .int x1, .int x2]) (n := 5) (Nat.le_of_ble_eq_true rfl)
  rw [lg_entry_eq]
  generalize (lg_sl ([.ref h0, .int x0, .int x1, .int x2]) ++ List.replicate (5 - (lg_sl ([.ref h0, .int x0, .int x1, .int x2])).length) Slot.unset).toArray = ls at hl ⊢
  have hl : lv_has ls 5 [(0, .ref h0), (1, .int x0), (2, .int x1), (3, .int x2)] := hl
  refine lv_aload_n hx hb dX10_setChart_0 rfl (lv_at hl 0 rfl) ?_
  refine lv_iload_n hx hb dX10_setChart_1 rfl (lv_at hl 1 rfl) ?_
  have hPc := hP.sub (ws' := (wX h0 a1 a2 a3 a4 a5 h6 s0 s1 s2 s3 t1 t2 t3 t4 t5)) [0, 1, 2, 3, 4, 5, 6, 7, 8, 9, 10] rfl
  have hKc := hK.sub (tys' := (tX t1 t2 t3 t4 t5)) [0, 1, 2, 3, 4] rfl
  have hDc := hD.sub (ws' := (wX h0 a1 a2 a3 a4 a5 h6 s0 s1 s2 s3 t1 t2 t3 t4 t5)) [0, 1, 2, 3, 4, 5, 6, 7, 8, 9, 10] (by decide) rfl
  have hFc := va_free (wc := (wX h0 a1 a2 a3 a4 a5 h6 s0 s1 s2 s3 t1 t2 t3 t4 t5)) hD hS hA [0, 1, 2, 3, 4, 5, 6, 7, 8, 9, 10] rfl
  refine gX0 (isC := [0, 1, 2, 3, 4, 5, 6, 7, 8, 9, 10]) (isR := []) (wr := []) (vx_runV (As := [.int x0]) (rest := []) ⟨hx, hb, hml, hown, hta⟩ (c_X10_knownPart l hl0) (cwV 1 hta (gWV mw7 mw8 mw9 mw10 mw6) rfl rfl rfl (by decide +kernel) ⟨Nat.le_of_ble_eq_true rfl, Nat.le_of_ble_eq_true rfl⟩) ⟨gS_blind, va_recv hKc hPc (ci := 15) (q0 := 0) rfl rfl, fun U hU hW => ⟨rfl, by rw [hU], by rw [hU]; exact hPc, va_K.moved hW.alike hKc, hDc.weaken (fun _ _ _ _ => trivial), hG.call hS hU hW hFc⟩⟩ rfl rfl hl.1 rfl (lv_room (Nat.le_of_ble_eq_true rfl)) dX10_setChart_2 ⟨Nat.le_of_ble_eq_true rfl, Nat.le_of_ble_eq_true rfl⟩) hP hD hS hFc rfl rfl (by decide) (by decide) (fun E9 ce q9 u2 H locs h3 hz9 hP hD hS hc9 hv9 hcl9 => ?_)
  exact vx_widen (k := 1) (n := 6) (Nat.le_of_ble_eq_true rfl) (Nat.le_of_ble_eq_true rfl) (vx_out (fun x hx9 => (hout x hx9).elim) hlocks hc9 hv9 hcl9 (fun t ht hv => ⟨u2, h3.1, h3.2, hS.F ht⟩) hS.2.2 (Nat.le_refl _) (Nat.le_refl _))

set_option maxHeartbeats 4000000 in
set_option maxRecDepth 100000 in
theorem c_X10_measure (l : Launch) (hl0 : l.stackTraces = false) {D : va_G} {tE sz : Nat} {h0 a1 a2 a3 a4 a5 h6 s0 s1 s2 s3 : Nat} {t1 t2 t3 t4 t5 : ClassId} {x0 x1 : Int32} : vx_Met l ⟨"Foundrymark", "measure", "(II)Z"⟩ (wsC ⟨"Foundrymark", "measure", "(II)Z"⟩ cX10_measure 5 (some .boolean)) ({ frames := 7, cells := 1, slots := 6, locals := 120 }) (va_Pc [.ref h0, .int x0, .int x1] (gS tE D (wX h0 a1 a2 a3 a4 a5 h6 s0 s1 s2 s3 t1 t2 t3 t4 t5) (tX t1 t2 t3 t4 t5) sz)) (fun _ _ _ _ => False) (vx_X (fun _ : Unit => True) (fun E9 _ _ => E9 = "java/lang/IndexOutOfBoundsException") (va_A (wX h0 a1 a2 a3 a4 a5 h6 s0 s1 s2 s3 t1 t2 t3 t4 t5) sz)) 1 6 (va_A (wX h0 a1 a2 a3 a4 a5 h6 s0 s1 s2 s3 t1 t2 t3 t4 t5) sz) := by
  refine vx_ofW (cc := cX10_measure) (maxL := 5) (ret := (some .boolean)) (by decide) rfl ?_
  intro p e s m args below meth c s₁ B hml hout hv
  obtain ⟨rfl, hsz, hP, hK, hD0, hG⟩ := hv
  have hx := B.exec
  have hb := B.bytes
  have hr := B.returns
  have hlocks := B.notSynchronized
  have hts := atoms_spec (ws := wsC ⟨"Foundrymark", "measure", "(II)Z"⟩ cX10_measure 5 (some .boolean)) B.pre
  have hta : ∀ w ∈ WA, w.before _ s = true := fun w h => hts w (List.mem_cons_of_mem _ h)
  have hown : s.vm.findClass "Foundrymark" = some m.cls := findClass_of_methodNamed B.named
  subst hsz
  have hD : va_D (va_A (wX h0 a1 a2 a3 a4 a5 h6 s0 s1 s2 s3 t1 t2 t3 t4 t5) s.heap.size) (wX h0 a1 a2 a3 a4 a5 h6 s0 s1 s2 s3 t1 t2 t3 t4 t5) := hD0.self (sz := s.heap.size)
  generalize hAe : va_A (wX h0 a1 a2 a3 a4 a5 h6 s0 s1 s2 s3 t1 t2 t3 t4 t5) s.heap.size = A at hD hG ⊢
  have hA : ∀ q : Nat, s.heap.size ≤ q → A q := fun q h => by rw [← hAe]; exact Or.inr h
  have hS : va_S A s.heap s.heap [] := va_S.rf
  have hP : va_P D vwCl (wX h0 a1 a2 a3 a4 a5 h6 s0 s1 s2 s3 t1 t2 t3 t4 t5) s.heap := hP
  have hl := lv_entry ([.ref h0, .int x0, .int x1]) (n := 5) (Nat.le_of_ble_eq_true rfl)
  rw [lg_entry_eq]
  generalize (lg_sl ([.ref h0, .int x0, .int x1]) ++ List.replicate (5 - (lg_sl ([.ref h0, .int x0, .int x1])).length) Slot.unset).toArray = ls at hl ⊢
  have hl : lv_has ls 5 [(0, .ref h0), (1, .int x0), (2, .int x1)] := hl
  refine lv_aload_n hx hb dX10_measure_0 rfl (lv_at hl 0 rfl) ?_
  refine lv_iload_n hx hb dX10_measure_1 rfl (lv_at hl 1 rfl) ?_
  have hPc := hP.sub (ws' := (wX h0 a1 a2 a3 a4 a5 h6 s0 s1 s2 s3 t1 t2 t3 t4 t5)) [0, 1, 2, 3, 4, 5, 6, 7, 8, 9, 10] rfl
  have hKc := hK.sub (tys' := (tX t1 t2 t3 t4 t5)) [0, 1, 2, 3, 4] rfl
  have hDc := hD.sub (ws' := (wX h0 a1 a2 a3 a4 a5 h6 s0 s1 s2 s3 t1 t2 t3 t4 t5)) [0, 1, 2, 3, 4, 5, 6, 7, 8, 9, 10] (by decide) rfl
  have hFc := va_free (wc := (wX h0 a1 a2 a3 a4 a5 h6 s0 s1 s2 s3 t1 t2 t3 t4 t5)) hD hS hA [0, 1, 2, 3, 4, 5, 6, 7, 8, 9, 10] rfl
  refine gX0 (isC := [0, 1, 2, 3, 4, 5, 6, 7, 8, 9, 10]) (isR := []) (wr := []) (vx_runV (As := [.int x0]) (rest := []) ⟨hx, hb, hml, hown, hta⟩ (c_X10_knownLot l hl0) (cwV 1 hta (gWV mw12 mw13 mw14 mw10 mw11) rfl rfl rfl (by decide +kernel) ⟨Nat.le_of_ble_eq_true rfl, Nat.le_of_ble_eq_true rfl⟩) ⟨gS_blind, va_recv hKc hPc (ci := 15) (q0 := 0) rfl rfl, fun U hU hW => ⟨rfl, by rw [hU], by rw [hU]; exact hPc, va_K.moved hW.alike hKc, hDc.weaken (fun _ _ _ _ => trivial), hG.call hS hU hW hFc⟩⟩ rfl rfl hl.1 rfl (lv_room (Nat.le_of_ble_eq_true rfl)) dX10_measure_2 ⟨Nat.le_of_ble_eq_true rfl, Nat.le_of_ble_eq_true rfl⟩) hP hD hS hFc rfl rfl (by decide) (by decide) (fun E9 ce q9 u2 H locs h3 hz9 hP hD hS hc9 hv9 hcl9 => ?_)
  exact vx_widen (k := 1) (n := 6) (Nat.le_of_ble_eq_true rfl) (Nat.le_of_ble_eq_true rfl) (vx_out (fun x hx9 => (hout x hx9).elim) hlocks hc9 hv9 hcl9 (fun t ht hv => ⟨u2, h3.1, h3.2, hS.F ht⟩) hS.2.2 (Nat.le_refl _) (Nat.le_refl _))

set_option maxHeartbeats 4000000 in
set_option maxRecDepth 100000 in
theorem c_X10_partOf (l : Launch) (hl0 : l.stackTraces = false) {D : va_G} {tE sz : Nat} {h0 a1 a2 a3 a4 a5 h6 s0 s1 s2 s3 : Nat} {t1 t2 t3 t4 t5 : ClassId} {x0 : Int32} : vx_Met l ⟨"Foundrymark", "partOf", "(I)I"⟩ (wsC ⟨"Foundrymark", "partOf", "(I)I"⟩ cX10_partOf 2 (some .int)) ({ frames := 7, cells := 1, slots := 6, locals := 120 }) (va_Pc [.ref h0, .int x0] (gS tE D (wX h0 a1 a2 a3 a4 a5 h6 s0 s1 s2 s3 t1 t2 t3 t4 t5) (tX t1 t2 t3 t4 t5) sz)) (fun _ _ _ _ => False) (vx_X (fun _ : Unit => True) (fun E9 _ _ => E9 = "java/lang/IndexOutOfBoundsException") (va_A (wX h0 a1 a2 a3 a4 a5 h6 s0 s1 s2 s3 t1 t2 t3 t4 t5) sz)) 1 6 (va_A (wX h0 a1 a2 a3 a4 a5 h6 s0 s1 s2 s3 t1 t2 t3 t4 t5) sz) := by
  refine vx_ofW (cc := cX10_partOf) (maxL := 2) (ret := (some .int)) (by decide) rfl ?_
  intro p e s m args below meth c s₁ B hml hout hv
  obtain ⟨rfl, hsz, hP, hK, hD0, hG⟩ := hv
  have hx := B.exec
  have hb := B.bytes
  have hr := B.returns
  have hlocks := B.notSynchronized
  have hts := atoms_spec (ws := wsC ⟨"Foundrymark", "partOf", "(I)I"⟩ cX10_partOf 2 (some .int)) B.pre
  have hta : ∀ w ∈ WA, w.before _ s = true := fun w h => hts w (List.mem_cons_of_mem _ h)
  have hown : s.vm.findClass "Foundrymark" = some m.cls := findClass_of_methodNamed B.named
  subst hsz
  have hD : va_D (va_A (wX h0 a1 a2 a3 a4 a5 h6 s0 s1 s2 s3 t1 t2 t3 t4 t5) s.heap.size) (wX h0 a1 a2 a3 a4 a5 h6 s0 s1 s2 s3 t1 t2 t3 t4 t5) := hD0.self (sz := s.heap.size)
  generalize hAe : va_A (wX h0 a1 a2 a3 a4 a5 h6 s0 s1 s2 s3 t1 t2 t3 t4 t5) s.heap.size = A at hD hG ⊢
  have hA : ∀ q : Nat, s.heap.size ≤ q → A q := fun q h => by rw [← hAe]; exact Or.inr h
  have hS : va_S A s.heap s.heap [] := va_S.rf
  have hP : va_P D vwCl (wX h0 a1 a2 a3 a4 a5 h6 s0 s1 s2 s3 t1 t2 t3 t4 t5) s.heap := hP
  have hl := lv_entry ([.ref h0, .int x0]) (n := 2) (Nat.le_of_ble_eq_true rfl)
  rw [lg_entry_eq]
  generalize (lg_sl ([.ref h0, .int x0]) ++ List.replicate (2 - (lg_sl ([.ref h0, .int x0])).length) Slot.unset).toArray = ls at hl ⊢
  have hl : lv_has ls 2 [(0, .ref h0), (1, .int x0)] := hl
  refine lv_aload_n hx hb dX10_partOf_0 rfl (lv_at hl 0 rfl) ?_
  refine lv_iload_n hx hb dX10_partOf_1 rfl (lv_at hl 1 rfl) ?_
  have hPc := hP.sub (ws' := (wX h0 a1 a2 a3 a4 a5 h6 s0 s1 s2 s3 t1 t2 t3 t4 t5)) [0, 1, 2, 3, 4, 5, 6, 7, 8, 9, 10] rfl
  have hKc := hK.sub (tys' := (tX t1 t2 t3 t4 t5)) [0, 1, 2, 3, 4] rfl
  have hDc := hD.sub (ws' := (wX h0 a1 a2 a3 a4 a5 h6 s0 s1 s2 s3 t1 t2 t3 t4 t5)) [0, 1, 2, 3, 4, 5, 6, 7, 8, 9, 10] (by decide) rfl
  have hFc := va_free (wc := (wX h0 a1 a2 a3 a4 a5 h6 s0 s1 s2 s3 t1 t2 t3 t4 t5)) hD hS hA [0, 1, 2, 3, 4, 5, 6, 7, 8, 9, 10] rfl
  refine gX0 (isC := [0, 1, 2, 3, 4, 5, 6, 7, 8, 9, 10]) (isR := []) (wr := []) (vx_runV (As := [.int x0]) (rest := []) ⟨hx, hb, hml, hown, hta⟩ (c_X10_knownLot l hl0) (cwV 1 hta (gWV mw12 mw13 mw14 mw10 mw11) rfl rfl rfl (by decide +kernel) ⟨Nat.le_of_ble_eq_true rfl, Nat.le_of_ble_eq_true rfl⟩) ⟨gS_blind, va_recv hKc hPc (ci := 15) (q0 := 0) rfl rfl, fun U hU hW => ⟨rfl, by rw [hU], by rw [hU]; exact hPc, va_K.moved hW.alike hKc, hDc.weaken (fun _ _ _ _ => trivial), hG.call hS hU hW hFc⟩⟩ rfl rfl hl.1 rfl (lv_room (Nat.le_of_ble_eq_true rfl)) dX10_partOf_2 ⟨Nat.le_of_ble_eq_true rfl, Nat.le_of_ble_eq_true rfl⟩) hP hD hS hFc rfl rfl (by decide) (by decide) (fun E9 ce q9 u2 H locs h3 hz9 hP hD hS hc9 hv9 hcl9 => ?_)
  exact vx_widen (k := 1) (n := 6) (Nat.le_of_ble_eq_true rfl) (Nat.le_of_ble_eq_true rfl) (vx_out (fun x hx9 => (hout x hx9).elim) hlocks hc9 hv9 hcl9 (fun t ht hv => ⟨u2, h3.1, h3.2, hS.F ht⟩) hS.2.2 (Nat.le_refl _) (Nat.le_refl _))

set_option maxHeartbeats 4000000 in
set_option maxRecDepth 100000 in
theorem c_X10_rest (l : Launch) (hl0 : l.stackTraces = false) {D : va_G} {tE sz : Nat} {h0 a1 a2 a3 a4 a5 h6 s0 s1 s2 s3 : Nat} {t1 t2 t3 t4 t5 : ClassId} {x0 : Int32} : vx_Met l ⟨"Foundrymark", "rest", "(I)I"⟩ (wsC ⟨"Foundrymark", "rest", "(I)I"⟩ cX10_rest 2 (some .int)) ({ frames := 7, cells := 1, slots := 6, locals := 120 }) (va_Pc [.ref h0, .int x0] (gS tE D (wX h0 a1 a2 a3 a4 a5 h6 s0 s1 s2 s3 t1 t2 t3 t4 t5) (tX t1 t2 t3 t4 t5) sz)) (fun _ _ _ _ => False) (vx_X (fun _ : Unit => True) (fun E9 _ _ => E9 = "java/lang/IndexOutOfBoundsException") (va_A (wX h0 a1 a2 a3 a4 a5 h6 s0 s1 s2 s3 t1 t2 t3 t4 t5) sz)) 1 6 (va_A (wX h0 a1 a2 a3 a4 a5 h6 s0 s1 s2 s3 t1 t2 t3 t4 t5) sz) := by
  refine vx_ofW (cc := cX10_rest) (maxL := 2) (ret := (some .int)) (by decide) rfl ?_
  intro p e s m args below meth c s₁ B hml hout hv
  obtain ⟨rfl, hsz, hP, hK, hD0, hG⟩ := hv
  have hx := B.exec
  have hb := B.bytes
  have hr := B.returns
  have hlocks := B.notSynchronized
  have hts := atoms_spec (ws := wsC ⟨"Foundrymark", "rest", "(I)I"⟩ cX10_rest 2 (some .int)) B.pre
  have hta : ∀ w ∈ WA, w.before _ s = true := fun w h => hts w (List.mem_cons_of_mem _ h)
  have hown : s.vm.findClass "Foundrymark" = some m.cls := findClass_of_methodNamed B.named
  subst hsz
  have hD : va_D (va_A (wX h0 a1 a2 a3 a4 a5 h6 s0 s1 s2 s3 t1 t2 t3 t4 t5) s.heap.size) (wX h0 a1 a2 a3 a4 a5 h6 s0 s1 s2 s3 t1 t2 t3 t4 t5) := hD0.self (sz := s.heap.size)
  generalize hAe : va_A (wX h0 a1 a2 a3 a4 a5 h6 s0 s1 s2 s3 t1 t2 t3 t4 t5) s.heap.size = A at hD hG ⊢
  have hA : ∀ q : Nat, s.heap.size ≤ q → A q := fun q h => by rw [← hAe]; exact Or.inr h
  have hS : va_S A s.heap s.heap [] := va_S.rf
  have hP : va_P D vwCl (wX h0 a1 a2 a3 a4 a5 h6 s0 s1 s2 s3 t1 t2 t3 t4 t5) s.heap := hP
  have hl := lv_entry ([.ref h0, .int x0]) (n := 2) (Nat.le_of_ble_eq_true rfl)
  rw [lg_entry_eq]
  generalize (lg_sl ([.ref h0, .int x0]) ++ List.replicate (2 - (lg_sl ([.ref h0, .int x0])).length) Slot.unset).toArray = ls at hl ⊢
  have hl : lv_has ls 2 [(0, .ref h0), (1, .int x0)] := hl
  refine lv_aload_n hx hb dX10_rest_0 rfl (lv_at hl 0 rfl) ?_
  refine lv_iload_n hx hb dX10_rest_1 rfl (lv_at hl 1 rfl) ?_
  have hPc := hP.sub (ws' := (wX h0 a1 a2 a3 a4 a5 h6 s0 s1 s2 s3 t1 t2 t3 t4 t5)) [0, 1, 2, 3, 4, 5, 6, 7, 8, 9, 10] rfl
  have hKc := hK.sub (tys' := (tX t1 t2 t3 t4 t5)) [0, 1, 2, 3, 4] rfl
  have hDc := hD.sub (ws' := (wX h0 a1 a2 a3 a4 a5 h6 s0 s1 s2 s3 t1 t2 t3 t4 t5)) [0, 1, 2, 3, 4, 5, 6, 7, 8, 9, 10] (by decide) rfl
  have hFc := va_free (wc := (wX h0 a1 a2 a3 a4 a5 h6 s0 s1 s2 s3 t1 t2 t3 t4 t5)) hD hS hA [0, 1, 2, 3, 4, 5, 6, 7, 8, 9, 10] rfl
  refine gX0 (isC := [0, 1, 2, 3, 4, 5, 6, 7, 8, 9, 10]) (isR := []) (wr := []) (vx_runV (As := [.int x0]) (rest := []) ⟨hx, hb, hml, hown, hta⟩ (c_X10_knownLot l hl0) (cwV 1 hta (gWV mw12 mw13 mw14 mw10 mw11) rfl rfl rfl (by decide +kernel) ⟨Nat.le_of_ble_eq_true rfl, Nat.le_of_ble_eq_true rfl⟩) ⟨gS_blind, va_recv hKc hPc (ci := 15) (q0 := 0) rfl rfl, fun U hU hW => ⟨rfl, by rw [hU], by rw [hU]; exact hPc, va_K.moved hW.alike hKc, hDc.weaken (fun _ _ _ _ => trivial), hG.call hS hU hW hFc⟩⟩ rfl rfl hl.1 rfl (lv_room (Nat.le_of_ble_eq_true rfl)) dX10_rest_2 ⟨Nat.le_of_ble_eq_true rfl, Nat.le_of_ble_eq_true rfl⟩) hP hD hS hFc rfl rfl (by decide) (by decide) (fun E9 ce q9 u2 H locs h3 hz9 hP hD hS hc9 hv9 hcl9 => ?_)
  exact vx_widen (k := 1) (n := 6) (Nat.le_of_ble_eq_true rfl) (Nat.le_of_ble_eq_true rfl) (vx_out (fun x hx9 => (hout x hx9).elim) hlocks hc9 hv9 hcl9 (fun t ht hv => ⟨u2, h3.1, h3.2, hS.F ht⟩) hS.2.2 (Nat.le_refl _) (Nat.le_refl _))

set_option maxHeartbeats 4000000 in
set_option maxRecDepth 100000 in
theorem c_X10_reserved (l : Launch) (hl0 : l.stackTraces = false) {D : va_G} {tE sz : Nat} {h0 a1 a2 a3 a4 a5 h6 s0 s1 s2 s3 : Nat} {t1 t2 t3 t4 t5 : ClassId} {x0 : Int32} : vx_Met l ⟨"Foundrymark", "reserved", "(I)I"⟩ (wsC ⟨"Foundrymark", "reserved", "(I)I"⟩ cX10_reserved 2 (some .int)) ({ frames := 7, cells := 1, slots := 6, locals := 120 }) (va_Pc [.ref h0, .int x0] (gS tE D (wX h0 a1 a2 a3 a4 a5 h6 s0 s1 s2 s3 t1 t2 t3 t4 t5) (tX t1 t2 t3 t4 t5) sz)) (fun _ _ _ _ => False) (vx_X (fun _ : Unit => True) (fun E9 _ _ => E9 = "java/lang/IndexOutOfBoundsException") (va_A (wX h0 a1 a2 a3 a4 a5 h6 s0 s1 s2 s3 t1 t2 t3 t4 t5) sz)) 1 6 (va_A (wX h0 a1 a2 a3 a4 a5 h6 s0 s1 s2 s3 t1 t2 t3 t4 t5) sz) := by
  refine vx_ofW (cc := cX10_reserved) (maxL := 2) (ret := (some .int)) (by decide) rfl ?_
  intro p e s m args below meth c s₁ B hml hout hv
  obtain ⟨rfl, hsz, hP, hK, hD0, hG⟩ := hv
  have hx := B.exec
  have hb := B.bytes
  have hr := B.returns
  have hlocks := B.notSynchronized
  have hts := atoms_spec (ws := wsC ⟨"Foundrymark", "reserved", "(I)I"⟩ cX10_reserved 2 (some .int)) B.pre
  have hta : ∀ w ∈ WA, w.before _ s = true := fun w h => hts w (List.mem_cons_of_mem _ h)
  have hown : s.vm.findClass "Foundrymark" = some m.cls := findClass_of_methodNamed B.named
  subst hsz
  have hD : va_D (va_A (wX h0 a1 a2 a3 a4 a5 h6 s0 s1 s2 s3 t1 t2 t3 t4 t5) s.heap.size) (wX h0 a1 a2 a3 a4 a5 h6 s0 s1 s2 s3 t1 t2 t3 t4 t5) := hD0.self (sz := s.heap.size)
  generalize hAe : va_A (wX h0 a1 a2 a3 a4 a5 h6 s0 s1 s2 s3 t1 t2 t3 t4 t5) s.heap.size = A at hD hG ⊢
  have hA : ∀ q : Nat, s.heap.size ≤ q → A q := fun q h => by rw [← hAe]; exact Or.inr h
  have hS : va_S A s.heap s.heap [] := va_S.rf
  have hP : va_P D vwCl (wX h0 a1 a2 a3 a4 a5 h6 s0 s1 s2 s3 t1 t2 t3 t4 t5) s.heap := hP
  have hl := lv_entry ([.ref h0, .int x0]) (n := 2) (Nat.le_of_ble_eq_true rfl)
  rw [lg_entry_eq]
  generalize (lg_sl ([.ref h0, .int x0]) ++ List.replicate (2 - (lg_sl ([.ref h0, .int x0])).length) Slot.unset).toArray = ls at hl ⊢
  have hl : lv_has ls 2 [(0, .ref h0), (1, .int x0)] := hl
  refine lv_aload_n hx hb dX10_reserved_0 rfl (lv_at hl 0 rfl) ?_
  refine lv_iload_n hx hb dX10_reserved_1 rfl (lv_at hl 1 rfl) ?_
  have hPc := hP.sub (ws' := (wX h0 a1 a2 a3 a4 a5 h6 s0 s1 s2 s3 t1 t2 t3 t4 t5)) [0, 1, 2, 3, 4, 5, 6, 7, 8, 9, 10] rfl
  have hKc := hK.sub (tys' := (tX t1 t2 t3 t4 t5)) [0, 1, 2, 3, 4] rfl
  have hDc := hD.sub (ws' := (wX h0 a1 a2 a3 a4 a5 h6 s0 s1 s2 s3 t1 t2 t3 t4 t5)) [0, 1, 2, 3, 4, 5, 6, 7, 8, 9, 10] (by decide) rfl
  have hFc := va_free (wc := (wX h0 a1 a2 a3 a4 a5 h6 s0 s1 s2 s3 t1 t2 t3 t4 t5)) hD hS hA [0, 1, 2, 3, 4, 5, 6, 7, 8, 9, 10] rfl
  refine gX0 (isC := [0, 1, 2, 3, 4, 5, 6, 7, 8, 9, 10]) (isR := []) (wr := []) (vx_runV (As := [.int x0]) (rest := []) ⟨hx, hb, hml, hown, hta⟩ (c_X10_knownLot l hl0) (cwV 1 hta (gWV mw12 mw13 mw14 mw10 mw11) rfl rfl rfl (by decide +kernel) ⟨Nat.le_of_ble_eq_true rfl, Nat.le_of_ble_eq_true rfl⟩) ⟨gS_blind, va_recv hKc hPc (ci := 15) (q0 := 0) rfl rfl, fun U hU hW => ⟨rfl, by rw [hU], by rw [hU]; exact hPc, va_K.moved hW.alike hKc, hDc.weaken (fun _ _ _ _ => trivial), hG.call hS hU hW hFc⟩⟩ rfl rfl hl.1 rfl (lv_room (Nat.le_of_ble_eq_true rfl)) dX10_reserved_2 ⟨Nat.le_of_ble_eq_true rfl, Nat.le_of_ble_eq_true rfl⟩) hP hD hS hFc rfl rfl (by decide) (by decide) (fun E9 ce q9 u2 H locs h3 hz9 hP hD hS hc9 hv9 hcl9 => ?_)
  exact vx_widen (k := 1) (n := 6) (Nat.le_of_ble_eq_true rfl) (Nat.le_of_ble_eq_true rfl) (vx_out (fun x hx9 => (hout x hx9).elim) hlocks hc9 hv9 hcl9 (fun t ht hv => ⟨u2, h3.1, h3.2, hS.F ht⟩) hS.2.2 (Nat.le_refl _) (Nat.le_refl _))

set_option maxHeartbeats 4000000 in
set_option maxRecDepth 100000 in
theorem c_X10_costOf (l : Launch) (hl0 : l.stackTraces = false) {D : va_G} {tE sz : Nat} {h0 a1 a2 a3 a4 a5 h6 s0 s1 s2 s3 : Nat} {t1 t2 t3 t4 t5 : ClassId} {x0 : Int32} : vx_Met l ⟨"Foundrymark", "costOf", "(I)J"⟩ (wsC ⟨"Foundrymark", "costOf", "(I)J"⟩ cX10_costOf 2 (some .long)) ({ frames := 7, cells := 1, slots := 6, locals := 120 }) (va_Pc [.ref h0, .int x0] (gS tE D (wX h0 a1 a2 a3 a4 a5 h6 s0 s1 s2 s3 t1 t2 t3 t4 t5) (tX t1 t2 t3 t4 t5) sz)) (fun _ _ _ _ => False) (vx_X (fun _ : Unit => True) (fun E9 _ _ => E9 = "java/lang/IndexOutOfBoundsException") (va_A (wX h0 a1 a2 a3 a4 a5 h6 s0 s1 s2 s3 t1 t2 t3 t4 t5) sz)) 1 6 (va_A (wX h0 a1 a2 a3 a4 a5 h6 s0 s1 s2 s3 t1 t2 t3 t4 t5) sz) := by
  refine vx_ofW (cc := cX10_costOf) (maxL := 2) (ret := (some .long)) (by decide) rfl ?_
  intro p e s m args below meth c s₁ B hml hout hv
  obtain ⟨rfl, hsz, hP, hK, hD0, hG⟩ := hv
  have hx := B.exec
  have hb := B.bytes
  have hr := B.returns
  have hlocks := B.notSynchronized
  have hts := atoms_spec (ws := wsC ⟨"Foundrymark", "costOf", "(I)J"⟩ cX10_costOf 2 (some .long)) B.pre
  have hta : ∀ w ∈ WA, w.before _ s = true := fun w h => hts w (List.mem_cons_of_mem _ h)
  have hown : s.vm.findClass "Foundrymark" = some m.cls := findClass_of_methodNamed B.named
  subst hsz
  have hD : va_D (va_A (wX h0 a1 a2 a3 a4 a5 h6 s0 s1 s2 s3 t1 t2 t3 t4 t5) s.heap.size) (wX h0 a1 a2 a3 a4 a5 h6 s0 s1 s2 s3 t1 t2 t3 t4 t5) := hD0.self (sz := s.heap.size)
  generalize hAe : va_A (wX h0 a1 a2 a3 a4 a5 h6 s0 s1 s2 s3 t1 t2 t3 t4 t5) s.heap.size = A at hD hG ⊢
  have hA : ∀ q : Nat, s.heap.size ≤ q → A q := fun q h => by rw [← hAe]; exact Or.inr h
  have hS : va_S A s.heap s.heap [] := va_S.rf
  have hP : va_P D vwCl (wX h0 a1 a2 a3 a4 a5 h6 s0 s1 s2 s3 t1 t2 t3 t4 t5) s.heap := hP
  have hl := lv_entry ([.ref h0, .int x0]) (n := 2) (Nat.le_of_ble_eq_true rfl)
  rw [lg_entry_eq]
  generalize (lg_sl ([.ref h0, .int x0]) ++ List.replicate (2 - (lg_sl ([.ref h0, .int x0])).length) Slot.unset).toArray = ls at hl ⊢
  have hl : lv_has ls 2 [(0, .ref h0), (1, .int x0)] := hl
  refine lv_aload_n hx hb dX10_costOf_0 rfl (lv_at hl 0 rfl) ?_
  refine lv_iload_n hx hb dX10_costOf_1 rfl (lv_at hl 1 rfl) ?_
  have hPc := hP.sub (ws' := (wX h0 a1 a2 a3 a4 a5 h6 s0 s1 s2 s3 t1 t2 t3 t4 t5)) [0, 1, 2, 3, 4, 5, 6, 7, 8, 9, 10] rfl
  have hKc := hK.sub (tys' := (tX t1 t2 t3 t4 t5)) [0, 1, 2, 3, 4] rfl
  have hDc := hD.sub (ws' := (wX h0 a1 a2 a3 a4 a5 h6 s0 s1 s2 s3 t1 t2 t3 t4 t5)) [0, 1, 2, 3, 4, 5, 6, 7, 8, 9, 10] (by decide) rfl
  have hFc := va_free (wc := (wX h0 a1 a2 a3 a4 a5 h6 s0 s1 s2 s3 t1 t2 t3 t4 t5)) hD hS hA [0, 1, 2, 3, 4, 5, 6, 7, 8, 9, 10] rfl
  refine gX0 (isC := [0, 1, 2, 3, 4, 5, 6, 7, 8, 9, 10]) (isR := []) (wr := []) (vx_runV (As := [.int x0]) (rest := []) ⟨hx, hb, hml, hown, hta⟩ (c_X10_knownLot l hl0) (cwV 1 hta (gWV mw12 mw13 mw14 mw10 mw11) rfl rfl rfl (by decide +kernel) ⟨Nat.le_of_ble_eq_true rfl, Nat.le_of_ble_eq_true rfl⟩) ⟨gS_blind, va_recv hKc hPc (ci := 15) (q0 := 0) rfl rfl, fun U hU hW => ⟨rfl, by rw [hU], by rw [hU]; exact hPc, va_K.moved hW.alike hKc, hDc.weaken (fun _ _ _ _ => trivial), hG.call hS hU hW hFc⟩⟩ rfl rfl hl.1 rfl (lv_room (Nat.le_of_ble_eq_true rfl)) dX10_costOf_2 ⟨Nat.le_of_ble_eq_true rfl, Nat.le_of_ble_eq_true rfl⟩) hP hD hS hFc rfl rfl (by decide) (by decide) (fun E9 ce q9 u2 H locs h3 hz9 hP hD hS hc9 hv9 hcl9 => ?_)
  exact vx_widen (k := 1) (n := 6) (Nat.le_of_ble_eq_true rfl) (Nat.le_of_ble_eq_true rfl) (vx_out (fun x hx9 => (hout x hx9).elim) hlocks hc9 hv9 hcl9 (fun t ht hv => ⟨u2, h3.1, h3.2, hS.F ht⟩) hS.2.2 (Nat.le_refl _) (Nat.le_refl _))

set_option maxHeartbeats 4000000 in
set_option maxRecDepth 100000 in
theorem c_X10_order (l : Launch) (hl0 : l.stackTraces = false) {D : va_G} {tE sz : Nat} {h0 a1 a2 a3 a4 a5 h6 s0 s1 s2 s3 : Nat} {t1 t2 t3 t4 t5 : ClassId} {x0 x1 x2 x3 : Int32} : vx_Met l ⟨"Foundrymark", "order", "(IIII)I"⟩ (wsC ⟨"Foundrymark", "order", "(IIII)I"⟩ cX10_order 6 (some .int)) ({ frames := 7, cells := 1, slots := 6, locals := 120 }) (va_Pc [.ref h0, .int x0, .int x1, .int x2, .int x3] (gS tE D (wX h0 a1 a2 a3 a4 a5 h6 s0 s1 s2 s3 t1 t2 t3 t4 t5) (tX t1 t2 t3 t4 t5) sz)) (fun _ _ _ _ => False) (vx_X (fun _ : Unit => True) (fun E9 _ _ => E9 = "java/lang/IndexOutOfBoundsException") (va_A (wX h0 a1 a2 a3 a4 a5 h6 s0 s1 s2 s3 t1 t2 t3 t4 t5) sz)) 1 6 (va_A (wX h0 a1 a2 a3 a4 a5 h6 s0 s1 s2 s3 t1 t2 t3 t4 t5) sz) := by
  refine vx_ofW (cc := cX10_order) (maxL := 6) (ret := (some .int)) (by decide) rfl ?_
  intro p e s m args below meth c s₁ B hml hout hv
  obtain ⟨rfl, hsz, hP, hK, hD0, hG⟩ := hv
  have hx := B.exec
  have hb := B.bytes
  have hr := B.returns
  have hlocks := B.notSynchronized
  have hts := atoms_spec (ws := wsC ⟨"Foundrymark", "order", "(IIII)I"⟩ cX10_order 6 (some .int)) B.pre
  have hta : ∀ w ∈ WA, w.before _ s = true := fun w h => hts w (List.mem_cons_of_mem _ h)
  have hown : s.vm.findClass "Foundrymark" = some m.cls := findClass_of_methodNamed B.named
  subst hsz
  have hD : va_D (va_A (wX h0 a1 a2 a3 a4 a5 h6 s0 s1 s2 s3 t1 t2 t3 t4 t5) s.heap.size) (wX h0 a1 a2 a3 a4 a5 h6 s0 s1 s2 s3 t1 t2 t3 t4 t5) := hD0.self (sz := s.heap.size)
  generalize hAe : va_A (wX h0 a1 a2 a3 a4 a5 h6 s0 s1 s2 s3 t1 t2 t3 t4 t5) s.heap.size = A at hD hG ⊢
  have hA : ∀ q : Nat, s.heap.size ≤ q → A q := fun q h => by rw [← hAe]; exact Or.inr h
  have hS : va_S A s.heap s.heap [] := va_S.rf
  have hP : va_P D vwCl (wX h0 a1 a2 a3 a4 a5 h6 s0 s1 s2 s3 t1 t2 t3 t4 t5) s.heap := hP
  have hl := lv_entry ([.ref h0, .int x0, .int x1, .int x2, .int x3]) (n := 6) (Nat.le_of_ble_eq_true rfl)
  rw [lg_entry_eq]
  generalize (lg_sl ([.ref h0, .int x0, .int x1, .int x2, .int x3]) ++ List.replicate (6 - (lg_sl ([.ref h0, .int x0, .int x1, .int x2, .int x3])).length) Slot.unset).toArray = ls at hl ⊢
  have hl : lv_has ls 6 [(0, .ref h0), (1, .int x0), (2, .int x1), (3, .int x2), (4, .int x3)] := hl
  refine lv_aload_n hx hb dX10_order_0 rfl (lv_at hl 0 rfl) ?_
  refine lv_iload_n hx hb dX10_order_1 rfl (lv_at hl 1 rfl) ?_
  have hPc := hP.sub (ws' := (wX h0 a1 a2 a3 a4 a5 h6 s0 s1 s2 s3 t1 t2 t3 t4 t5)) [0, 1, 2, 3, 4, 5, 6, 7, 8, 9, 10] rfl
  have hKc := hK.sub (tys' := (tX t1 t2 t3 t4 t5)) [0, 1, 2, 3, 4] rfl
  have hDc := hD.sub (ws' := (wX h0 a1 a2 a3 a4 a5 h6 s0 s1 s2 s3 t1 t2 t3 t4 t5)) [0, 1, 2, 3, 4, 5, 6, 7, 8, 9, 10] (by decide) rfl
  have hFc := va_free (wc := (wX h0 a1 a2 a3 a4 a5 h6 s0 s1 s2 s3 t1 t2 t3 t4 t5)) hD hS hA [0, 1, 2, 3, 4, 5, 6, 7, 8, 9, 10] rfl
  refine gX0 (isC := [0, 1, 2, 3, 4, 5, 6, 7, 8, 9, 10]) (isR := []) (wr := []) (vx_runV (As := [.int x0]) (rest := []) ⟨hx, hb, hml, hown, hta⟩ (c_X10_knownPart l hl0) (cwV 1 hta (gWV mw7 mw8 mw9 mw10 mw6) rfl rfl rfl (by decide +kernel) ⟨Nat.le_of_ble_eq_true rfl, Nat.le_of_ble_eq_true rfl⟩) ⟨gS_blind, va_recv hKc hPc (ci := 15) (q0 := 0) rfl rfl, fun U hU hW => ⟨rfl, by rw [hU], by rw [hU]; exact hPc, va_K.moved hW.alike hKc, hDc.weaken (fun _ _ _ _ => trivial), hG.call hS hU hW hFc⟩⟩ rfl rfl hl.1 rfl (lv_room (Nat.le_of_ble_eq_true rfl)) dX10_order_2 ⟨Nat.le_of_ble_eq_true rfl, Nat.le_of_ble_eq_true rfl⟩) hP hD hS hFc rfl rfl (by decide) (by decide) (fun E9 ce q9 u2 H locs h3 hz9 hP hD hS hc9 hv9 hcl9 => ?_)
  exact vx_widen (k := 1) (n := 6) (Nat.le_of_ble_eq_true rfl) (Nat.le_of_ble_eq_true rfl) (vx_out (fun x hx9 => (hout x hx9).elim) hlocks hc9 hv9 hcl9 (fun t ht hv => ⟨u2, h3.1, h3.2, hS.F ht⟩) hS.2.2 (Nat.le_refl _) (Nat.le_refl _))

set_option maxHeartbeats 4000000 in
set_option maxRecDepth 100000 in
theorem c_X10_promise (l : Launch) (hl0 : l.stackTraces = false) {D : va_G} {tE sz : Nat} {h0 a1 a2 a3 a4 a5 h6 s0 s1 s2 s3 : Nat} {t1 t2 t3 t4 t5 : ClassId} {x0 : Int32} : vx_Met l ⟨"Foundrymark", "promise", "(I)Z"⟩ (wsC ⟨"Foundrymark", "promise", "(I)Z"⟩ cX10_promise 3 (some .boolean)) ({ frames := 7, cells := 1, slots := 6, locals := 120 }) (va_Pc [.ref h0, .int x0] (gS tE D (wX h0 a1 a2 a3 a4 a5 h6 s0 s1 s2 s3 t1 t2 t3 t4 t5) (tX t1 t2 t3 t4 t5) sz)) (fun _ _ _ _ => False) (vx_X (fun _ : Unit => True) (fun E9 _ _ => E9 = "java/lang/IndexOutOfBoundsException") (va_A (wX h0 a1 a2 a3 a4 a5 h6 s0 s1 s2 s3 t1 t2 t3 t4 t5) sz)) 1 6 (va_A (wX h0 a1 a2 a3 a4 a5 h6 s0 s1 s2 s3 t1 t2 t3 t4 t5) sz) := by
  refine vx_ofW (cc := cX10_promise) (maxL := 3) (ret := (some .boolean)) (by decide) rfl ?_
  intro p e s m args below meth c s₁ B hml hout hv
  obtain ⟨rfl, hsz, hP, hK, hD0, hG⟩ := hv
  have hx := B.exec
  have hb := B.bytes
  have hr := B.returns
  have hlocks := B.notSynchronized
  have hts := atoms_spec (ws := wsC ⟨"Foundrymark", "promise", "(I)Z"⟩ cX10_promise 3 (some .boolean)) B.pre
  have hta : ∀ w ∈ WA, w.before _ s = true := fun w h => hts w (List.mem_cons_of_mem _ h)
  have hown : s.vm.findClass "Foundrymark" = some m.cls := findClass_of_methodNamed B.named
  subst hsz
  have hD : va_D (va_A (wX h0 a1 a2 a3 a4 a5 h6 s0 s1 s2 s3 t1 t2 t3 t4 t5) s.heap.size) (wX h0 a1 a2 a3 a4 a5 h6 s0 s1 s2 s3 t1 t2 t3 t4 t5) := hD0.self (sz := s.heap.size)
  generalize hAe : va_A (wX h0 a1 a2 a3 a4 a5 h6 s0 s1 s2 s3 t1 t2 t3 t4 t5) s.heap.size = A at hD hG ⊢
  have hA : ∀ q : Nat, s.heap.size ≤ q → A q := fun q h => by rw [← hAe]; exact Or.inr h
  have hS : va_S A s.heap s.heap [] := va_S.rf
  have hP : va_P D vwCl (wX h0 a1 a2 a3 a4 a5 h6 s0 s1 s2 s3 t1 t2 t3 t4 t5) s.heap := hP
  have hl := lv_entry ([.ref h0, .int x0]) (n := 3) (Nat.le_of_ble_eq_true rfl)
  rw [lg_entry_eq]
  generalize (lg_sl ([.ref h0, .int x0]) ++ List.replicate (3 - (lg_sl ([.ref h0, .int x0])).length) Slot.unset).toArray = ls at hl ⊢
  have hl : lv_has ls 3 [(0, .ref h0), (1, .int x0)] := hl
  refine lv_aload_n hx hb dX10_promise_0 rfl (lv_at hl 0 rfl) ?_
  refine lv_iload_n hx hb dX10_promise_1 rfl (lv_at hl 1 rfl) ?_
  have hPc := hP.sub (ws' := (wX h0 a1 a2 a3 a4 a5 h6 s0 s1 s2 s3 t1 t2 t3 t4 t5)) [0, 1, 2, 3, 4, 5, 6, 7, 8, 9, 10] rfl
  have hKc := hK.sub (tys' := (tX t1 t2 t3 t4 t5)) [0, 1, 2, 3, 4] rfl
  have hDc := hD.sub (ws' := (wX h0 a1 a2 a3 a4 a5 h6 s0 s1 s2 s3 t1 t2 t3 t4 t5)) [0, 1, 2, 3, 4, 5, 6, 7, 8, 9, 10] (by decide) rfl
  have hFc := va_free (wc := (wX h0 a1 a2 a3 a4 a5 h6 s0 s1 s2 s3 t1 t2 t3 t4 t5)) hD hS hA [0, 1, 2, 3, 4, 5, 6, 7, 8, 9, 10] rfl
  refine gX0 (isC := [0, 1, 2, 3, 4, 5, 6, 7, 8, 9, 10]) (isR := []) (wr := []) (vx_runV (As := [.int x0]) (rest := []) ⟨hx, hb, hml, hown, hta⟩ (c_X10_knownOrder l hl0) (cwV 1 hta (gWV mw16 mw17 mw18 mw10 mw15) rfl rfl rfl (by decide +kernel) ⟨Nat.le_of_ble_eq_true rfl, Nat.le_of_ble_eq_true rfl⟩) ⟨gS_blind, va_recv hKc hPc (ci := 15) (q0 := 0) rfl rfl, fun U hU hW => ⟨rfl, by rw [hU], by rw [hU]; exact hPc, va_K.moved hW.alike hKc, hDc.weaken (fun _ _ _ _ => trivial), hG.call hS hU hW hFc⟩⟩ rfl rfl hl.1 rfl (lv_room (Nat.le_of_ble_eq_true rfl)) dX10_promise_2 ⟨Nat.le_of_ble_eq_true rfl, Nat.le_of_ble_eq_true rfl⟩) hP hD hS hFc rfl rfl (by decide) (by decide) (fun E9 ce q9 u2 H locs h3 hz9 hP hD hS hc9 hv9 hcl9 => ?_)
  exact vx_widen (k := 1) (n := 6) (Nat.le_of_ble_eq_true rfl) (Nat.le_of_ble_eq_true rfl) (vx_out (fun x hx9 => (hout x hx9).elim) hlocks hc9 hv9 hcl9 (fun t ht hv => ⟨u2, h3.1, h3.2, hS.F ht⟩) hS.2.2 (Nat.le_refl _) (Nat.le_refl _))

set_option maxHeartbeats 4000000 in
set_option maxRecDepth 100000 in
theorem c_X10_withdraw (l : Launch) (hl0 : l.stackTraces = false) {D : va_G} {tE sz : Nat} {h0 a1 a2 a3 a4 a5 h6 s0 s1 s2 s3 : Nat} {t1 t2 t3 t4 t5 : ClassId} {x0 : Int32} : vx_Met l ⟨"Foundrymark", "withdraw", "(I)I"⟩ (wsC ⟨"Foundrymark", "withdraw", "(I)I"⟩ cX10_withdraw 3 (some .int)) ({ frames := 7, cells := 1, slots := 6, locals := 120 }) (va_Pc [.ref h0, .int x0] (gS tE D (wX h0 a1 a2 a3 a4 a5 h6 s0 s1 s2 s3 t1 t2 t3 t4 t5) (tX t1 t2 t3 t4 t5) sz)) (fun _ _ _ _ => False) (vx_X (fun _ : Unit => True) (fun E9 _ _ => E9 = "java/lang/IndexOutOfBoundsException") (va_A (wX h0 a1 a2 a3 a4 a5 h6 s0 s1 s2 s3 t1 t2 t3 t4 t5) sz)) 1 6 (va_A (wX h0 a1 a2 a3 a4 a5 h6 s0 s1 s2 s3 t1 t2 t3 t4 t5) sz) := by
  refine vx_ofW (cc := cX10_withdraw) (maxL := 3) (ret := (some .int)) (by decide) rfl ?_
  intro p e s m args below meth c s₁ B hml hout hv
  obtain ⟨rfl, hsz, hP, hK, hD0, hG⟩ := hv
  have hx := B.exec
  have hb := B.bytes
  have hr := B.returns
  have hlocks := B.notSynchronized
  have hts := atoms_spec (ws := wsC ⟨"Foundrymark", "withdraw", "(I)I"⟩ cX10_withdraw 3 (some .int)) B.pre
  have hta : ∀ w ∈ WA, w.before _ s = true := fun w h => hts w (List.mem_cons_of_mem _ h)
  have hown : s.vm.findClass "Foundrymark" = some m.cls := findClass_of_methodNamed B.named
  subst hsz
  have hD : va_D (va_A (wX h0 a1 a2 a3 a4 a5 h6 s0 s1 s2 s3 t1 t2 t3 t4 t5) s.heap.size) (wX h0 a1 a2 a3 a4 a5 h6 s0 s1 s2 s3 t1 t2 t3 t4 t5) := hD0.self (sz := s.heap.size)
  generalize hAe : va_A (wX h0 a1 a2 a3 a4 a5 h6 s0 s1 s2 s3 t1 t2 t3 t4 t5) s.heap.size = A at hD hG ⊢
  have hA : ∀ q : Nat, s.heap.size ≤ q → A q := fun q h => by rw [← hAe]; exact Or.inr h
  have hS : va_S A s.heap s.heap [] := va_S.rf
  have hP : va_P D vwCl (wX h0 a1 a2 a3 a4 a5 h6 s0 s1 s2 s3 t1 t2 t3 t4 t5) s.heap := hP
  have hl := lv_entry ([.ref h0, .int x0]) (n := 3) (Nat.le_of_ble_eq_true rfl)
  rw [lg_entry_eq]
  generalize (lg_sl ([.ref h0, .int x0]) ++ List.replicate (3 - (lg_sl ([.ref h0, .int x0])).length) Slot.unset).toArray = ls at hl ⊢
  have hl : lv_has ls 3 [(0, .ref h0), (1, .int x0)] := hl
  refine lv_aload_n hx hb dX10_withdraw_0 rfl (lv_at hl 0 rfl) ?_
  refine lv_iload_n hx hb dX10_withdraw_1 rfl (lv_at hl 1 rfl) ?_
  have hPc := hP.sub (ws' := (wX h0 a1 a2 a3 a4 a5 h6 s0 s1 s2 s3 t1 t2 t3 t4 t5)) [0, 1, 2, 3, 4, 5, 6, 7, 8, 9, 10] rfl
  have hKc := hK.sub (tys' := (tX t1 t2 t3 t4 t5)) [0, 1, 2, 3, 4] rfl
  have hDc := hD.sub (ws' := (wX h0 a1 a2 a3 a4 a5 h6 s0 s1 s2 s3 t1 t2 t3 t4 t5)) [0, 1, 2, 3, 4, 5, 6, 7, 8, 9, 10] (by decide) rfl
  have hFc := va_free (wc := (wX h0 a1 a2 a3 a4 a5 h6 s0 s1 s2 s3 t1 t2 t3 t4 t5)) hD hS hA [0, 1, 2, 3, 4, 5, 6, 7, 8, 9, 10] rfl
  refine gX0 (isC := [0, 1, 2, 3, 4, 5, 6, 7, 8, 9, 10]) (isR := []) (wr := []) (vx_runV (As := [.int x0]) (rest := []) ⟨hx, hb, hml, hown, hta⟩ (c_X10_knownOrder l hl0) (cwV 1 hta (gWV mw16 mw17 mw18 mw10 mw15) rfl rfl rfl (by decide +kernel) ⟨Nat.le_of_ble_eq_true rfl, Nat.le_of_ble_eq_true rfl⟩) ⟨gS_blind, va_recv hKc hPc (ci := 15) (q0 := 0) rfl rfl, fun U hU hW => ⟨rfl, by rw [hU], by rw [hU]; exact hPc, va_K.moved hW.alike hKc, hDc.weaken (fun _ _ _ _ => trivial), hG.call hS hU hW hFc⟩⟩ rfl rfl hl.1 rfl (lv_room (Nat.le_of_ble_eq_true rfl)) dX10_withdraw_2 ⟨Nat.le_of_ble_eq_true rfl, Nat.le_of_ble_eq_true rfl⟩) hP hD hS hFc rfl rfl (by decide) (by decide) (fun E9 ce q9 u2 H locs h3 hz9 hP hD hS hc9 hv9 hcl9 => ?_)
  exact vx_widen (k := 1) (n := 6) (Nat.le_of_ble_eq_true rfl) (Nat.le_of_ble_eq_true rfl) (vx_out (fun x hx9 => (hout x hx9).elim) hlocks hc9 hv9 hcl9 (fun t ht hv => ⟨u2, h3.1, h3.2, hS.F ht⟩) hS.2.2 (Nat.le_refl _) (Nat.le_refl _))

set_option maxHeartbeats 4000000 in
set_option maxRecDepth 100000 in
theorem c_X10_release (l : Launch) (hl0 : l.stackTraces = false) {D : va_G} {tE sz : Nat} {h0 a1 a2 a3 a4 a5 h6 s0 s1 s2 s3 : Nat} {t1 t2 t3 t4 t5 : ClassId} {x0 : Int32} : vx_Met l ⟨"Foundrymark", "release", "(I)Z"⟩ (wsC ⟨"Foundrymark", "release", "(I)Z"⟩ cX10_release 4 (some .boolean)) ({ frames := 7, cells := 1, slots := 6, locals := 120 }) (va_Pc [.ref h0, .int x0] (gS tE D (wX h0 a1 a2 a3 a4 a5 h6 s0 s1 s2 s3 t1 t2 t3 t4 t5) (tX t1 t2 t3 t4 t5) sz)) (fun _ _ _ _ => False) (vx_X (fun _ : Unit => True) (fun E9 _ _ => E9 = "java/lang/IndexOutOfBoundsException") (va_A (wX h0 a1 a2 a3 a4 a5 h6 s0 s1 s2 s3 t1 t2 t3 t4 t5) sz)) 1 6 (va_A (wX h0 a1 a2 a3 a4 a5 h6 s0 s1 s2 s3 t1 t2 t3 t4 t5) sz) := by
  refine vx_ofW (cc := cX10_release) (maxL := 4) (ret := (some .boolean)) (by decide) rfl ?_
  intro p e s m args below meth c s₁ B hml hout hv
  obtain ⟨rfl, hsz, hP, hK, hD0, hG⟩ := hv
  have hx := B.exec
  have hb := B.bytes
  have hr := B.returns
  have hlocks := B.notSynchronized
  have hts := atoms_spec (ws := wsC ⟨"Foundrymark", "release", "(I)Z"⟩ cX10_release 4 (some .boolean)) B.pre
  have hta : ∀ w ∈ WA, w.before _ s = true := fun w h => hts w (List.mem_cons_of_mem _ h)
  have hown : s.vm.findClass "Foundrymark" = some m.cls := findClass_of_methodNamed B.named
  subst hsz
  have hD : va_D (va_A (wX h0 a1 a2 a3 a4 a5 h6 s0 s1 s2 s3 t1 t2 t3 t4 t5) s.heap.size) (wX h0 a1 a2 a3 a4 a5 h6 s0 s1 s2 s3 t1 t2 t3 t4 t5) := hD0.self (sz := s.heap.size)
  generalize hAe : va_A (wX h0 a1 a2 a3 a4 a5 h6 s0 s1 s2 s3 t1 t2 t3 t4 t5) s.heap.size = A at hD hG ⊢
  have hA : ∀ q : Nat, s.heap.size ≤ q → A q := fun q h => by rw [← hAe]; exact Or.inr h
  have hS : va_S A s.heap s.heap [] := va_S.rf
  have hP : va_P D vwCl (wX h0 a1 a2 a3 a4 a5 h6 s0 s1 s2 s3 t1 t2 t3 t4 t5) s.heap := hP
  have hl := lv_entry ([.ref h0, .int x0]) (n := 4) (Nat.le_of_ble_eq_true rfl)
  rw [lg_entry_eq]
  generalize (lg_sl ([.ref h0, .int x0]) ++ List.replicate (4 - (lg_sl ([.ref h0, .int x0])).length) Slot.unset).toArray = ls at hl ⊢
  have hl : lv_has ls 4 [(0, .ref h0), (1, .int x0)] := hl
  refine lv_aload_n hx hb dX10_release_0 rfl (lv_at hl 0 rfl) ?_
  refine lv_iload_n hx hb dX10_release_1 rfl (lv_at hl 1 rfl) ?_
  have hPc := hP.sub (ws' := (wX h0 a1 a2 a3 a4 a5 h6 s0 s1 s2 s3 t1 t2 t3 t4 t5)) [0, 1, 2, 3, 4, 5, 6, 7, 8, 9, 10] rfl
  have hKc := hK.sub (tys' := (tX t1 t2 t3 t4 t5)) [0, 1, 2, 3, 4] rfl
  have hDc := hD.sub (ws' := (wX h0 a1 a2 a3 a4 a5 h6 s0 s1 s2 s3 t1 t2 t3 t4 t5)) [0, 1, 2, 3, 4, 5, 6, 7, 8, 9, 10] (by decide) rfl
  have hFc := va_free (wc := (wX h0 a1 a2 a3 a4 a5 h6 s0 s1 s2 s3 t1 t2 t3 t4 t5)) hD hS hA [0, 1, 2, 3, 4, 5, 6, 7, 8, 9, 10] rfl
  refine gX0 (isC := [0, 1, 2, 3, 4, 5, 6, 7, 8, 9, 10]) (isR := []) (wr := []) (vx_runV (As := [.int x0]) (rest := []) ⟨hx, hb, hml, hown, hta⟩ (c_X10_knownOrder l hl0) (cwV 1 hta (gWV mw16 mw17 mw18 mw10 mw15) rfl rfl rfl (by decide +kernel) ⟨Nat.le_of_ble_eq_true rfl, Nat.le_of_ble_eq_true rfl⟩) ⟨gS_blind, va_recv hKc hPc (ci := 15) (q0 := 0) rfl rfl, fun U hU hW => ⟨rfl, by rw [hU], by rw [hU]; exact hPc, va_K.moved hW.alike hKc, hDc.weaken (fun _ _ _ _ => trivial), hG.call hS hU hW hFc⟩⟩ rfl rfl hl.1 rfl (lv_room (Nat.le_of_ble_eq_true rfl)) dX10_release_2 ⟨Nat.le_of_ble_eq_true rfl, Nat.le_of_ble_eq_true rfl⟩) hP hD hS hFc rfl rfl (by decide) (by decide) (fun E9 ce q9 u2 H locs h3 hz9 hP hD hS hc9 hv9 hcl9 => ?_)
  exact vx_widen (k := 1) (n := 6) (Nat.le_of_ble_eq_true rfl) (Nat.le_of_ble_eq_true rfl) (vx_out (fun x hx9 => (hout x hx9).elim) hlocks hc9 hv9 hcl9 (fun t ht hv => ⟨u2, h3.1, h3.2, hS.F ht⟩) hS.2.2 (Nat.le_refl _) (Nat.le_refl _))

set_option maxHeartbeats 4000000 in
set_option maxRecDepth 100000 in
theorem c_X10_scrap (l : Launch) (hl0 : l.stackTraces = false) {D : va_G} {tE sz : Nat} {h0 a1 a2 a3 a4 a5 h6 s0 s1 s2 s3 : Nat} {t1 t2 t3 t4 t5 : ClassId} {x0 x1 : Int32} : vx_Met l ⟨"Foundrymark", "scrap", "(II)I"⟩ (wsC ⟨"Foundrymark", "scrap", "(II)I"⟩ cX10_scrap 5 (some .int)) ({ frames := 7, cells := 1, slots := 6, locals := 120 }) (va_Pc [.ref h0, .int x0, .int x1] (gS tE D (wX h0 a1 a2 a3 a4 a5 h6 s0 s1 s2 s3 t1 t2 t3 t4 t5) (tX t1 t2 t3 t4 t5) sz)) (fun _ _ _ _ => False) (vx_X (fun _ : Unit => True) (fun E9 _ _ => E9 = "java/lang/IndexOutOfBoundsException") (va_A (wX h0 a1 a2 a3 a4 a5 h6 s0 s1 s2 s3 t1 t2 t3 t4 t5) sz)) 1 6 (va_A (wX h0 a1 a2 a3 a4 a5 h6 s0 s1 s2 s3 t1 t2 t3 t4 t5) sz) := by
  refine vx_ofW (cc := cX10_scrap) (maxL := 5) (ret := (some .int)) (by decide) rfl ?_
  intro p e s m args below meth c s₁ B hml hout hv
  obtain ⟨rfl, hsz, hP, hK, hD0, hG⟩ := hv
  have hx := B.exec
  have hb := B.bytes
  have hr := B.returns
  have hlocks := B.notSynchronized
  have hts := atoms_spec (ws := wsC ⟨"Foundrymark", "scrap", "(II)I"⟩ cX10_scrap 5 (some .int)) B.pre
  have hta : ∀ w ∈ WA, w.before _ s = true := fun w h => hts w (List.mem_cons_of_mem _ h)
  have hown : s.vm.findClass "Foundrymark" = some m.cls := findClass_of_methodNamed B.named
  subst hsz
  have hD : va_D (va_A (wX h0 a1 a2 a3 a4 a5 h6 s0 s1 s2 s3 t1 t2 t3 t4 t5) s.heap.size) (wX h0 a1 a2 a3 a4 a5 h6 s0 s1 s2 s3 t1 t2 t3 t4 t5) := hD0.self (sz := s.heap.size)
  generalize hAe : va_A (wX h0 a1 a2 a3 a4 a5 h6 s0 s1 s2 s3 t1 t2 t3 t4 t5) s.heap.size = A at hD hG ⊢
  have hA : ∀ q : Nat, s.heap.size ≤ q → A q := fun q h => by rw [← hAe]; exact Or.inr h
  have hS : va_S A s.heap s.heap [] := va_S.rf
  have hP : va_P D vwCl (wX h0 a1 a2 a3 a4 a5 h6 s0 s1 s2 s3 t1 t2 t3 t4 t5) s.heap := hP
  have hl := lv_entry ([.ref h0, .int x0, .int x1]) (n := 5) (Nat.le_of_ble_eq_true rfl)
  rw [lg_entry_eq]
  generalize (lg_sl ([.ref h0, .int x0, .int x1]) ++ List.replicate (5 - (lg_sl ([.ref h0, .int x0, .int x1])).length) Slot.unset).toArray = ls at hl ⊢
  have hl : lv_has ls 5 [(0, .ref h0), (1, .int x0), (2, .int x1)] := hl
  refine lv_aload_n hx hb dX10_scrap_0 rfl (lv_at hl 0 rfl) ?_
  refine lv_iload_n hx hb dX10_scrap_1 rfl (lv_at hl 1 rfl) ?_
  have hPc := hP.sub (ws' := (wX h0 a1 a2 a3 a4 a5 h6 s0 s1 s2 s3 t1 t2 t3 t4 t5)) [0, 1, 2, 3, 4, 5, 6, 7, 8, 9, 10] rfl
  have hKc := hK.sub (tys' := (tX t1 t2 t3 t4 t5)) [0, 1, 2, 3, 4] rfl
  have hDc := hD.sub (ws' := (wX h0 a1 a2 a3 a4 a5 h6 s0 s1 s2 s3 t1 t2 t3 t4 t5)) [0, 1, 2, 3, 4, 5, 6, 7, 8, 9, 10] (by decide) rfl
  have hFc := va_free (wc := (wX h0 a1 a2 a3 a4 a5 h6 s0 s1 s2 s3 t1 t2 t3 t4 t5)) hD hS hA [0, 1, 2, 3, 4, 5, 6, 7, 8, 9, 10] rfl
  refine gX0 (isC := [0, 1, 2, 3, 4, 5, 6, 7, 8, 9, 10]) (isR := []) (wr := []) (vx_runV (As := [.int x0]) (rest := []) ⟨hx, hb, hml, hown, hta⟩ (c_X10_knownOrder l hl0) (cwV 1 hta (gWV mw16 mw17 mw18 mw10 mw15) rfl rfl rfl (by decide +kernel) ⟨Nat.le_of_ble_eq_true rfl, Nat.le_of_ble_eq_true rfl⟩) ⟨gS_blind, va_recv hKc hPc (ci := 15) (q0 := 0) rfl rfl, fun U hU hW => ⟨rfl, by rw [hU], by rw [hU]; exact hPc, va_K.moved hW.alike hKc, hDc.weaken (fun _ _ _ _ => trivial), hG.call hS hU hW hFc⟩⟩ rfl rfl hl.1 rfl (lv_room (Nat.le_of_ble_eq_true rfl)) dX10_scrap_2 ⟨Nat.le_of_ble_eq_true rfl, Nat.le_of_ble_eq_true rfl⟩) hP hD hS hFc rfl rfl (by decide) (by decide) (fun E9 ce q9 u2 H locs h3 hz9 hP hD hS hc9 hv9 hcl9 => ?_)
  exact vx_widen (k := 1) (n := 6) (Nat.le_of_ble_eq_true rfl) (Nat.le_of_ble_eq_true rfl) (vx_out (fun x hx9 => (hout x hx9).elim) hlocks hc9 hv9 hcl9 (fun t ht hv => ⟨u2, h3.1, h3.2, hS.F ht⟩) hS.2.2 (Nat.le_refl _) (Nat.le_refl _))

set_option maxHeartbeats 4000000 in
set_option maxRecDepth 100000 in
theorem c_X10_deliver (l : Launch) (hl0 : l.stackTraces = false) {D : va_G} {tE sz : Nat} {h0 a1 a2 a3 a4 a5 h6 s0 s1 s2 s3 : Nat} {t1 t2 t3 t4 t5 : ClassId} {x0 : Int32} : vx_Met l ⟨"Foundrymark", "deliver", "(I)Z"⟩ (wsC ⟨"Foundrymark", "deliver", "(I)Z"⟩ cX10_deliver 3 (some .boolean)) ({ frames := 7, cells := 1, slots := 6, locals := 120 }) (va_Pc [.ref h0, .int x0] (gS tE D (wX h0 a1 a2 a3 a4 a5 h6 s0 s1 s2 s3 t1 t2 t3 t4 t5) (tX t1 t2 t3 t4 t5) sz)) (fun _ _ _ _ => False) (vx_X (fun _ : Unit => True) (fun E9 _ _ => E9 = "java/lang/IndexOutOfBoundsException") (va_A (wX h0 a1 a2 a3 a4 a5 h6 s0 s1 s2 s3 t1 t2 t3 t4 t5) sz)) 1 6 (va_A (wX h0 a1 a2 a3 a4 a5 h6 s0 s1 s2 s3 t1 t2 t3 t4 t5) sz) := by
  refine vx_ofW (cc := cX10_deliver) (maxL := 3) (ret := (some .boolean)) (by decide) rfl ?_
  intro p e s m args below meth c s₁ B hml hout hv
  obtain ⟨rfl, hsz, hP, hK, hD0, hG⟩ := hv
  have hx := B.exec
  have hb := B.bytes
  have hr := B.returns
  have hlocks := B.notSynchronized
  have hts := atoms_spec (ws := wsC ⟨"Foundrymark", "deliver", "(I)Z"⟩ cX10_deliver 3 (some .boolean)) B.pre
  have hta : ∀ w ∈ WA, w.before _ s = true := fun w h => hts w (List.mem_cons_of_mem _ h)
  have hown : s.vm.findClass "Foundrymark" = some m.cls := findClass_of_methodNamed B.named
  subst hsz
  have hD : va_D (va_A (wX h0 a1 a2 a3 a4 a5 h6 s0 s1 s2 s3 t1 t2 t3 t4 t5) s.heap.size) (wX h0 a1 a2 a3 a4 a5 h6 s0 s1 s2 s3 t1 t2 t3 t4 t5) := hD0.self (sz := s.heap.size)
  generalize hAe : va_A (wX h0 a1 a2 a3 a4 a5 h6 s0 s1 s2 s3 t1 t2 t3 t4 t5) s.heap.size = A at hD hG ⊢
  have hA : ∀ q : Nat, s.heap.size ≤ q → A q := fun q h => by rw [← hAe]; exact Or.inr h
  have hS : va_S A s.heap s.heap [] := va_S.rf
  have hP : va_P D vwCl (wX h0 a1 a2 a3 a4 a5 h6 s0 s1 s2 s3 t1 t2 t3 t4 t5) s.heap := hP
  have hl := lv_entry ([.ref h0, .int x0]) (n := 3) (Nat.le_of_ble_eq_true rfl)
  rw [lg_entry_eq]
  generalize (lg_sl ([.ref h0, .int x0]) ++ List.replicate (3 - (lg_sl ([.ref h0, .int x0])).length) Slot.unset).toArray = ls at hl ⊢
  have hl : lv_has ls 3 [(0, .ref h0), (1, .int x0)] := hl
  refine lv_aload_n hx hb dX10_deliver_0 rfl (lv_at hl 0 rfl) ?_
  refine lv_iload_n hx hb dX10_deliver_1 rfl (lv_at hl 1 rfl) ?_
  have hPc := hP.sub (ws' := (wX h0 a1 a2 a3 a4 a5 h6 s0 s1 s2 s3 t1 t2 t3 t4 t5)) [0, 1, 2, 3, 4, 5, 6, 7, 8, 9, 10] rfl
  have hKc := hK.sub (tys' := (tX t1 t2 t3 t4 t5)) [0, 1, 2, 3, 4] rfl
  have hDc := hD.sub (ws' := (wX h0 a1 a2 a3 a4 a5 h6 s0 s1 s2 s3 t1 t2 t3 t4 t5)) [0, 1, 2, 3, 4, 5, 6, 7, 8, 9, 10] (by decide) rfl
  have hFc := va_free (wc := (wX h0 a1 a2 a3 a4 a5 h6 s0 s1 s2 s3 t1 t2 t3 t4 t5)) hD hS hA [0, 1, 2, 3, 4, 5, 6, 7, 8, 9, 10] rfl
  refine gX0 (isC := [0, 1, 2, 3, 4, 5, 6, 7, 8, 9, 10]) (isR := []) (wr := []) (vx_runV (As := [.int x0]) (rest := []) ⟨hx, hb, hml, hown, hta⟩ (c_X10_knownOrder l hl0) (cwV 1 hta (gWV mw16 mw17 mw18 mw10 mw15) rfl rfl rfl (by decide +kernel) ⟨Nat.le_of_ble_eq_true rfl, Nat.le_of_ble_eq_true rfl⟩) ⟨gS_blind, va_recv hKc hPc (ci := 15) (q0 := 0) rfl rfl, fun U hU hW => ⟨rfl, by rw [hU], by rw [hU]; exact hPc, va_K.moved hW.alike hKc, hDc.weaken (fun _ _ _ _ => trivial), hG.call hS hU hW hFc⟩⟩ rfl rfl hl.1 rfl (lv_room (Nat.le_of_ble_eq_true rfl)) dX10_deliver_2 ⟨Nat.le_of_ble_eq_true rfl, Nat.le_of_ble_eq_true rfl⟩) hP hD hS hFc rfl rfl (by decide) (by decide) (fun E9 ce q9 u2 H locs h3 hz9 hP hD hS hc9 hv9 hcl9 => ?_)
  exact vx_widen (k := 1) (n := 6) (Nat.le_of_ble_eq_true rfl) (Nat.le_of_ble_eq_true rfl) (vx_out (fun x hx9 => (hout x hx9).elim) hlocks hc9 hv9 hcl9 (fun t ht hv => ⟨u2, h3.1, h3.2, hS.F ht⟩) hS.2.2 (Nat.le_refl _) (Nat.le_refl _))

set_option maxHeartbeats 4000000 in
set_option maxRecDepth 100000 in
theorem c_X10_stateOf (l : Launch) (hl0 : l.stackTraces = false) {D : va_G} {tE sz : Nat} {h0 a1 a2 a3 a4 a5 h6 s0 s1 s2 s3 : Nat} {t1 t2 t3 t4 t5 : ClassId} {x0 : Int32} : vx_Met l ⟨"Foundrymark", "stateOf", "(I)C"⟩ (wsC ⟨"Foundrymark", "stateOf", "(I)C"⟩ cX10_stateOf 2 (some .char)) ({ frames := 7, cells := 1, slots := 6, locals := 120 }) (va_Pc [.ref h0, .int x0] (gS tE D (wX h0 a1 a2 a3 a4 a5 h6 s0 s1 s2 s3 t1 t2 t3 t4 t5) (tX t1 t2 t3 t4 t5) sz)) (fun _ _ _ _ => False) (vx_X (fun _ : Unit => True) (fun E9 _ _ => E9 = "java/lang/IndexOutOfBoundsException") (va_A (wX h0 a1 a2 a3 a4 a5 h6 s0 s1 s2 s3 t1 t2 t3 t4 t5) sz)) 1 6 (va_A (wX h0 a1 a2 a3 a4 a5 h6 s0 s1 s2 s3 t1 t2 t3 t4 t5) sz) := by
  refine vx_ofW (cc := cX10_stateOf) (maxL := 2) (ret := (some .char)) (by decide) rfl ?_
  intro p e s m args below meth c s₁ B hml hout hv
  obtain ⟨rfl, hsz, hP, hK, hD0, hG⟩ := hv
  have hx := B.exec
  have hb := B.bytes
  have hr := B.returns
  have hlocks := B.notSynchronized
  have hts := atoms_spec (ws := wsC ⟨"Foundrymark", "stateOf", "(I)C"⟩ cX10_stateOf 2 (some .char)) B.pre
  have hta : ∀ w ∈ WA, w.before _ s = true := fun w h => hts w (List.mem_cons_of_mem _ h)
  have hown : s.vm.findClass "Foundrymark" = some m.cls := findClass_of_methodNamed B.named
  subst hsz
  have hD : va_D (va_A (wX h0 a1 a2 a3 a4 a5 h6 s0 s1 s2 s3 t1 t2 t3 t4 t5) s.heap.size) (wX h0 a1 a2 a3 a4 a5 h6 s0 s1 s2 s3 t1 t2 t3 t4 t5) := hD0.self (sz := s.heap.size)
  generalize hAe : va_A (wX h0 a1 a2 a3 a4 a5 h6 s0 s1 s2 s3 t1 t2 t3 t4 t5) s.heap.size = A at hD hG ⊢
  have hA : ∀ q : Nat, s.heap.size ≤ q → A q := fun q h => by rw [← hAe]; exact Or.inr h
  have hS : va_S A s.heap s.heap [] := va_S.rf
  have hP : va_P D vwCl (wX h0 a1 a2 a3 a4 a5 h6 s0 s1 s2 s3 t1 t2 t3 t4 t5) s.heap := hP
  have hl := lv_entry ([.ref h0, .int x0]) (n := 2) (Nat.le_of_ble_eq_true rfl)
  rw [lg_entry_eq]
  generalize (lg_sl ([.ref h0, .int x0]) ++ List.replicate (2 - (lg_sl ([.ref h0, .int x0])).length) Slot.unset).toArray = ls at hl ⊢
  have hl : lv_has ls 2 [(0, .ref h0), (1, .int x0)] := hl
  refine lv_aload_n hx hb dX10_stateOf_0 rfl (lv_at hl 0 rfl) ?_
  refine lv_iload_n hx hb dX10_stateOf_1 rfl (lv_at hl 1 rfl) ?_
  have hPc := hP.sub (ws' := (wX h0 a1 a2 a3 a4 a5 h6 s0 s1 s2 s3 t1 t2 t3 t4 t5)) [0, 1, 2, 3, 4, 5, 6, 7, 8, 9, 10] rfl
  have hKc := hK.sub (tys' := (tX t1 t2 t3 t4 t5)) [0, 1, 2, 3, 4] rfl
  have hDc := hD.sub (ws' := (wX h0 a1 a2 a3 a4 a5 h6 s0 s1 s2 s3 t1 t2 t3 t4 t5)) [0, 1, 2, 3, 4, 5, 6, 7, 8, 9, 10] (by decide) rfl
  have hFc := va_free (wc := (wX h0 a1 a2 a3 a4 a5 h6 s0 s1 s2 s3 t1 t2 t3 t4 t5)) hD hS hA [0, 1, 2, 3, 4, 5, 6, 7, 8, 9, 10] rfl
  refine gX0 (isC := [0, 1, 2, 3, 4, 5, 6, 7, 8, 9, 10]) (isR := []) (wr := []) (vx_runV (As := [.int x0]) (rest := []) ⟨hx, hb, hml, hown, hta⟩ (c_X10_knownOrder l hl0) (cwV 1 hta (gWV mw16 mw17 mw18 mw10 mw15) rfl rfl rfl (by decide +kernel) ⟨Nat.le_of_ble_eq_true rfl, Nat.le_of_ble_eq_true rfl⟩) ⟨gS_blind, va_recv hKc hPc (ci := 15) (q0 := 0) rfl rfl, fun U hU hW => ⟨rfl, by rw [hU], by rw [hU]; exact hPc, va_K.moved hW.alike hKc, hDc.weaken (fun _ _ _ _ => trivial), hG.call hS hU hW hFc⟩⟩ rfl rfl hl.1 rfl (lv_room (Nat.le_of_ble_eq_true rfl)) dX10_stateOf_2 ⟨Nat.le_of_ble_eq_true rfl, Nat.le_of_ble_eq_true rfl⟩) hP hD hS hFc rfl rfl (by decide) (by decide) (fun E9 ce q9 u2 H locs h3 hz9 hP hD hS hc9 hv9 hcl9 => ?_)
  exact vx_widen (k := 1) (n := 6) (Nat.le_of_ble_eq_true rfl) (Nat.le_of_ble_eq_true rfl) (vx_out (fun x hx9 => (hout x hx9).elim) hlocks hc9 hv9 hcl9 (fun t ht hv => ⟨u2, h3.1, h3.2, hS.F ht⟩) hS.2.2 (Nat.le_refl _) (Nat.le_refl _))

set_option maxHeartbeats 4000000 in
set_option maxRecDepth 100000 in
theorem c_X10_lotOf (l : Launch) (hl0 : l.stackTraces = false) {D : va_G} {tE sz : Nat} {h0 a1 a2 a3 a4 a5 h6 s0 s1 s2 s3 : Nat} {t1 t2 t3 t4 t5 : ClassId} {x0 : Int32} : vx_Met l ⟨"Foundrymark", "lotOf", "(I)I"⟩ (wsC ⟨"Foundrymark", "lotOf", "(I)I"⟩ cX10_lotOf 4 (some .int)) ({ frames := 7, cells := 1, slots := 6, locals := 120 }) (va_Pc [.ref h0, .int x0] (gS tE D (wX h0 a1 a2 a3 a4 a5 h6 s0 s1 s2 s3 t1 t2 t3 t4 t5) (tX t1 t2 t3 t4 t5) sz)) (fun _ _ _ _ => False) (vx_X (fun _ : Unit => True) (fun E9 _ _ => E9 = "java/lang/IndexOutOfBoundsException") (va_A (wX h0 a1 a2 a3 a4 a5 h6 s0 s1 s2 s3 t1 t2 t3 t4 t5) sz)) 1 6 (va_A (wX h0 a1 a2 a3 a4 a5 h6 s0 s1 s2 s3 t1 t2 t3 t4 t5) sz) := by
  refine vx_ofW (cc := cX10_lotOf) (maxL := 4) (ret := (some .int)) (by decide) rfl ?_
  intro p e s m args below meth c s₁ B hml hout hv
  obtain ⟨rfl, hsz, hP, hK, hD0, hG⟩ := hv
  have hx := B.exec
  have hb := B.bytes
  have hr := B.returns
  have hlocks := B.notSynchronized
  have hts := atoms_spec (ws := wsC ⟨"Foundrymark", "lotOf", "(I)I"⟩ cX10_lotOf 4 (some .int)) B.pre
  have hta : ∀ w ∈ WA, w.before _ s = true := fun w h => hts w (List.mem_cons_of_mem _ h)
  have hown : s.vm.findClass "Foundrymark" = some m.cls := findClass_of_methodNamed B.named
  subst hsz
  have hD : va_D (va_A (wX h0 a1 a2 a3 a4 a5 h6 s0 s1 s2 s3 t1 t2 t3 t4 t5) s.heap.size) (wX h0 a1 a2 a3 a4 a5 h6 s0 s1 s2 s3 t1 t2 t3 t4 t5) := hD0.self (sz := s.heap.size)
  generalize hAe : va_A (wX h0 a1 a2 a3 a4 a5 h6 s0 s1 s2 s3 t1 t2 t3 t4 t5) s.heap.size = A at hD hG ⊢
  have hA : ∀ q : Nat, s.heap.size ≤ q → A q := fun q h => by rw [← hAe]; exact Or.inr h
  have hS : va_S A s.heap s.heap [] := va_S.rf
  have hP : va_P D vwCl (wX h0 a1 a2 a3 a4 a5 h6 s0 s1 s2 s3 t1 t2 t3 t4 t5) s.heap := hP
  have hl := lv_entry ([.ref h0, .int x0]) (n := 4) (Nat.le_of_ble_eq_true rfl)
  rw [lg_entry_eq]
  generalize (lg_sl ([.ref h0, .int x0]) ++ List.replicate (4 - (lg_sl ([.ref h0, .int x0])).length) Slot.unset).toArray = ls at hl ⊢
  have hl : lv_has ls 4 [(0, .ref h0), (1, .int x0)] := hl
  refine lv_aload_n hx hb dX10_lotOf_0 rfl (lv_at hl 0 rfl) ?_
  refine lv_iload_n hx hb dX10_lotOf_1 rfl (lv_at hl 1 rfl) ?_
  have hPc := hP.sub (ws' := (wX h0 a1 a2 a3 a4 a5 h6 s0 s1 s2 s3 t1 t2 t3 t4 t5)) [0, 1, 2, 3, 4, 5, 6, 7, 8, 9, 10] rfl
  have hKc := hK.sub (tys' := (tX t1 t2 t3 t4 t5)) [0, 1, 2, 3, 4] rfl
  have hDc := hD.sub (ws' := (wX h0 a1 a2 a3 a4 a5 h6 s0 s1 s2 s3 t1 t2 t3 t4 t5)) [0, 1, 2, 3, 4, 5, 6, 7, 8, 9, 10] (by decide) rfl
  have hFc := va_free (wc := (wX h0 a1 a2 a3 a4 a5 h6 s0 s1 s2 s3 t1 t2 t3 t4 t5)) hD hS hA [0, 1, 2, 3, 4, 5, 6, 7, 8, 9, 10] rfl
  refine gX0 (isC := [0, 1, 2, 3, 4, 5, 6, 7, 8, 9, 10]) (isR := []) (wr := []) (vx_runV (As := [.int x0]) (rest := []) ⟨hx, hb, hml, hown, hta⟩ (c_X10_knownOrder l hl0) (cwV 1 hta (gWV mw16 mw17 mw18 mw10 mw15) rfl rfl rfl (by decide +kernel) ⟨Nat.le_of_ble_eq_true rfl, Nat.le_of_ble_eq_true rfl⟩) ⟨gS_blind, va_recv hKc hPc (ci := 15) (q0 := 0) rfl rfl, fun U hU hW => ⟨rfl, by rw [hU], by rw [hU]; exact hPc, va_K.moved hW.alike hKc, hDc.weaken (fun _ _ _ _ => trivial), hG.call hS hU hW hFc⟩⟩ rfl rfl hl.1 rfl (lv_room (Nat.le_of_ble_eq_true rfl)) dX10_lotOf_2 ⟨Nat.le_of_ble_eq_true rfl, Nat.le_of_ble_eq_true rfl⟩) hP hD hS hFc rfl rfl (by decide) (by decide) (fun E9 ce q9 u2 H locs h3 hz9 hP hD hS hc9 hv9 hcl9 => ?_)
  exact vx_widen (k := 1) (n := 6) (Nat.le_of_ble_eq_true rfl) (Nat.le_of_ble_eq_true rfl) (vx_out (fun x hx9 => (hout x hx9).elim) hlocks hc9 hv9 hcl9 (fun t ht hv => ⟨u2, h3.1, h3.2, hS.F ht⟩) hS.2.2 (Nat.le_refl _) (Nat.le_refl _))

set_option maxHeartbeats 4000000 in
set_option maxRecDepth 100000 in
theorem c_X10_finishedAt (l : Launch) (hl0 : l.stackTraces = false) {D : va_G} {tE sz : Nat} {h0 a1 a2 a3 a4 a5 h6 s0 s1 s2 s3 : Nat} {t1 t2 t3 t4 t5 : ClassId} {x0 : Int32} : vx_Met l ⟨"Foundrymark", "finishedAt", "(I)I"⟩ (wsC ⟨"Foundrymark", "finishedAt", "(I)I"⟩ cX10_finishedAt 3 (some .int)) ({ frames := 7, cells := 1, slots := 6, locals := 120 }) (va_Pc [.ref h0, .int x0] (gS tE D (wX h0 a1 a2 a3 a4 a5 h6 s0 s1 s2 s3 t1 t2 t3 t4 t5) (tX t1 t2 t3 t4 t5) sz)) (fun _ _ _ _ => False) (vx_X (fun _ : Unit => True) (fun E9 _ _ => E9 = "java/lang/IndexOutOfBoundsException") (va_A (wX h0 a1 a2 a3 a4 a5 h6 s0 s1 s2 s3 t1 t2 t3 t4 t5) sz)) 1 6 (va_A (wX h0 a1 a2 a3 a4 a5 h6 s0 s1 s2 s3 t1 t2 t3 t4 t5) sz) := by
  refine vx_ofW (cc := cX10_finishedAt) (maxL := 3) (ret := (some .int)) (by decide) rfl ?_
  intro p e s m args below meth c s₁ B hml hout hv
  obtain ⟨rfl, hsz, hP, hK, hD0, hG⟩ := hv
  have hx := B.exec
  have hb := B.bytes
  have hr := B.returns
  have hlocks := B.notSynchronized
  have hts := atoms_spec (ws := wsC ⟨"Foundrymark", "finishedAt", "(I)I"⟩ cX10_finishedAt 3 (some .int)) B.pre
  have hta : ∀ w ∈ WA, w.before _ s = true := fun w h => hts w (List.mem_cons_of_mem _ h)
  have hown : s.vm.findClass "Foundrymark" = some m.cls := findClass_of_methodNamed B.named
  subst hsz
  have hD : va_D (va_A (wX h0 a1 a2 a3 a4 a5 h6 s0 s1 s2 s3 t1 t2 t3 t4 t5) s.heap.size) (wX h0 a1 a2 a3 a4 a5 h6 s0 s1 s2 s3 t1 t2 t3 t4 t5) := hD0.self (sz := s.heap.size)
  generalize hAe : va_A (wX h0 a1 a2 a3 a4 a5 h6 s0 s1 s2 s3 t1 t2 t3 t4 t5) s.heap.size = A at hD hG ⊢
  have hA : ∀ q : Nat, s.heap.size ≤ q → A q := fun q h => by rw [← hAe]; exact Or.inr h
  have hS : va_S A s.heap s.heap [] := va_S.rf
  have hP : va_P D vwCl (wX h0 a1 a2 a3 a4 a5 h6 s0 s1 s2 s3 t1 t2 t3 t4 t5) s.heap := hP
  have hl := lv_entry ([.ref h0, .int x0]) (n := 3) (Nat.le_of_ble_eq_true rfl)
  rw [lg_entry_eq]
  generalize (lg_sl ([.ref h0, .int x0]) ++ List.replicate (3 - (lg_sl ([.ref h0, .int x0])).length) Slot.unset).toArray = ls at hl ⊢
  have hl : lv_has ls 3 [(0, .ref h0), (1, .int x0)] := hl
  refine lv_aload_n hx hb dX10_finishedAt_0 rfl (lv_at hl 0 rfl) ?_
  refine lv_iload_n hx hb dX10_finishedAt_1 rfl (lv_at hl 1 rfl) ?_
  have hPc := hP.sub (ws' := (wX h0 a1 a2 a3 a4 a5 h6 s0 s1 s2 s3 t1 t2 t3 t4 t5)) [0, 1, 2, 3, 4, 5, 6, 7, 8, 9, 10] rfl
  have hKc := hK.sub (tys' := (tX t1 t2 t3 t4 t5)) [0, 1, 2, 3, 4] rfl
  have hDc := hD.sub (ws' := (wX h0 a1 a2 a3 a4 a5 h6 s0 s1 s2 s3 t1 t2 t3 t4 t5)) [0, 1, 2, 3, 4, 5, 6, 7, 8, 9, 10] (by decide) rfl
  have hFc := va_free (wc := (wX h0 a1 a2 a3 a4 a5 h6 s0 s1 s2 s3 t1 t2 t3 t4 t5)) hD hS hA [0, 1, 2, 3, 4, 5, 6, 7, 8, 9, 10] rfl
  refine gX0 (isC := [0, 1, 2, 3, 4, 5, 6, 7, 8, 9, 10]) (isR := []) (wr := []) (vx_runV (As := [.int x0]) (rest := []) ⟨hx, hb, hml, hown, hta⟩ (c_X10_knownOrder l hl0) (cwV 1 hta (gWV mw16 mw17 mw18 mw10 mw15) rfl rfl rfl (by decide +kernel) ⟨Nat.le_of_ble_eq_true rfl, Nat.le_of_ble_eq_true rfl⟩) ⟨gS_blind, va_recv hKc hPc (ci := 15) (q0 := 0) rfl rfl, fun U hU hW => ⟨rfl, by rw [hU], by rw [hU]; exact hPc, va_K.moved hW.alike hKc, hDc.weaken (fun _ _ _ _ => trivial), hG.call hS hU hW hFc⟩⟩ rfl rfl hl.1 rfl (lv_room (Nat.le_of_ble_eq_true rfl)) dX10_finishedAt_2 ⟨Nat.le_of_ble_eq_true rfl, Nat.le_of_ble_eq_true rfl⟩) hP hD hS hFc rfl rfl (by decide) (by decide) (fun E9 ce q9 u2 H locs h3 hz9 hP hD hS hc9 hv9 hcl9 => ?_)
  exact vx_widen (k := 1) (n := 6) (Nat.le_of_ble_eq_true rfl) (Nat.le_of_ble_eq_true rfl) (vx_out (fun x hx9 => (hout x hx9).elim) hlocks hc9 hv9 hcl9 (fun t ht hv => ⟨u2, h3.1, h3.2, hS.F ht⟩) hS.2.2 (Nat.le_refl _) (Nat.le_refl _))

set_option maxHeartbeats 4000000 in
set_option maxRecDepth 100000 in
theorem c_X10_machineIs (l : Launch) (hl0 : l.stackTraces = false) {D : va_G} {tE sz : Nat} {h0 a1 a2 a3 a4 a5 h6 s0 s1 s2 s3 : Nat} {t1 t2 t3 t4 t5 : ClassId} {x0 : Int32} : vx_Met l ⟨"Foundrymark", "machineIs", "(I)C"⟩ (wsC ⟨"Foundrymark", "machineIs", "(I)C"⟩ cX10_machineIs 2 (some .char)) ({ frames := 7, cells := 1, slots := 6, locals := 120 }) (va_Pc [.ref h0, .int x0] (gS tE D (wX h0 a1 a2 a3 a4 a5 h6 s0 s1 s2 s3 t1 t2 t3 t4 t5) (tX t1 t2 t3 t4 t5) sz)) (fun _ _ _ _ => False) (vx_X (fun _ : Unit => True) (fun E9 _ _ => E9 = "java/lang/IndexOutOfBoundsException") (va_A (wX h0 a1 a2 a3 a4 a5 h6 s0 s1 s2 s3 t1 t2 t3 t4 t5) sz)) 1 6 (va_A (wX h0 a1 a2 a3 a4 a5 h6 s0 s1 s2 s3 t1 t2 t3 t4 t5) sz) := by
  refine vx_ofW (cc := cX10_machineIs) (maxL := 2) (ret := (some .char)) (by decide) rfl ?_
  intro p e s m args below meth c s₁ B hml hout hv
  obtain ⟨rfl, hsz, hP, hK, hD0, hG⟩ := hv
  have hx := B.exec
  have hb := B.bytes
  have hr := B.returns
  have hlocks := B.notSynchronized
  have hts := atoms_spec (ws := wsC ⟨"Foundrymark", "machineIs", "(I)C"⟩ cX10_machineIs 2 (some .char)) B.pre
  have hta : ∀ w ∈ WA, w.before _ s = true := fun w h => hts w (List.mem_cons_of_mem _ h)
  have hown : s.vm.findClass "Foundrymark" = some m.cls := findClass_of_methodNamed B.named
  subst hsz
  have hD : va_D (va_A (wX h0 a1 a2 a3 a4 a5 h6 s0 s1 s2 s3 t1 t2 t3 t4 t5) s.heap.size) (wX h0 a1 a2 a3 a4 a5 h6 s0 s1 s2 s3 t1 t2 t3 t4 t5) := hD0.self (sz := s.heap.size)
  generalize hAe : va_A (wX h0 a1 a2 a3 a4 a5 h6 s0 s1 s2 s3 t1 t2 t3 t4 t5) s.heap.size = A at hD hG ⊢
  have hA : ∀ q : Nat, s.heap.size ≤ q → A q := fun q h => by rw [← hAe]; exact Or.inr h
  have hS : va_S A s.heap s.heap [] := va_S.rf
  have hP : va_P D vwCl (wX h0 a1 a2 a3 a4 a5 h6 s0 s1 s2 s3 t1 t2 t3 t4 t5) s.heap := hP
  have hl := lv_entry ([.ref h0, .int x0]) (n := 2) (Nat.le_of_ble_eq_true rfl)
  rw [lg_entry_eq]
  generalize (lg_sl ([.ref h0, .int x0]) ++ List.replicate (2 - (lg_sl ([.ref h0, .int x0])).length) Slot.unset).toArray = ls at hl ⊢
  have hl : lv_has ls 2 [(0, .ref h0), (1, .int x0)] := hl
  refine lv_aload_n hx hb dX10_machineIs_0 rfl (lv_at hl 0 rfl) ?_
  refine lv_iload_n hx hb dX10_machineIs_1 rfl (lv_at hl 1 rfl) ?_
  have hPc := hP.sub (ws' := (wX h0 a1 a2 a3 a4 a5 h6 s0 s1 s2 s3 t1 t2 t3 t4 t5)) [0, 1, 2, 3, 4, 5, 6, 7, 8, 9, 10] rfl
  have hKc := hK.sub (tys' := (tX t1 t2 t3 t4 t5)) [0, 1, 2, 3, 4] rfl
  have hDc := hD.sub (ws' := (wX h0 a1 a2 a3 a4 a5 h6 s0 s1 s2 s3 t1 t2 t3 t4 t5)) [0, 1, 2, 3, 4, 5, 6, 7, 8, 9, 10] (by decide) rfl
  have hFc := va_free (wc := (wX h0 a1 a2 a3 a4 a5 h6 s0 s1 s2 s3 t1 t2 t3 t4 t5)) hD hS hA [0, 1, 2, 3, 4, 5, 6, 7, 8, 9, 10] rfl
  refine gX0 (isC := [0, 1, 2, 3, 4, 5, 6, 7, 8, 9, 10]) (isR := []) (wr := []) (vx_runV (As := [.int x0]) (rest := []) ⟨hx, hb, hml, hown, hta⟩ (c_X10_knownMachine l hl0) (cwV 1 hta (gWV mw20 mw21 mw22 mw10 mw19) rfl rfl rfl (by decide +kernel) ⟨Nat.le_of_ble_eq_true rfl, Nat.le_of_ble_eq_true rfl⟩) ⟨gS_blind, va_recv hKc hPc (ci := 15) (q0 := 0) rfl rfl, fun U hU hW => ⟨rfl, by rw [hU], by rw [hU]; exact hPc, va_K.moved hW.alike hKc, hDc.weaken (fun _ _ _ _ => trivial), hG.call hS hU hW hFc⟩⟩ rfl rfl hl.1 rfl (lv_room (Nat.le_of_ble_eq_true rfl)) dX10_machineIs_2 ⟨Nat.le_of_ble_eq_true rfl, Nat.le_of_ble_eq_true rfl⟩) hP hD hS hFc rfl rfl (by decide) (by decide) (fun E9 ce q9 u2 H locs h3 hz9 hP hD hS hc9 hv9 hcl9 => ?_)
  exact vx_widen (k := 1) (n := 6) (Nat.le_of_ble_eq_true rfl) (Nat.le_of_ble_eq_true rfl) (vx_out (fun x hx9 => (hout x hx9).elim) hlocks hc9 hv9 hcl9 (fun t ht hv => ⟨u2, h3.1, h3.2, hS.F ht⟩) hS.2.2 (Nat.le_refl _) (Nat.le_refl _))

set_option maxHeartbeats 4000000 in
set_option maxRecDepth 100000 in
theorem c_X10_wear (l : Launch) (hl0 : l.stackTraces = false) {D : va_G} {tE sz : Nat} {h0 a1 a2 a3 a4 a5 h6 s0 s1 s2 s3 : Nat} {t1 t2 t3 t4 t5 : ClassId} {x0 : Int32} : vx_Met l ⟨"Foundrymark", "wear", "(I)I"⟩ (wsC ⟨"Foundrymark", "wear", "(I)I"⟩ cX10_wear 2 (some .int)) ({ frames := 7, cells := 1, slots := 6, locals := 120 }) (va_Pc [.ref h0, .int x0] (gS tE D (wX h0 a1 a2 a3 a4 a5 h6 s0 s1 s2 s3 t1 t2 t3 t4 t5) (tX t1 t2 t3 t4 t5) sz)) (fun _ _ _ _ => False) (vx_X (fun _ : Unit => True) (fun E9 _ _ => E9 = "java/lang/IndexOutOfBoundsException") (va_A (wX h0 a1 a2 a3 a4 a5 h6 s0 s1 s2 s3 t1 t2 t3 t4 t5) sz)) 1 6 (va_A (wX h0 a1 a2 a3 a4 a5 h6 s0 s1 s2 s3 t1 t2 t3 t4 t5) sz) := by
  refine vx_ofW (cc := cX10_wear) (maxL := 2) (ret := (some .int)) (by decide) rfl ?_
  intro p e s m args below meth c s₁ B hml hout hv
  obtain ⟨rfl, hsz, hP, hK, hD0, hG⟩ := hv
  have hx := B.exec
  have hb := B.bytes
  have hr := B.returns
  have hlocks := B.notSynchronized
  have hts := atoms_spec (ws := wsC ⟨"Foundrymark", "wear", "(I)I"⟩ cX10_wear 2 (some .int)) B.pre
  have hta : ∀ w ∈ WA, w.before _ s = true := fun w h => hts w (List.mem_cons_of_mem _ h)
  have hown : s.vm.findClass "Foundrymark" = some m.cls := findClass_of_methodNamed B.named
  subst hsz
  have hD : va_D (va_A (wX h0 a1 a2 a3 a4 a5 h6 s0 s1 s2 s3 t1 t2 t3 t4 t5) s.heap.size) (wX h0 a1 a2 a3 a4 a5 h6 s0 s1 s2 s3 t1 t2 t3 t4 t5) := hD0.self (sz := s.heap.size)
  generalize hAe : va_A (wX h0 a1 a2 a3 a4 a5 h6 s0 s1 s2 s3 t1 t2 t3 t4 t5) s.heap.size = A at hD hG ⊢
  have hA : ∀ q : Nat, s.heap.size ≤ q → A q := fun q h => by rw [← hAe]; exact Or.inr h
  have hS : va_S A s.heap s.heap [] := va_S.rf
  have hP : va_P D vwCl (wX h0 a1 a2 a3 a4 a5 h6 s0 s1 s2 s3 t1 t2 t3 t4 t5) s.heap := hP
  have hl := lv_entry ([.ref h0, .int x0]) (n := 2) (Nat.le_of_ble_eq_true rfl)
  rw [lg_entry_eq]
  generalize (lg_sl ([.ref h0, .int x0]) ++ List.replicate (2 - (lg_sl ([.ref h0, .int x0])).length) Slot.unset).toArray = ls at hl ⊢
  have hl : lv_has ls 2 [(0, .ref h0), (1, .int x0)] := hl
  refine lv_aload_n hx hb dX10_wear_0 rfl (lv_at hl 0 rfl) ?_
  refine lv_iload_n hx hb dX10_wear_1 rfl (lv_at hl 1 rfl) ?_
  have hPc := hP.sub (ws' := (wX h0 a1 a2 a3 a4 a5 h6 s0 s1 s2 s3 t1 t2 t3 t4 t5)) [0, 1, 2, 3, 4, 5, 6, 7, 8, 9, 10] rfl
  have hKc := hK.sub (tys' := (tX t1 t2 t3 t4 t5)) [0, 1, 2, 3, 4] rfl
  have hDc := hD.sub (ws' := (wX h0 a1 a2 a3 a4 a5 h6 s0 s1 s2 s3 t1 t2 t3 t4 t5)) [0, 1, 2, 3, 4, 5, 6, 7, 8, 9, 10] (by decide) rfl
  have hFc := va_free (wc := (wX h0 a1 a2 a3 a4 a5 h6 s0 s1 s2 s3 t1 t2 t3 t4 t5)) hD hS hA [0, 1, 2, 3, 4, 5, 6, 7, 8, 9, 10] rfl
  refine gX0 (isC := [0, 1, 2, 3, 4, 5, 6, 7, 8, 9, 10]) (isR := []) (wr := []) (vx_runV (As := [.int x0]) (rest := []) ⟨hx, hb, hml, hown, hta⟩ (c_X10_knownMachine l hl0) (cwV 1 hta (gWV mw20 mw21 mw22 mw10 mw19) rfl rfl rfl (by decide +kernel) ⟨Nat.le_of_ble_eq_true rfl, Nat.le_of_ble_eq_true rfl⟩) ⟨gS_blind, va_recv hKc hPc (ci := 15) (q0 := 0) rfl rfl, fun U hU hW => ⟨rfl, by rw [hU], by rw [hU]; exact hPc, va_K.moved hW.alike hKc, hDc.weaken (fun _ _ _ _ => trivial), hG.call hS hU hW hFc⟩⟩ rfl rfl hl.1 rfl (lv_room (Nat.le_of_ble_eq_true rfl)) dX10_wear_2 ⟨Nat.le_of_ble_eq_true rfl, Nat.le_of_ble_eq_true rfl⟩) hP hD hS hFc rfl rfl (by decide) (by decide) (fun E9 ce q9 u2 H locs h3 hz9 hP hD hS hc9 hv9 hcl9 => ?_)
  exact vx_widen (k := 1) (n := 6) (Nat.le_of_ble_eq_true rfl) (Nat.le_of_ble_eq_true rfl) (vx_out (fun x hx9 => (hout x hx9).elim) hlocks hc9 hv9 hcl9 (fun t ht hv => ⟨u2, h3.1, h3.2, hS.F ht⟩) hS.2.2 (Nat.le_refl _) (Nat.le_refl _))

set_option maxHeartbeats 4000000 in
set_option maxRecDepth 100000 in
theorem c_X10_waiting (l : Launch) (hl0 : l.stackTraces = false) {D : va_G} {tE sz : Nat} {h0 a1 a2 a3 a4 a5 h6 s0 s1 s2 s3 : Nat} {t1 t2 t3 t4 t5 : ClassId} {x0 : Int32} : vx_Met l ⟨"Foundrymark", "waiting", "(I)I"⟩ (wsC ⟨"Foundrymark", "waiting", "(I)I"⟩ cX10_waiting 2 (some .int)) ({ frames := 7, cells := 1, slots := 6, locals := 120 }) (va_Pc [.ref h0, .int x0] (gS tE D (wX h0 a1 a2 a3 a4 a5 h6 s0 s1 s2 s3 t1 t2 t3 t4 t5) (tX t1 t2 t3 t4 t5) sz)) (fun _ _ _ _ => False) (vx_X (fun _ : Unit => True) (fun E9 _ _ => E9 = "java/lang/IndexOutOfBoundsException") (va_A (wX h0 a1 a2 a3 a4 a5 h6 s0 s1 s2 s3 t1 t2 t3 t4 t5) sz)) 1 6 (va_A (wX h0 a1 a2 a3 a4 a5 h6 s0 s1 s2 s3 t1 t2 t3 t4 t5) sz) := by
  refine vx_ofW (cc := cX10_waiting) (maxL := 2) (ret := (some .int)) (by decide) rfl ?_
  intro p e s m args below meth c s₁ B hml hout hv
  obtain ⟨rfl, hsz, hP, hK, hD0, hG⟩ := hv
  have hx := B.exec
  have hb := B.bytes
  have hr := B.returns
  have hlocks := B.notSynchronized
  have hts := atoms_spec (ws := wsC ⟨"Foundrymark", "waiting", "(I)I"⟩ cX10_waiting 2 (some .int)) B.pre
  have hta : ∀ w ∈ WA, w.before _ s = true := fun w h => hts w (List.mem_cons_of_mem _ h)
  have hown : s.vm.findClass "Foundrymark" = some m.cls := findClass_of_methodNamed B.named
  subst hsz
  have hD : va_D (va_A (wX h0 a1 a2 a3 a4 a5 h6 s0 s1 s2 s3 t1 t2 t3 t4 t5) s.heap.size) (wX h0 a1 a2 a3 a4 a5 h6 s0 s1 s2 s3 t1 t2 t3 t4 t5) := hD0.self (sz := s.heap.size)
  generalize hAe : va_A (wX h0 a1 a2 a3 a4 a5 h6 s0 s1 s2 s3 t1 t2 t3 t4 t5) s.heap.size = A at hD hG ⊢
  have hA : ∀ q : Nat, s.heap.size ≤ q → A q := fun q h => by rw [← hAe]; exact Or.inr h
  have hS : va_S A s.heap s.heap [] := va_S.rf
  have hP : va_P D vwCl (wX h0 a1 a2 a3 a4 a5 h6 s0 s1 s2 s3 t1 t2 t3 t4 t5) s.heap := hP
  have hl := lv_entry ([.ref h0, .int x0]) (n := 2) (Nat.le_of_ble_eq_true rfl)
  rw [lg_entry_eq]
  generalize (lg_sl ([.ref h0, .int x0]) ++ List.replicate (2 - (lg_sl ([.ref h0, .int x0])).length) Slot.unset).toArray = ls at hl ⊢
  have hl : lv_has ls 2 [(0, .ref h0), (1, .int x0)] := hl
  refine lv_aload_n hx hb dX10_waiting_0 rfl (lv_at hl 0 rfl) ?_
  refine lv_aload_n hx hb dX10_waiting_1 rfl (lv_at hl 0 rfl) ?_
  refine lv_iload_n hx hb dX10_waiting_2 rfl (lv_at hl 1 rfl) ?_
  have hPc := hP.sub (ws' := (wX h0 a1 a2 a3 a4 a5 h6 s0 s1 s2 s3 t1 t2 t3 t4 t5)) [0, 1, 2, 3, 4, 5, 6, 7, 8, 9, 10] rfl
  have hKc := hK.sub (tys' := (tX t1 t2 t3 t4 t5)) [0, 1, 2, 3, 4] rfl
  have hDc := hD.sub (ws' := (wX h0 a1 a2 a3 a4 a5 h6 s0 s1 s2 s3 t1 t2 t3 t4 t5)) [0, 1, 2, 3, 4, 5, 6, 7, 8, 9, 10] (by decide) rfl
  have hFc := va_free (wc := (wX h0 a1 a2 a3 a4 a5 h6 s0 s1 s2 s3 t1 t2 t3 t4 t5)) hD hS hA [0, 1, 2, 3, 4, 5, 6, 7, 8, 9, 10] rfl
  refine gX0 (isC := [0, 1, 2, 3, 4, 5, 6, 7, 8, 9, 10]) (isR := []) (wr := []) (vx_runV (As := [.int x0]) (rest := [.ref h0]) ⟨hx, hb, hml, hown, hta⟩ (c_X10_knownMachine l hl0) (cwV 1 hta (gWV mw20 mw21 mw22 mw10 mw19) rfl rfl rfl (by decide +kernel) ⟨Nat.le_of_ble_eq_true rfl, Nat.le_of_ble_eq_true rfl⟩) ⟨gS_blind, va_recv hKc hPc (ci := 15) (q0 := 0) rfl rfl, fun U hU hW => ⟨rfl, by rw [hU], by rw [hU]; exact hPc, va_K.moved hW.alike hKc, hDc.weaken (fun _ _ _ _ => trivial), hG.call hS hU hW hFc⟩⟩ rfl rfl hl.1 rfl (lv_room (Nat.le_of_ble_eq_true rfl)) dX10_waiting_3 ⟨Nat.le_of_ble_eq_true rfl, Nat.le_of_ble_eq_true rfl⟩) hP hD hS hFc rfl rfl (by decide) (by decide) (fun E9 ce q9 u2 H locs h3 hz9 hP hD hS hc9 hv9 hcl9 => ?_)
  exact vx_widen (k := 1) (n := 6) (Nat.le_of_ble_eq_true rfl) (Nat.le_of_ble_eq_true rfl) (vx_out (fun x hx9 => (hout x hx9).elim) hlocks hc9 hv9 hcl9 (fun t ht hv => ⟨u2, h3.1, h3.2, hS.F ht⟩) hS.2.2 (Nat.le_refl _) (Nat.le_refl _))

set_option maxHeartbeats 4000000 in
set_option maxRecDepth 100000 in
theorem c_X10_isIn (l : Launch) (hl0 : l.stackTraces = false) {D : va_G} {tE sz : Nat} {h0 a1 a2 a3 a4 a5 h6 s0 s1 s2 s3 : Nat} {t1 t2 t3 t4 t5 : ClassId} {x0 x1 : Int32} : vx_Met l ⟨"Foundrymark", "isIn", "(II)Z"⟩ (wsC ⟨"Foundrymark", "isIn", "(II)Z"⟩ cX10_isIn 5 (some .boolean)) ({ frames := 7, cells := 1, slots := 6, locals := 120 }) (va_Pc [.ref h0, .int x0, .int x1] (gS tE D (wX h0 a1 a2 a3 a4 a5 h6 s0 s1 s2 s3 t1 t2 t3 t4 t5) (tX t1 t2 t3 t4 t5) sz)) (fun _ _ _ _ => False) (vx_X (fun _ : Unit => True) (fun E9 _ _ => E9 = "java/lang/IndexOutOfBoundsException") (va_A (wX h0 a1 a2 a3 a4 a5 h6 s0 s1 s2 s3 t1 t2 t3 t4 t5) sz)) 1 6 (va_A (wX h0 a1 a2 a3 a4 a5 h6 s0 s1 s2 s3 t1 t2 t3 t4 t5) sz) := by
  refine vx_ofW (cc := cX10_isIn) (maxL := 5) (ret := (some .boolean)) (by decide) rfl ?_
  intro p e s m args below meth c s₁ B hml hout hv
  obtain ⟨rfl, hsz, hP, hK, hD0, hG⟩ := hv
  have hx := B.exec
  have hb := B.bytes
  have hr := B.returns
  have hlocks := B.notSynchronized
  have hts := atoms_spec (ws := wsC ⟨"Foundrymark", "isIn", "(II)Z"⟩ cX10_isIn 5 (some .boolean)) B.pre
  have hta : ∀ w ∈ WA, w.before _ s = true := fun w h => hts w (List.mem_cons_of_mem _ h)
  have hown : s.vm.findClass "Foundrymark" = some m.cls := findClass_of_methodNamed B.named
  subst hsz
  have hD : va_D (va_A (wX h0 a1 a2 a3 a4 a5 h6 s0 s1 s2 s3 t1 t2 t3 t4 t5) s.heap.size) (wX h0 a1 a2 a3 a4 a5 h6 s0 s1 s2 s3 t1 t2 t3 t4 t5) := hD0.self (sz := s.heap.size)
  generalize hAe : va_A (wX h0 a1 a2 a3 a4 a5 h6 s0 s1 s2 s3 t1 t2 t3 t4 t5) s.heap.size = A at hD hG ⊢
  have hA : ∀ q : Nat, s.heap.size ≤ q → A q := fun q h => by rw [← hAe]; exact Or.inr h
  have hS : va_S A s.heap s.heap [] := va_S.rf
  have hP : va_P D vwCl (wX h0 a1 a2 a3 a4 a5 h6 s0 s1 s2 s3 t1 t2 t3 t4 t5) s.heap := hP
  have hl := lv_entry ([.ref h0, .int x0, .int x1]) (n := 5) (Nat.le_of_ble_eq_true rfl)
  rw [lg_entry_eq]
  generalize (lg_sl ([.ref h0, .int x0, .int x1]) ++ List.replicate (5 - (lg_sl ([.ref h0, .int x0, .int x1])).length) Slot.unset).toArray = ls at hl ⊢
  have hl : lv_has ls 5 [(0, .ref h0), (1, .int x0), (2, .int x1)] := hl
  refine lv_aload_n hx hb dX10_isIn_0 rfl (lv_at hl 0 rfl) ?_
  refine lv_iload_n hx hb dX10_isIn_1 rfl (lv_at hl 1 rfl) ?_
  have hPc := hP.sub (ws' := (wX h0 a1 a2 a3 a4 a5 h6 s0 s1 s2 s3 t1 t2 t3 t4 t5)) [0, 1, 2, 3, 4, 5, 6, 7, 8, 9, 10] rfl
  have hKc := hK.sub (tys' := (tX t1 t2 t3 t4 t5)) [0, 1, 2, 3, 4] rfl
  have hDc := hD.sub (ws' := (wX h0 a1 a2 a3 a4 a5 h6 s0 s1 s2 s3 t1 t2 t3 t4 t5)) [0, 1, 2, 3, 4, 5, 6, 7, 8, 9, 10] (by decide) rfl
  have hFc := va_free (wc := (wX h0 a1 a2 a3 a4 a5 h6 s0 s1 s2 s3 t1 t2 t3 t4 t5)) hD hS hA [0, 1, 2, 3, 4, 5, 6, 7, 8, 9, 10] rfl
  refine gX0 (isC := [0, 1, 2, 3, 4, 5, 6, 7, 8, 9, 10]) (isR := []) (wr := []) (vx_runV (As := [.int x0]) (rest := []) ⟨hx, hb, hml, hown, hta⟩ (c_X10_knownLot l hl0) (cwV 1 hta (gWV mw12 mw13 mw14 mw10 mw11) rfl rfl rfl (by decide +kernel) ⟨Nat.le_of_ble_eq_true rfl, Nat.le_of_ble_eq_true rfl⟩) ⟨gS_blind, va_recv hKc hPc (ci := 15) (q0 := 0) rfl rfl, fun U hU hW => ⟨rfl, by rw [hU], by rw [hU]; exact hPc, va_K.moved hW.alike hKc, hDc.weaken (fun _ _ _ _ => trivial), hG.call hS hU hW hFc⟩⟩ rfl rfl hl.1 rfl (lv_room (Nat.le_of_ble_eq_true rfl)) dX10_isIn_2 ⟨Nat.le_of_ble_eq_true rfl, Nat.le_of_ble_eq_true rfl⟩) hP hD hS hFc rfl rfl (by decide) (by decide) (fun E9 ce q9 u2 H locs h3 hz9 hP hD hS hc9 hv9 hcl9 => ?_)
  exact vx_widen (k := 1) (n := 6) (Nat.le_of_ble_eq_true rfl) (Nat.le_of_ble_eq_true rfl) (vx_out (fun x hx9 => (hout x hx9).elim) hlocks hc9 hv9 hcl9 (fun t ht hv => ⟨u2, h3.1, h3.2, hS.F ht⟩) hS.2.2 (Nat.le_refl _) (Nat.le_refl _))

set_option maxHeartbeats 4000000 in
set_option maxRecDepth 100000 in
theorem c_X10_touched (l : Launch) (hl0 : l.stackTraces = false) {D : va_G} {tE sz : Nat} {h0 a1 a2 a3 a4 a5 h6 s0 s1 s2 s3 : Nat} {t1 t2 t3 t4 t5 : ClassId} {x0 : Int32} : vx_Met l ⟨"Foundrymark", "touched", "(I)I"⟩ (wsC ⟨"Foundrymark", "touched", "(I)I"⟩ cX10_touched 2 (some .int)) ({ frames := 7, cells := 1, slots := 6, locals := 120 }) (va_Pc [.ref h0, .int x0] (gS tE D (wX h0 a1 a2 a3 a4 a5 h6 s0 s1 s2 s3 t1 t2 t3 t4 t5) (tX t1 t2 t3 t4 t5) sz)) (fun _ _ _ _ => False) (vx_X (fun _ : Unit => True) (fun E9 _ _ => E9 = "java/lang/IndexOutOfBoundsException") (va_A (wX h0 a1 a2 a3 a4 a5 h6 s0 s1 s2 s3 t1 t2 t3 t4 t5) sz)) 1 6 (va_A (wX h0 a1 a2 a3 a4 a5 h6 s0 s1 s2 s3 t1 t2 t3 t4 t5) sz) := by
  refine vx_ofW (cc := cX10_touched) (maxL := 2) (ret := (some .int)) (by decide) rfl ?_
  intro p e s m args below meth c s₁ B hml hout hv
  obtain ⟨rfl, hsz, hP, hK, hD0, hG⟩ := hv
  have hx := B.exec
  have hb := B.bytes
  have hr := B.returns
  have hlocks := B.notSynchronized
  have hts := atoms_spec (ws := wsC ⟨"Foundrymark", "touched", "(I)I"⟩ cX10_touched 2 (some .int)) B.pre
  have hta : ∀ w ∈ WA, w.before _ s = true := fun w h => hts w (List.mem_cons_of_mem _ h)
  have hown : s.vm.findClass "Foundrymark" = some m.cls := findClass_of_methodNamed B.named
  subst hsz
  have hD : va_D (va_A (wX h0 a1 a2 a3 a4 a5 h6 s0 s1 s2 s3 t1 t2 t3 t4 t5) s.heap.size) (wX h0 a1 a2 a3 a4 a5 h6 s0 s1 s2 s3 t1 t2 t3 t4 t5) := hD0.self (sz := s.heap.size)
  generalize hAe : va_A (wX h0 a1 a2 a3 a4 a5 h6 s0 s1 s2 s3 t1 t2 t3 t4 t5) s.heap.size = A at hD hG ⊢
  have hA : ∀ q : Nat, s.heap.size ≤ q → A q := fun q h => by rw [← hAe]; exact Or.inr h
  have hS : va_S A s.heap s.heap [] := va_S.rf
  have hP : va_P D vwCl (wX h0 a1 a2 a3 a4 a5 h6 s0 s1 s2 s3 t1 t2 t3 t4 t5) s.heap := hP
  have hl := lv_entry ([.ref h0, .int x0]) (n := 2) (Nat.le_of_ble_eq_true rfl)
  rw [lg_entry_eq]
  generalize (lg_sl ([.ref h0, .int x0]) ++ List.replicate (2 - (lg_sl ([.ref h0, .int x0])).length) Slot.unset).toArray = ls at hl ⊢
  have hl : lv_has ls 2 [(0, .ref h0), (1, .int x0)] := hl
  refine lv_aload_n hx hb dX10_touched_0 rfl (lv_at hl 0 rfl) ?_
  refine lv_iload_n hx hb dX10_touched_1 rfl (lv_at hl 1 rfl) ?_
  have hPc := hP.sub (ws' := (wX h0 a1 a2 a3 a4 a5 h6 s0 s1 s2 s3 t1 t2 t3 t4 t5)) [0, 1, 2, 3, 4, 5, 6, 7, 8, 9, 10] rfl
  have hKc := hK.sub (tys' := (tX t1 t2 t3 t4 t5)) [0, 1, 2, 3, 4] rfl
  have hDc := hD.sub (ws' := (wX h0 a1 a2 a3 a4 a5 h6 s0 s1 s2 s3 t1 t2 t3 t4 t5)) [0, 1, 2, 3, 4, 5, 6, 7, 8, 9, 10] (by decide) rfl
  have hFc := va_free (wc := (wX h0 a1 a2 a3 a4 a5 h6 s0 s1 s2 s3 t1 t2 t3 t4 t5)) hD hS hA [0, 1, 2, 3, 4, 5, 6, 7, 8, 9, 10] rfl
  refine gX0 (isC := [0, 1, 2, 3, 4, 5, 6, 7, 8, 9, 10]) (isR := []) (wr := []) (vx_runV (As := [.int x0]) (rest := []) ⟨hx, hb, hml, hown, hta⟩ (c_X10_knownLot l hl0) (cwV 1 hta (gWV mw12 mw13 mw14 mw10 mw11) rfl rfl rfl (by decide +kernel) ⟨Nat.le_of_ble_eq_true rfl, Nat.le_of_ble_eq_true rfl⟩) ⟨gS_blind, va_recv hKc hPc (ci := 15) (q0 := 0) rfl rfl, fun U hU hW => ⟨rfl, by rw [hU], by rw [hU]; exact hPc, va_K.moved hW.alike hKc, hDc.weaken (fun _ _ _ _ => trivial), hG.call hS hU hW hFc⟩⟩ rfl rfl hl.1 rfl (lv_room (Nat.le_of_ble_eq_true rfl)) dX10_touched_2 ⟨Nat.le_of_ble_eq_true rfl, Nat.le_of_ble_eq_true rfl⟩) hP hD hS hFc rfl rfl (by decide) (by decide) (fun E9 ce q9 u2 H locs h3 hz9 hP hD hS hc9 hv9 hcl9 => ?_)
  exact vx_widen (k := 1) (n := 6) (Nat.le_of_ble_eq_true rfl) (Nat.le_of_ble_eq_true rfl) (vx_out (fun x hx9 => (hout x hx9).elim) hlocks hc9 hv9 hcl9 (fun t ht hv => ⟨u2, h3.1, h3.2, hS.F ht⟩) hS.2.2 (Nat.le_refl _) (Nat.le_refl _))

set_option maxHeartbeats 4000000 in
set_option maxRecDepth 100000 in
theorem c_X10_lotsIn (l : Launch) (hl0 : l.stackTraces = false) {D : va_G} {tE sz : Nat} {h0 a1 a2 a3 a4 a5 h6 s0 s1 s2 s3 : Nat} {t1 t2 t3 t4 t5 : ClassId} {x0 : Int32} : vx_Met l ⟨"Foundrymark", "lotsIn", "(I)I"⟩ (wsC ⟨"Foundrymark", "lotsIn", "(I)I"⟩ cX10_lotsIn 2 (some .int)) ({ frames := 7, cells := 1, slots := 6, locals := 120 }) (va_Pc [.ref h0, .int x0] (gS tE D (wX h0 a1 a2 a3 a4 a5 h6 s0 s1 s2 s3 t1 t2 t3 t4 t5) (tX t1 t2 t3 t4 t5) sz)) (fun _ _ _ _ => False) (vx_X (fun _ : Unit => True) (fun E9 _ _ => E9 = "java/lang/IndexOutOfBoundsException") (va_A (wX h0 a1 a2 a3 a4 a5 h6 s0 s1 s2 s3 t1 t2 t3 t4 t5) sz)) 1 6 (va_A (wX h0 a1 a2 a3 a4 a5 h6 s0 s1 s2 s3 t1 t2 t3 t4 t5) sz) := by
  refine vx_ofW (cc := cX10_lotsIn) (maxL := 2) (ret := (some .int)) (by decide) rfl ?_
  intro p e s m args below meth c s₁ B hml hout hv
  obtain ⟨rfl, hsz, hP, hK, hD0, hG⟩ := hv
  have hx := B.exec
  have hb := B.bytes
  have hr := B.returns
  have hlocks := B.notSynchronized
  have hts := atoms_spec (ws := wsC ⟨"Foundrymark", "lotsIn", "(I)I"⟩ cX10_lotsIn 2 (some .int)) B.pre
  have hta : ∀ w ∈ WA, w.before _ s = true := fun w h => hts w (List.mem_cons_of_mem _ h)
  have hown : s.vm.findClass "Foundrymark" = some m.cls := findClass_of_methodNamed B.named
  subst hsz
  have hD : va_D (va_A (wX h0 a1 a2 a3 a4 a5 h6 s0 s1 s2 s3 t1 t2 t3 t4 t5) s.heap.size) (wX h0 a1 a2 a3 a4 a5 h6 s0 s1 s2 s3 t1 t2 t3 t4 t5) := hD0.self (sz := s.heap.size)
  generalize hAe : va_A (wX h0 a1 a2 a3 a4 a5 h6 s0 s1 s2 s3 t1 t2 t3 t4 t5) s.heap.size = A at hD hG ⊢
  have hA : ∀ q : Nat, s.heap.size ≤ q → A q := fun q h => by rw [← hAe]; exact Or.inr h
  have hS : va_S A s.heap s.heap [] := va_S.rf
  have hP : va_P D vwCl (wX h0 a1 a2 a3 a4 a5 h6 s0 s1 s2 s3 t1 t2 t3 t4 t5) s.heap := hP
  have hl := lv_entry ([.ref h0, .int x0]) (n := 2) (Nat.le_of_ble_eq_true rfl)
  rw [lg_entry_eq]
  generalize (lg_sl ([.ref h0, .int x0]) ++ List.replicate (2 - (lg_sl ([.ref h0, .int x0])).length) Slot.unset).toArray = ls at hl ⊢
  have hl : lv_has ls 2 [(0, .ref h0), (1, .int x0)] := hl
  refine lv_aload_n hx hb dX10_lotsIn_0 rfl (lv_at hl 0 rfl) ?_
  refine lv_iload_n hx hb dX10_lotsIn_1 rfl (lv_at hl 1 rfl) ?_
  have hPc := hP.sub (ws' := (wX h0 a1 a2 a3 a4 a5 h6 s0 s1 s2 s3 t1 t2 t3 t4 t5)) [0, 1, 2, 3, 4, 5, 6, 7, 8, 9, 10] rfl
  have hKc := hK.sub (tys' := (tX t1 t2 t3 t4 t5)) [0, 1, 2, 3, 4] rfl
  have hDc := hD.sub (ws' := (wX h0 a1 a2 a3 a4 a5 h6 s0 s1 s2 s3 t1 t2 t3 t4 t5)) [0, 1, 2, 3, 4, 5, 6, 7, 8, 9, 10] (by decide) rfl
  have hFc := va_free (wc := (wX h0 a1 a2 a3 a4 a5 h6 s0 s1 s2 s3 t1 t2 t3 t4 t5)) hD hS hA [0, 1, 2, 3, 4, 5, 6, 7, 8, 9, 10] rfl
  refine gX0 (isC := [0, 1, 2, 3, 4, 5, 6, 7, 8, 9, 10]) (isR := []) (wr := []) (vx_runV (As := [.int x0]) (rest := []) ⟨hx, hb, hml, hown, hta⟩ (c_X10_knownOrder l hl0) (cwV 1 hta (gWV mw16 mw17 mw18 mw10 mw15) rfl rfl rfl (by decide +kernel) ⟨Nat.le_of_ble_eq_true rfl, Nat.le_of_ble_eq_true rfl⟩) ⟨gS_blind, va_recv hKc hPc (ci := 15) (q0 := 0) rfl rfl, fun U hU hW => ⟨rfl, by rw [hU], by rw [hU]; exact hPc, va_K.moved hW.alike hKc, hDc.weaken (fun _ _ _ _ => trivial), hG.call hS hU hW hFc⟩⟩ rfl rfl hl.1 rfl (lv_room (Nat.le_of_ble_eq_true rfl)) dX10_lotsIn_2 ⟨Nat.le_of_ble_eq_true rfl, Nat.le_of_ble_eq_true rfl⟩) hP hD hS hFc rfl rfl (by decide) (by decide) (fun E9 ce q9 u2 H locs h3 hz9 hP hD hS hc9 hv9 hcl9 => ?_)
  exact vx_widen (k := 1) (n := 6) (Nat.le_of_ble_eq_true rfl) (Nat.le_of_ble_eq_true rfl) (vx_out (fun x hx9 => (hout x hx9).elim) hlocks hc9 hv9 hcl9 (fun t ht hv => ⟨u2, h3.1, h3.2, hS.F ht⟩) hS.2.2 (Nat.le_refl _) (Nat.le_refl _))

set_option maxHeartbeats 4000000 in
set_option maxRecDepth 100000 in
theorem c_X10_deliveredCost (l : Launch) (hl0 : l.stackTraces = false) {D : va_G} {tE sz : Nat} {h0 a1 a2 a3 a4 a5 h6 s0 s1 s2 s3 : Nat} {t1 t2 t3 t4 t5 : ClassId} {x0 : Int32} : vx_Met l ⟨"Foundrymark", "deliveredCost", "(I)J"⟩ (wsC ⟨"Foundrymark", "deliveredCost", "(I)J"⟩ cX10_deliveredCost 3 (some .long)) ({ frames := 7, cells := 1, slots := 6, locals := 120 }) (va_Pc [.ref h0, .int x0] (gS tE D (wX h0 a1 a2 a3 a4 a5 h6 s0 s1 s2 s3 t1 t2 t3 t4 t5) (tX t1 t2 t3 t4 t5) sz)) (fun _ _ _ _ => False) (vx_X (fun _ : Unit => True) (fun E9 _ _ => E9 = "java/lang/IndexOutOfBoundsException") (va_A (wX h0 a1 a2 a3 a4 a5 h6 s0 s1 s2 s3 t1 t2 t3 t4 t5) sz)) 1 6 (va_A (wX h0 a1 a2 a3 a4 a5 h6 s0 s1 s2 s3 t1 t2 t3 t4 t5) sz) := by
  refine vx_ofW (cc := cX10_deliveredCost) (maxL := 3) (ret := (some .long)) (by decide) rfl ?_
  intro p e s m args below meth c s₁ B hml hout hv
  obtain ⟨rfl, hsz, hP, hK, hD0, hG⟩ := hv
  have hx := B.exec
  have hb := B.bytes
  have hr := B.returns
  have hlocks := B.notSynchronized
  have hts := atoms_spec (ws := wsC ⟨"Foundrymark", "deliveredCost", "(I)J"⟩ cX10_deliveredCost 3 (some .long)) B.pre
  have hta : ∀ w ∈ WA, w.before _ s = true := fun w h => hts w (List.mem_cons_of_mem _ h)
  have hown : s.vm.findClass "Foundrymark" = some m.cls := findClass_of_methodNamed B.named
  subst hsz
  have hD : va_D (va_A (wX h0 a1 a2 a3 a4 a5 h6 s0 s1 s2 s3 t1 t2 t3 t4 t5) s.heap.size) (wX h0 a1 a2 a3 a4 a5 h6 s0 s1 s2 s3 t1 t2 t3 t4 t5) := hD0.self (sz := s.heap.size)
  generalize hAe : va_A (wX h0 a1 a2 a3 a4 a5 h6 s0 s1 s2 s3 t1 t2 t3 t4 t5) s.heap.size = A at hD hG ⊢
  have hA : ∀ q : Nat, s.heap.size ≤ q → A q := fun q h => by rw [← hAe]; exact Or.inr h
  have hS : va_S A s.heap s.heap [] := va_S.rf
  have hP : va_P D vwCl (wX h0 a1 a2 a3 a4 a5 h6 s0 s1 s2 s3 t1 t2 t3 t4 t5) s.heap := hP
  have hl := lv_entry ([.ref h0, .int x0]) (n := 3) (Nat.le_of_ble_eq_true rfl)
  rw [lg_entry_eq]
  generalize (lg_sl ([.ref h0, .int x0]) ++ List.replicate (3 - (lg_sl ([.ref h0, .int x0])).length) Slot.unset).toArray = ls at hl ⊢
  have hl : lv_has ls 3 [(0, .ref h0), (1, .int x0)] := hl
  refine lv_aload_n hx hb dX10_deliveredCost_0 rfl (lv_at hl 0 rfl) ?_
  refine lv_iload_n hx hb dX10_deliveredCost_1 rfl (lv_at hl 1 rfl) ?_
  have hPc := hP.sub (ws' := (wX h0 a1 a2 a3 a4 a5 h6 s0 s1 s2 s3 t1 t2 t3 t4 t5)) [0, 1, 2, 3, 4, 5, 6, 7, 8, 9, 10] rfl
  have hKc := hK.sub (tys' := (tX t1 t2 t3 t4 t5)) [0, 1, 2, 3, 4] rfl
  have hDc := hD.sub (ws' := (wX h0 a1 a2 a3 a4 a5 h6 s0 s1 s2 s3 t1 t2 t3 t4 t5)) [0, 1, 2, 3, 4, 5, 6, 7, 8, 9, 10] (by decide) rfl
  have hFc := va_free (wc := (wX h0 a1 a2 a3 a4 a5 h6 s0 s1 s2 s3 t1 t2 t3 t4 t5)) hD hS hA [0, 1, 2, 3, 4, 5, 6, 7, 8, 9, 10] rfl
  refine gX0 (isC := [0, 1, 2, 3, 4, 5, 6, 7, 8, 9, 10]) (isR := []) (wr := []) (vx_runV (As := [.int x0]) (rest := []) ⟨hx, hb, hml, hown, hta⟩ (c_X10_knownOrder l hl0) (cwV 1 hta (gWV mw16 mw17 mw18 mw10 mw15) rfl rfl rfl (by decide +kernel) ⟨Nat.le_of_ble_eq_true rfl, Nat.le_of_ble_eq_true rfl⟩) ⟨gS_blind, va_recv hKc hPc (ci := 15) (q0 := 0) rfl rfl, fun U hU hW => ⟨rfl, by rw [hU], by rw [hU]; exact hPc, va_K.moved hW.alike hKc, hDc.weaken (fun _ _ _ _ => trivial), hG.call hS hU hW hFc⟩⟩ rfl rfl hl.1 rfl (lv_room (Nat.le_of_ble_eq_true rfl)) dX10_deliveredCost_2 ⟨Nat.le_of_ble_eq_true rfl, Nat.le_of_ble_eq_true rfl⟩) hP hD hS hFc rfl rfl (by decide) (by decide) (fun E9 ce q9 u2 H locs h3 hz9 hP hD hS hc9 hv9 hcl9 => ?_)
  exact vx_widen (k := 1) (n := 6) (Nat.le_of_ble_eq_true rfl) (Nat.le_of_ble_eq_true rfl) (vx_out (fun x hx9 => (hout x hx9).elim) hlocks hc9 hv9 hcl9 (fun t ht hv => ⟨u2, h3.1, h3.2, hS.F ht⟩) hS.2.2 (Nat.le_refl _) (Nat.le_refl _))
end
section
set_option maxHeartbeats 4000000 in
set_option maxRecDepth 100000 in
theorem c_X10_findSupplier_0 (l : Launch) {D : va_G} {h0 a1 a2 a3 a4 a5 h6 s0 s1 s2 s3 : Nat} {t1 t2 t3 t4 t5 : ClassId} : Met l ⟨"Foundrymark", "findSupplier", "(I)LFoundrymark$Supplier;"⟩ (wsC ⟨"Foundrymark", "findSupplier", "(I)LFoundrymark$Supplier;"⟩ cX10_findSupplier 2 (some (.object "Foundrymark$Supplier"))) ({ frames := 0, cells := 0, slots := 0, locals := 0 }) (va_Pc [.ref h0, .int 0] (gR D (wX h0 a1 a2 a3 a4 a5 h6 s0 s1 s2 s3 t1 t2 t3 t4 t5) (tX t1 t2 t3 t4 t5))) (va_Sq (fun r => r = some s0)) 0 0 (fun _ => False) := by
  refine Met.ofW (cc := cX10_findSupplier) (maxL := 2) (ret := (some (.object "Foundrymark$Supplier"))) (by decide) rfl ?_
  intro p e s m args below meth c s₁ B hml hv
  obtain ⟨rfl, hP, hK⟩ := hv
  have hx := B.exec
  have hb := B.bytes
  have hr := B.returns
  have hlocks := B.notSynchronized
  have hts := atoms_spec (ws := wsC ⟨"Foundrymark", "findSupplier", "(I)LFoundrymark$Supplier;"⟩ cX10_findSupplier 2 (some (.object "Foundrymark$Supplier"))) B.pre
  have hta : ∀ w ∈ WA, w.before _ s = true := fun w h => hts w (List.mem_cons_of_mem _ h)
  have hown : s.vm.findClass "Foundrymark" = some m.cls := findClass_of_methodNamed B.named
  have hP : va_P D vwCl (wX h0 a1 a2 a3 a4 a5 h6 s0 s1 s2 s3 t1 t2 t3 t4 t5) s.heap := hP
  have hl := lv_entry ([.ref h0, .int 0]) (n := 2) (Nat.le_of_ble_eq_true rfl)
  rw [lg_entry_eq]
  generalize (lg_sl ([.ref h0, .int 0]) ++ List.replicate (2 - (lg_sl ([.ref h0, .int 0])).length) Slot.unset).toArray = ls at hl ⊢
  have hl : lv_has ls 2 [(0, .ref h0), (1, .int 0)] := hl
  refine lv_iload_n hx hb dX10_findSupplier_0 rfl (lv_at hl 1 rfl) ?_
  refine lv_if_lt (tgt := 22) hx hb dX10_findSupplier_1 (by decide) (fun c1 => ?_) (fun c1 => ?_)
  · exact absurd c1 (by decide)
  · skip
    refine lv_iload_n hx hb dX10_findSupplier_4 rfl (lv_at hl 1 rfl) ?_
    refine lv_aload_n hx hb dX10_findSupplier_5 rfl (lv_at hl 0 rfl) ?_
    refine va_get (D := D) (ci := 15) (v := .ref a3) (C := RX10) (T := TX10) (N := 14) hx hb hta iwX10 hown hK hP 0 rfl rfl 2 (by decide) (hta _ mw23) (fun _ h9 => h9) rfl dX10_findSupplier_6 ?_
    refine va_alen hx hb hK hP 3 2 rfl rfl (v := 4) rfl dX10_findSupplier_9 ?_
    refine lv_icmp_ge (tgt := 22) hx hb dX10_findSupplier_10 (by decide) (fun c2 => ?_) (fun c2 => ?_)
    · exact absurd c2 (by decide)
    · skip
      refine lv_aload_n hx hb dX10_findSupplier_13 rfl (lv_at hl 0 rfl) ?_
      refine va_get (D := D) (ci := 15) (v := .ref a3) (C := RX10) (T := TX10) (N := 14) hx hb hta iwX10 hown hK hP 0 rfl rfl 2 (by decide) (hta _ mw23) (fun _ h9 => h9) rfl dX10_findSupplier_14 ?_
      refine lv_iload_n hx hb dX10_findSupplier_17 rfl (lv_at hl 1 rfl) ?_
      refine va_aldq hx hb hK hP 3 2 rfl rfl (i := 0) (by unfold vp_in; decide) dX10_findSupplier_18 ?_
      refine W.eq (g2 := F0 m 19 ls [.ref s0]) rfl ?_
      refine lv_goto (tgt := 23) hx hb dX10_findSupplier_19 (by decide) ?_
      exact W.aret (rt := (.object "Foundrymark$Supplier")) hx hb hr (Or.inl ⟨_, rfl⟩) (Or.inr ⟨_, rfl⟩) (fun t ht hWm => ⟨some s0, rfl, rfl, ht⟩) (fun q h => absurd h List.not_mem_nil) dX10_findSupplier_23

set_option maxHeartbeats 4000000 in
set_option maxRecDepth 100000 in
theorem c_X10_rule_0 (l : Launch) {D : va_G} {h0 a1 a2 a3 a4 a5 h6 s0 s1 s2 s3 : Nat} {t1 t2 t3 t4 t5 : ClassId} : Met l ⟨"Foundrymark", "rule", "(I)C"⟩ (wsC ⟨"Foundrymark", "rule", "(I)C"⟩ cX10_rule 3 (some .char)) ({ frames := 1, cells := 0, slots := 0, locals := 21 }) (va_Pc [.ref h0, .int 0] (gR D (wX h0 a1 a2 a3 a4 a5 h6 s0 s1 s2 s3 t1 t2 t3 t4 t5) (tX t1 t2 t3 t4 t5))) (vp_Si (fun r => r = 110)) 0 0 (fun _ => False) := by
  refine Met.ofW (cc := cX10_rule) (maxL := 3) (ret := (some .char)) (by decide) rfl ?_
  intro p e s m args below meth c s₁ B hml hv
  obtain ⟨rfl, hP, hK⟩ := hv
  have hx := B.exec
  have hb := B.bytes
  have hr := B.returns
  have hlocks := B.notSynchronized
  have hts := atoms_spec (ws := wsC ⟨"Foundrymark", "rule", "(I)C"⟩ cX10_rule 3 (some .char)) B.pre
  have hta : ∀ w ∈ WA, w.before _ s = true := fun w h => hts w (List.mem_cons_of_mem _ h)
  have hown : s.vm.findClass "Foundrymark" = some m.cls := findClass_of_methodNamed B.named
  have hP : va_P D vwCl (wX h0 a1 a2 a3 a4 a5 h6 s0 s1 s2 s3 t1 t2 t3 t4 t5) s.heap := hP
  have hl := lv_entry ([.ref h0, .int 0]) (n := 3) (Nat.le_of_ble_eq_true rfl)
  rw [lg_entry_eq]
  generalize (lg_sl ([.ref h0, .int 0]) ++ List.replicate (3 - (lg_sl ([.ref h0, .int 0])).length) Slot.unset).toArray = ls at hl ⊢
  have hl : lv_has ls 3 [(0, .ref h0), (1, .int 0)] := hl
  refine lv_aload_n hx hb dX10_rule_0 rfl (lv_at hl 0 rfl) ?_
  refine lv_iload_n hx hb dX10_rule_1 rfl (lv_at hl 1 rfl) ?_
  have hPc := hP.sub (ws' := (wX h0 a1 a2 a3 a4 a5 h6 s0 s1 s2 s3 t1 t2 t3 t4 t5)) [0, 1, 2, 3, 4, 5, 6, 7, 8, 9, 10] rfl
  have hKc := hK.sub (tys' := (tX t1 t2 t3 t4 t5)) [0, 1, 2, 3, 4] rfl
  refine va_csq (W.runV (As := [.int 0]) (rest := []) ⟨hx, hb, hml, hown, hta⟩ (c_X10_findSupplier_0 l ) (cwV 1 hta (gWV mw25 mw26 mw27 mw10 mw24) rfl rfl rfl (by decide +kernel) ⟨Nat.le_of_ble_eq_true rfl, Nat.le_of_ble_eq_true rfl⟩) ⟨gR_blind, va_recv hKc hPc (ci := 15) (q0 := 0) rfl rfl, fun U hU hW => ⟨rfl, by rw [hU]; exact hPc, va_K.moved hW.alike hKc⟩⟩ rfl rfl hl.1 rfl (lv_room (Nat.le_of_ble_eq_true rfl)) dX10_rule_2 ⟨Nat.zero_le _, Nat.zero_le _⟩) (fun r1 h2 => ?_)
  obtain rfl : r1 = some s0 := h2
  refine W.eq (g2 := F0 m 5 ls [.ref s0]) rfl ?_
  refine lv_astore_n (lv' := [(2, .ref s0), (0, .ref h0), (1, .int 0)]) hx hb dX10_rule_5 rfl hl (by decide) rfl (fun ls hl => ?_)
  refine lv_aload_n hx hb dX10_rule_6 rfl (lv_at hl 0 rfl) ?_
  refine lv_ifnonnull (tgt := 20) hx hb dX10_rule_7 (by decide) ?_
  refine lv_aload_n hx hb dX10_rule_20 rfl (lv_at hl 0 rfl) ?_
  refine va_get (D := D) (ci := 14) (v := .int 110) (C := RX9) (T := TX9) (N := 3) hx hb hta iwX9 hown hK hP 7 rfl rfl 0 (by decide) (hta _ mw28) (fun _ h9 => h9) rfl dX10_rule_21 ?_
  exact W.zret (v := 110) (ty := .char) hx hb hr (by decide) (fun t ht hWm => ⟨_, rfl, rfl, ht⟩) (fun q h => absurd h List.not_mem_nil) dX10_rule_24

set_option maxHeartbeats 4000000 in
set_option maxRecDepth 100000 in
theorem c_X10_findSupplier_1 (l : Launch) {D : va_G} {h0 a1 a2 a3 a4 a5 h6 s0 s1 s2 s3 : Nat} {t1 t2 t3 t4 t5 : ClassId} : Met l ⟨"Foundrymark", "findSupplier", "(I)LFoundrymark$Supplier;"⟩ (wsC ⟨"Foundrymark", "findSupplier", "(I)LFoundrymark$Supplier;"⟩ cX10_findSupplier 2 (some (.object "Foundrymark$Supplier"))) ({ frames := 0, cells := 0, slots := 0, locals := 0 }) (va_Pc [.ref h0, .int 1] (gR D (wX h0 a1 a2 a3 a4 a5 h6 s0 s1 s2 s3 t1 t2 t3 t4 t5) (tX t1 t2 t3 t4 t5))) (va_Sq (fun r => r = some s1)) 0 0 (fun _ => False) := by
  refine Met.ofW (cc := cX10_findSupplier) (maxL := 2) (ret := (some (.object "Foundrymark$Supplier"))) (by decide) rfl ?_
  intro p e s m args below meth c s₁ B hml hv
  obtain ⟨rfl, hP, hK⟩ := hv
  have hx := B.exec
  have hb := B.bytes
  have hr := B.returns
  have hlocks := B.notSynchronized
  have hts := atoms_spec (ws := wsC ⟨"Foundrymark", "findSupplier", "(I)LFoundrymark$Supplier;"⟩ cX10_findSupplier 2 (some (.object "Foundrymark$Supplier"))) B.pre
  have hta : ∀ w ∈ WA, w.before _ s = true := fun w h => hts w (List.mem_cons_of_mem _ h)
  have hown : s.vm.findClass "Foundrymark" = some m.cls := findClass_of_methodNamed B.named
  have hP : va_P D vwCl (wX h0 a1 a2 a3 a4 a5 h6 s0 s1 s2 s3 t1 t2 t3 t4 t5) s.heap := hP
  have hl := lv_entry ([.ref h0, .int 1]) (n := 2) (Nat.le_of_ble_eq_true rfl)
  rw [lg_entry_eq]
  generalize (lg_sl ([.ref h0, .int 1]) ++ List.replicate (2 - (lg_sl ([.ref h0, .int 1])).length) Slot.unset).toArray = ls at hl ⊢
  have hl : lv_has ls 2 [(0, .ref h0), (1, .int 1)] := hl
  refine lv_iload_n hx hb dX10_findSupplier_0 rfl (lv_at hl 1 rfl) ?_
  refine lv_if_lt (tgt := 22) hx hb dX10_findSupplier_1 (by decide) (fun c1 => ?_) (fun c1 => ?_)
  · exact absurd c1 (by decide)
  · skip
    refine lv_iload_n hx hb dX10_findSupplier_4 rfl (lv_at hl 1 rfl) ?_
    refine lv_aload_n hx hb dX10_findSupplier_5 rfl (lv_at hl 0 rfl) ?_
    refine va_get (D := D) (ci := 15) (v := .ref a3) (C := RX10) (T := TX10) (N := 14) hx hb hta iwX10 hown hK hP 0 rfl rfl 2 (by decide) (hta _ mw23) (fun _ h9 => h9) rfl dX10_findSupplier_6 ?_
    refine va_alen hx hb hK hP 3 2 rfl rfl (v := 4) rfl dX10_findSupplier_9 ?_
    refine lv_icmp_ge (tgt := 22) hx hb dX10_findSupplier_10 (by decide) (fun c2 => ?_) (fun c2 => ?_)
    · exact absurd c2 (by decide)
    · skip
      refine lv_aload_n hx hb dX10_findSupplier_13 rfl (lv_at hl 0 rfl) ?_
      refine va_get (D := D) (ci := 15) (v := .ref a3) (C := RX10) (T := TX10) (N := 14) hx hb hta iwX10 hown hK hP 0 rfl rfl 2 (by decide) (hta _ mw23) (fun _ h9 => h9) rfl dX10_findSupplier_14 ?_
      refine lv_iload_n hx hb dX10_findSupplier_17 rfl (lv_at hl 1 rfl) ?_
      refine va_aldq hx hb hK hP 3 2 rfl rfl (i := 1) (by unfold vp_in; decide) dX10_findSupplier_18 ?_
      refine W.eq (g2 := F0 m 19 ls [.ref s1]) rfl ?_
      refine lv_goto (tgt := 23) hx hb dX10_findSupplier_19 (by decide) ?_
      exact W.aret (rt := (.object "Foundrymark$Supplier")) hx hb hr (Or.inl ⟨_, rfl⟩) (Or.inr ⟨_, rfl⟩) (fun t ht hWm => ⟨some s1, rfl, rfl, ht⟩) (fun q h => absurd h List.not_mem_nil) dX10_findSupplier_23

set_option maxHeartbeats 4000000 in
set_option maxRecDepth 100000 in
theorem c_X10_rule_1 (l : Launch) {D : va_G} {h0 a1 a2 a3 a4 a5 h6 s0 s1 s2 s3 : Nat} {t1 t2 t3 t4 t5 : ClassId} : Met l ⟨"Foundrymark", "rule", "(I)C"⟩ (wsC ⟨"Foundrymark", "rule", "(I)C"⟩ cX10_rule 3 (some .char)) ({ frames := 1, cells := 0, slots := 0, locals := 21 }) (va_Pc [.ref h0, .int 1] (gR D (wX h0 a1 a2 a3 a4 a5 h6 s0 s1 s2 s3 t1 t2 t3 t4 t5) (tX t1 t2 t3 t4 t5))) (vp_Si (fun r => r = 110)) 0 0 (fun _ => False) := by
  refine Met.ofW (cc := cX10_rule) (maxL := 3) (ret := (some .char)) (by decide) rfl ?_
  intro p e s m args below meth c s₁ B hml hv
  obtain ⟨rfl, hP, hK⟩ := hv
  have hx := B.exec
  have hb := B.bytes
  have hr := B.returns
  have hlocks := B.notSynchronized
  have hts := atoms_spec (ws := wsC ⟨"Foundrymark", "rule", "(I)C"⟩ cX10_rule 3 (some .char)) B.pre
  have hta : ∀ w ∈ WA, w.before _ s = true := fun w h => hts w (List.mem_cons_of_mem _ h)
  have hown : s.vm.findClass "Foundrymark" = some m.cls := findClass_of_methodNamed B.named
  have hP : va_P D vwCl (wX h0 a1 a2 a3 a4 a5 h6 s0 s1 s2 s3 t1 t2 t3 t4 t5) s.heap := hP
  have hl := lv_entry ([.ref h0, .int 1]) (n := 3) (Nat.le_of_ble_eq_true rfl)
  rw [lg_entry_eq]
  generalize (lg_sl ([.ref h0, .int 1]) ++ List.replicate (3 - (lg_sl ([.ref h0, .int 1])).length) Slot.unset).toArray = ls at hl ⊢
  have hl : lv_has ls 3 [(0, .ref h0), (1, .int 1)] := hl
  refine lv_aload_n hx hb dX10_rule_0 rfl (lv_at hl 0 rfl) ?_
  refine lv_iload_n hx hb dX10_rule_1 rfl (lv_at hl 1 rfl) ?_
  have hPc := hP.sub (ws' := (wX h0 a1 a2 a3 a4 a5 h6 s0 s1 s2 s3 t1 t2 t3 t4 t5)) [0, 1, 2, 3, 4, 5, 6, 7, 8, 9, 10] rfl
  have hKc := hK.sub (tys' := (tX t1 t2 t3 t4 t5)) [0, 1, 2, 3, 4] rfl
  refine va_csq (W.runV (As := [.int 1]) (rest := []) ⟨hx, hb, hml, hown, hta⟩ (c_X10_findSupplier_1 l ) (cwV 1 hta (gWV mw25 mw26 mw27 mw10 mw24) rfl rfl rfl (by decide +kernel) ⟨Nat.le_of_ble_eq_true rfl, Nat.le_of_ble_eq_true rfl⟩) ⟨gR_blind, va_recv hKc hPc (ci := 15) (q0 := 0) rfl rfl, fun U hU hW => ⟨rfl, by rw [hU]; exact hPc, va_K.moved hW.alike hKc⟩⟩ rfl rfl hl.1 rfl (lv_room (Nat.le_of_ble_eq_true rfl)) dX10_rule_2 ⟨Nat.zero_le _, Nat.zero_le _⟩) (fun r1 h2 => ?_)
  obtain rfl : r1 = some s1 := h2
  refine W.eq (g2 := F0 m 5 ls [.ref s1]) rfl ?_
  refine lv_astore_n (lv' := [(2, .ref s1), (0, .ref h0), (1, .int 1)]) hx hb dX10_rule_5 rfl hl (by decide) rfl (fun ls hl => ?_)
  refine lv_aload_n hx hb dX10_rule_6 rfl (lv_at hl 0 rfl) ?_
  refine lv_ifnonnull (tgt := 20) hx hb dX10_rule_7 (by decide) ?_
  refine lv_aload_n hx hb dX10_rule_20 rfl (lv_at hl 0 rfl) ?_
  refine va_get (D := D) (ci := 14) (v := .int 110) (C := RX9) (T := TX9) (N := 3) hx hb hta iwX9 hown hK hP 8 rfl rfl 0 (by decide) (hta _ mw28) (fun _ h9 => h9) rfl dX10_rule_21 ?_
  exact W.zret (v := 110) (ty := .char) hx hb hr (by decide) (fun t ht hWm => ⟨_, rfl, rfl, ht⟩) (fun q h => absurd h List.not_mem_nil) dX10_rule_24

set_option maxHeartbeats 4000000 in
set_option maxRecDepth 100000 in
theorem c_X10_findSupplier_2 (l : Launch) {D : va_G} {h0 a1 a2 a3 a4 a5 h6 s0 s1 s2 s3 : Nat} {t1 t2 t3 t4 t5 : ClassId} : Met l ⟨"Foundrymark", "findSupplier", "(I)LFoundrymark$Supplier;"⟩ (wsC ⟨"Foundrymark", "findSupplier", "(I)LFoundrymark$Supplier;"⟩ cX10_findSupplier 2 (some (.object "Foundrymark$Supplier"))) ({ frames := 0, cells := 0, slots := 0, locals := 0 }) (va_Pc [.ref h0, .int 2] (gR D (wX h0 a1 a2 a3 a4 a5 h6 s0 s1 s2 s3 t1 t2 t3 t4 t5) (tX t1 t2 t3 t4 t5))) (va_Sq (fun r => r = some s2)) 0 0 (fun _ => False) := by
  refine Met.ofW (cc := cX10_findSupplier) (maxL := 2) (ret := (some (.object "Foundrymark$Supplier"))) (by decide) rfl ?_
  intro p e s m args below meth c s₁ B hml hv
  obtain ⟨rfl, hP, hK⟩ := hv
  have hx := B.exec
  have hb := B.bytes
  have hr := B.returns
  have hlocks := B.notSynchronized
  have hts := atoms_spec (ws := wsC ⟨"Foundrymark", "findSupplier", "(I)LFoundrymark$Supplier;"⟩ cX10_findSupplier 2 (some (.object "Foundrymark$Supplier"))) B.pre
  have hta : ∀ w ∈ WA, w.before _ s = true := fun w h => hts w (List.mem_cons_of_mem _ h)
  have hown : s.vm.findClass "Foundrymark" = some m.cls := findClass_of_methodNamed B.named
  have hP : va_P D vwCl (wX h0 a1 a2 a3 a4 a5 h6 s0 s1 s2 s3 t1 t2 t3 t4 t5) s.heap := hP
  have hl := lv_entry ([.ref h0, .int 2]) (n := 2) (Nat.le_of_ble_eq_true rfl)
  rw [lg_entry_eq]
  generalize (lg_sl ([.ref h0, .int 2]) ++ List.replicate (2 - (lg_sl ([.ref h0, .int 2])).length) Slot.unset).toArray = ls at hl ⊢
  have hl : lv_has ls 2 [(0, .ref h0), (1, .int 2)] := hl
  refine lv_iload_n hx hb dX10_findSupplier_0 rfl (lv_at hl 1 rfl) ?_
  refine lv_if_lt (tgt := 22) hx hb dX10_findSupplier_1 (by decide) (fun c1 => ?_) (fun c1 => ?_)
  · exact absurd c1 (by decide)
  · skip
    refine lv_iload_n hx hb dX10_findSupplier_4 rfl (lv_at hl 1 rfl) ?_
    refine lv_aload_n hx hb dX10_findSupplier_5 rfl (lv_at hl 0 rfl) ?_
    refine va_get (D := D) (ci := 15) (v := .ref a3) (C := RX10) (T := TX10) (N := 14) hx hb hta iwX10 hown hK hP 0 rfl rfl 2 (by decide) (hta _ mw23) (fun _ h9 => h9) rfl dX10_findSupplier_6 ?_
    refine va_alen hx hb hK hP 3 2 rfl rfl (v := 4) rfl dX10_findSupplier_9 ?_
    refine lv_icmp_ge (tgt := 22) hx hb dX10_findSupplier_10 (by decide) (fun c2 => ?_) (fun c2 => ?_)
    · exact absurd c2 (by decide)
    · skip
      refine lv_aload_n hx hb dX10_findSupplier_13 rfl (lv_at hl 0 rfl) ?_
      refine va_get (D := D) (ci := 15) (v := .ref a3) (C := RX10) (T := TX10) (N := 14) hx hb hta iwX10 hown hK hP 0 rfl rfl 2 (by decide) (hta _ mw23) (fun _ h9 => h9) rfl dX10_findSupplier_14 ?_
      refine lv_iload_n hx hb dX10_findSupplier_17 rfl (lv_at hl 1 rfl) ?_
      refine va_aldq hx hb hK hP 3 2 rfl rfl (i := 2) (by unfold vp_in; decide) dX10_findSupplier_18 ?_
      refine W.eq (g2 := F0 m 19 ls [.ref s2]) rfl ?_
      refine lv_goto (tgt := 23) hx hb dX10_findSupplier_19 (by decide) ?_
      exact W.aret (rt := (.object "Foundrymark$Supplier")) hx hb hr (Or.inl ⟨_, rfl⟩) (Or.inr ⟨_, rfl⟩) (fun t ht hWm => ⟨some s2, rfl, rfl, ht⟩) (fun q h => absurd h List.not_mem_nil) dX10_findSupplier_23

set_option maxHeartbeats 4000000 in
set_option maxRecDepth 100000 in
theorem c_X10_rule_2 (l : Launch) {D : va_G} {h0 a1 a2 a3 a4 a5 h6 s0 s1 s2 s3 : Nat} {t1 t2 t3 t4 t5 : ClassId} : Met l ⟨"Foundrymark", "rule", "(I)C"⟩ (wsC ⟨"Foundrymark", "rule", "(I)C"⟩ cX10_rule 3 (some .char)) ({ frames := 1, cells := 0, slots := 0, locals := 21 }) (va_Pc [.ref h0, .int 2] (gR D (wX h0 a1 a2 a3 a4 a5 h6 s0 s1 s2 s3 t1 t2 t3 t4 t5) (tX t1 t2 t3 t4 t5))) (vp_Si (fun r => r = 110)) 0 0 (fun _ => False) := by
  refine Met.ofW (cc := cX10_rule) (maxL := 3) (ret := (some .char)) (by decide) rfl ?_
  intro p e s m args below meth c s₁ B hml hv
  obtain ⟨rfl, hP, hK⟩ := hv
  have hx := B.exec
  have hb := B.bytes
  have hr := B.returns
  have hlocks := B.notSynchronized
  have hts := atoms_spec (ws := wsC ⟨"Foundrymark", "rule", "(I)C"⟩ cX10_rule 3 (some .char)) B.pre
  have hta : ∀ w ∈ WA, w.before _ s = true := fun w h => hts w (List.mem_cons_of_mem _ h)
  have hown : s.vm.findClass "Foundrymark" = some m.cls := findClass_of_methodNamed B.named
  have hP : va_P D vwCl (wX h0 a1 a2 a3 a4 a5 h6 s0 s1 s2 s3 t1 t2 t3 t4 t5) s.heap := hP
  have hl := lv_entry ([.ref h0, .int 2]) (n := 3) (Nat.le_of_ble_eq_true rfl)
  rw [lg_entry_eq]
  generalize (lg_sl ([.ref h0, .int 2]) ++ List.replicate (3 - (lg_sl ([.ref h0, .int 2])).length) Slot.unset).toArray = ls at hl ⊢
  have hl : lv_has ls 3 [(0, .ref h0), (1, .int 2)] := hl
  refine lv_aload_n hx hb dX10_rule_0 rfl (lv_at hl 0 rfl) ?_
  refine lv_iload_n hx hb dX10_rule_1 rfl (lv_at hl 1 rfl) ?_
  have hPc := hP.sub (ws' := (wX h0 a1 a2 a3 a4 a5 h6 s0 s1 s2 s3 t1 t2 t3 t4 t5)) [0, 1, 2, 3, 4, 5, 6, 7, 8, 9, 10] rfl
  have hKc := hK.sub (tys' := (tX t1 t2 t3 t4 t5)) [0, 1, 2, 3, 4] rfl
  refine va_csq (W.runV (As := [.int 2]) (rest := []) ⟨hx, hb, hml, hown, hta⟩ (c_X10_findSupplier_2 l ) (cwV 1 hta (gWV mw25 mw26 mw27 mw10 mw24) rfl rfl rfl (by decide +kernel) ⟨Nat.le_of_ble_eq_true rfl, Nat.le_of_ble_eq_true rfl⟩) ⟨gR_blind, va_recv hKc hPc (ci := 15) (q0 := 0) rfl rfl, fun U hU hW => ⟨rfl, by rw [hU]; exact hPc, va_K.moved hW.alike hKc⟩⟩ rfl rfl hl.1 rfl (lv_room (Nat.le_of_ble_eq_true rfl)) dX10_rule_2 ⟨Nat.zero_le _, Nat.zero_le _⟩) (fun r1 h2 => ?_)
  obtain rfl : r1 = some s2 := h2
  refine W.eq (g2 := F0 m 5 ls [.ref s2]) rfl ?_
  refine lv_astore_n (lv' := [(2, .ref s2), (0, .ref h0), (1, .int 2)]) hx hb dX10_rule_5 rfl hl (by decide) rfl (fun ls hl => ?_)
  refine lv_aload_n hx hb dX10_rule_6 rfl (lv_at hl 0 rfl) ?_
  refine lv_ifnonnull (tgt := 20) hx hb dX10_rule_7 (by decide) ?_
  refine lv_aload_n hx hb dX10_rule_20 rfl (lv_at hl 0 rfl) ?_
  refine va_get (D := D) (ci := 14) (v := .int 110) (C := RX9) (T := TX9) (N := 3) hx hb hta iwX9 hown hK hP 9 rfl rfl 0 (by decide) (hta _ mw28) (fun _ h9 => h9) rfl dX10_rule_21 ?_
  exact W.zret (v := 110) (ty := .char) hx hb hr (by decide) (fun t ht hWm => ⟨_, rfl, rfl, ht⟩) (fun q h => absurd h List.not_mem_nil) dX10_rule_24

set_option maxHeartbeats 4000000 in
set_option maxRecDepth 100000 in
theorem c_X10_findSupplier_3 (l : Launch) {D : va_G} {h0 a1 a2 a3 a4 a5 h6 s0 s1 s2 s3 : Nat} {t1 t2 t3 t4 t5 : ClassId} : Met l ⟨"Foundrymark", "findSupplier", "(I)LFoundrymark$Supplier;"⟩ (wsC ⟨"Foundrymark", "findSupplier", "(I)LFoundrymark$Supplier;"⟩ cX10_findSupplier 2 (some (.object "Foundrymark$Supplier"))) ({ frames := 0, cells := 0, slots := 0, locals := 0 }) (va_Pc [.ref h0, .int 3] (gR D (wX h0 a1 a2 a3 a4 a5 h6 s0 s1 s2 s3 t1 t2 t3 t4 t5) (tX t1 t2 t3 t4 t5))) (va_Sq (fun r => r = some s3)) 0 0 (fun _ => False) := by
  refine Met.ofW (cc := cX10_findSupplier) (maxL := 2) (ret := (some (.object "Foundrymark$Supplier"))) (by decide) rfl ?_
  intro p e s m args below meth c s₁ B hml hv
  obtain ⟨rfl, hP, hK⟩ := hv
  have hx := B.exec
  have hb := B.bytes
  have hr := B.returns
  have hlocks := B.notSynchronized
  have hts := atoms_spec (ws := wsC ⟨"Foundrymark", "findSupplier", "(I)LFoundrymark$Supplier;"⟩ cX10_findSupplier 2 (some (.object "Foundrymark$Supplier"))) B.pre
  have hta : ∀ w ∈ WA, w.before _ s = true := fun w h => hts w (List.mem_cons_of_mem _ h)
  have hown : s.vm.findClass "Foundrymark" = some m.cls := findClass_of_methodNamed B.named
  have hP : va_P D vwCl (wX h0 a1 a2 a3 a4 a5 h6 s0 s1 s2 s3 t1 t2 t3 t4 t5) s.heap := hP
  have hl := lv_entry ([.ref h0, .int 3]) (n := 2) (Nat.le_of_ble_eq_true rfl)
  rw [lg_entry_eq]
  generalize (lg_sl ([.ref h0, .int 3]) ++ List.replicate (2 - (lg_sl ([.ref h0, .int 3])).length) Slot.unset).toArray = ls at hl ⊢
  have hl : lv_has ls 2 [(0, .ref h0), (1, .int 3)] := hl
  refine lv_iload_n hx hb dX10_findSupplier_0 rfl (lv_at hl 1 rfl) ?_
  refine lv_if_lt (tgt := 22) hx hb dX10_findSupplier_1 (by decide) (fun c1 => ?_) (fun c1 => ?_)
  · exact absurd c1 (by decide)
  · skip
    refine lv_iload_n hx hb dX10_findSupplier_4 rfl (lv_at hl 1 rfl) ?_
    refine lv_aload_n hx hb dX10_findSupplier_5 rfl (lv_at hl 0 rfl) ?_
    refine va_get (D := D) (ci := 15) (v := .ref a3) (C := RX10) (T := TX10) (N := 14) hx hb hta iwX10 hown hK hP 0 rfl rfl 2 (by decide) (hta _ mw23) (fun _ h9 => h9) rfl dX10_findSupplier_6 ?_
    refine va_alen hx hb hK hP 3 2 rfl rfl (v := 4) rfl dX10_findSupplier_9 ?_
    refine lv_icmp_ge (tgt := 22) hx hb dX10_findSupplier_10 (by decide) (fun c2 => ?_) (fun c2 => ?_)
    · exact absurd c2 (by decide)
    · skip
      refine lv_aload_n hx hb dX10_findSupplier_13 rfl (lv_at hl 0 rfl) ?_
      refine va_get (D := D) (ci := 15) (v := .ref a3) (C := RX10) (T := TX10) (N := 14) hx hb hta iwX10 hown hK hP 0 rfl rfl 2 (by decide) (hta _ mw23) (fun _ h9 => h9) rfl dX10_findSupplier_14 ?_
      refine lv_iload_n hx hb dX10_findSupplier_17 rfl (lv_at hl 1 rfl) ?_
      refine va_aldq hx hb hK hP 3 2 rfl rfl (i := 3) (by unfold vp_in; decide) dX10_findSupplier_18 ?_
      refine W.eq (g2 := F0 m 19 ls [.ref s3]) rfl ?_
      refine lv_goto (tgt := 23) hx hb dX10_findSupplier_19 (by decide) ?_
      exact W.aret (rt := (.object "Foundrymark$Supplier")) hx hb hr (Or.inl ⟨_, rfl⟩) (Or.inr ⟨_, rfl⟩) (fun t ht hWm => ⟨some s3, rfl, rfl, ht⟩) (fun q h => absurd h List.not_mem_nil) dX10_findSupplier_23

set_option maxHeartbeats 4000000 in
set_option maxRecDepth 100000 in
theorem c_X10_rule_3 (l : Launch) {D : va_G} {h0 a1 a2 a3 a4 a5 h6 s0 s1 s2 s3 : Nat} {t1 t2 t3 t4 t5 : ClassId} : Met l ⟨"Foundrymark", "rule", "(I)C"⟩ (wsC ⟨"Foundrymark", "rule", "(I)C"⟩ cX10_rule 3 (some .char)) ({ frames := 1, cells := 0, slots := 0, locals := 21 }) (va_Pc [.ref h0, .int 3] (gR D (wX h0 a1 a2 a3 a4 a5 h6 s0 s1 s2 s3 t1 t2 t3 t4 t5) (tX t1 t2 t3 t4 t5))) (vp_Si (fun r => r = 110)) 0 0 (fun _ => False) := by
  refine Met.ofW (cc := cX10_rule) (maxL := 3) (ret := (some .char)) (by decide) rfl ?_
  intro p e s m args below meth c s₁ B hml hv
  obtain ⟨rfl, hP, hK⟩ := hv
  have hx := B.exec
  have hb := B.bytes
  have hr := B.returns
  have hlocks := B.notSynchronized
  have hts := atoms_spec (ws := wsC ⟨"Foundrymark", "rule", "(I)C"⟩ cX10_rule 3 (some .char)) B.pre
  have hta : ∀ w ∈ WA, w.before _ s = true := fun w h => hts w (List.mem_cons_of_mem _ h)
  have hown : s.vm.findClass "Foundrymark" = some m.cls := findClass_of_methodNamed B.named
  have hP : va_P D vwCl (wX h0 a1 a2 a3 a4 a5 h6 s0 s1 s2 s3 t1 t2 t3 t4 t5) s.heap := hP
  have hl := lv_entry ([.ref h0, .int 3]) (n := 3) (Nat.le_of_ble_eq_true rfl)
  rw [lg_entry_eq]
  generalize (lg_sl ([.ref h0, .int 3]) ++ List.replicate (3 - (lg_sl ([.ref h0, .int 3])).length) Slot.unset).toArray = ls at hl ⊢
  have hl : lv_has ls 3 [(0, .ref h0), (1, .int 3)] := hl
  refine lv_aload_n hx hb dX10_rule_0 rfl (lv_at hl 0 rfl) ?_
  refine lv_iload_n hx hb dX10_rule_1 rfl (lv_at hl 1 rfl) ?_
  have hPc := hP.sub (ws' := (wX h0 a1 a2 a3 a4 a5 h6 s0 s1 s2 s3 t1 t2 t3 t4 t5)) [0, 1, 2, 3, 4, 5, 6, 7, 8, 9, 10] rfl
  have hKc := hK.sub (tys' := (tX t1 t2 t3 t4 t5)) [0, 1, 2, 3, 4] rfl
  refine va_csq (W.runV (As := [.int 3]) (rest := []) ⟨hx, hb, hml, hown, hta⟩ (c_X10_findSupplier_3 l ) (cwV 1 hta (gWV mw25 mw26 mw27 mw10 mw24) rfl rfl rfl (by decide +kernel) ⟨Nat.le_of_ble_eq_true rfl, Nat.le_of_ble_eq_true rfl⟩) ⟨gR_blind, va_recv hKc hPc (ci := 15) (q0 := 0) rfl rfl, fun U hU hW => ⟨rfl, by rw [hU]; exact hPc, va_K.moved hW.alike hKc⟩⟩ rfl rfl hl.1 rfl (lv_room (Nat.le_of_ble_eq_true rfl)) dX10_rule_2 ⟨Nat.zero_le _, Nat.zero_le _⟩) (fun r1 h2 => ?_)
  obtain rfl : r1 = some s3 := h2
  refine W.eq (g2 := F0 m 5 ls [.ref s3]) rfl ?_
  refine lv_astore_n (lv' := [(2, .ref s3), (0, .ref h0), (1, .int 3)]) hx hb dX10_rule_5 rfl hl (by decide) rfl (fun ls hl => ?_)
  refine lv_aload_n hx hb dX10_rule_6 rfl (lv_at hl 0 rfl) ?_
  refine lv_ifnonnull (tgt := 20) hx hb dX10_rule_7 (by decide) ?_
  refine lv_aload_n hx hb dX10_rule_20 rfl (lv_at hl 0 rfl) ?_
  refine va_get (D := D) (ci := 14) (v := .int 110) (C := RX9) (T := TX9) (N := 3) hx hb hta iwX9 hown hK hP 10 rfl rfl 0 (by decide) (hta _ mw28) (fun _ h9 => h9) rfl dX10_rule_21 ?_
  exact W.zret (v := 110) (ty := .char) hx hb hr (by decide) (fun t ht hWm => ⟨_, rfl, rfl, ht⟩) (fun q h => absurd h List.not_mem_nil) dX10_rule_24

set_option maxHeartbeats 4000000 in
set_option maxRecDepth 100000 in
theorem c_X10_findSupplier_f (l : Launch) {D : va_G} {h0 a1 a2 a3 a4 a5 h6 s0 s1 s2 s3 : Nat} {t1 t2 t3 t4 t5 : ClassId} {n : Int32} (hf : inR n 0 3 = false) : Met l ⟨"Foundrymark", "findSupplier", "(I)LFoundrymark$Supplier;"⟩ (wsC ⟨"Foundrymark", "findSupplier", "(I)LFoundrymark$Supplier;"⟩ cX10_findSupplier 2 (some (.object "Foundrymark$Supplier"))) ({ frames := 0, cells := 0, slots := 0, locals := 0 }) (va_Pc [.ref h0, .int n] (gR D (wX h0 a1 a2 a3 a4 a5 h6 s0 s1 s2 s3 t1 t2 t3 t4 t5) (tX t1 t2 t3 t4 t5))) (va_Sq (fun r => r = none)) 0 0 (fun _ => False) := by
  refine Met.ofW (cc := cX10_findSupplier) (maxL := 2) (ret := (some (.object "Foundrymark$Supplier"))) (by decide) rfl ?_
  intro p e s m args below meth c s₁ B hml hv
  obtain ⟨rfl, hP, hK⟩ := hv
  have hx := B.exec
  have hb := B.bytes
  have hr := B.returns
  have hlocks := B.notSynchronized
  have hts := atoms_spec (ws := wsC ⟨"Foundrymark", "findSupplier", "(I)LFoundrymark$Supplier;"⟩ cX10_findSupplier 2 (some (.object "Foundrymark$Supplier"))) B.pre
  have hta : ∀ w ∈ WA, w.before _ s = true := fun w h => hts w (List.mem_cons_of_mem _ h)
  have hown : s.vm.findClass "Foundrymark" = some m.cls := findClass_of_methodNamed B.named
  have hP : va_P D vwCl (wX h0 a1 a2 a3 a4 a5 h6 s0 s1 s2 s3 t1 t2 t3 t4 t5) s.heap := hP
  have hl := lv_entry ([.ref h0, .int n]) (n := 2) (Nat.le_of_ble_eq_true rfl)
  rw [lg_entry_eq]
  generalize (lg_sl ([.ref h0, .int n]) ++ List.replicate (2 - (lg_sl ([.ref h0, .int n])).length) Slot.unset).toArray = ls at hl ⊢
  have hl : lv_has ls 2 [(0, .ref h0), (1, .int n)] := hl
  refine lv_iload_n hx hb dX10_findSupplier_0 rfl (lv_at hl 1 rfl) ?_
  refine lv_if_lt (tgt := 22) hx hb dX10_findSupplier_1 (by decide) (fun c1 => ?_) (fun c1 => ?_)
  · skip
    refine lv_null hx hb dX10_findSupplier_22 ?_
    exact W.aret (rt := (.object "Foundrymark$Supplier")) hx hb hr (Or.inl ⟨_, rfl⟩) (Or.inl rfl) (fun t ht hWm => ⟨none, rfl, rfl, ht⟩) (fun q h => absurd h List.not_mem_nil) dX10_findSupplier_23
  · skip
    refine lv_iload_n hx hb dX10_findSupplier_4 rfl (lv_at hl 1 rfl) ?_
    refine lv_aload_n hx hb dX10_findSupplier_5 rfl (lv_at hl 0 rfl) ?_
    refine va_get (D := D) (ci := 15) (v := .ref a3) (C := RX10) (T := TX10) (N := 14) hx hb hta iwX10 hown hK hP 0 rfl rfl 2 (by decide) (hta _ mw23) (fun _ h9 => h9) rfl dX10_findSupplier_6 ?_
    refine va_alen hx hb hK hP 3 2 rfl rfl (v := 4) rfl dX10_findSupplier_9 ?_
    refine lv_icmp_ge (tgt := 22) hx hb dX10_findSupplier_10 (by decide) (fun c2 => ?_) (fun c2 => ?_)
    · skip
      refine lv_null hx hb dX10_findSupplier_22 ?_
      exact W.aret (rt := (.object "Foundrymark$Supplier")) hx hb hr (Or.inl ⟨_, rfl⟩) (Or.inl rfl) (fun t ht hWm => ⟨none, rfl, rfl, ht⟩) (fun q h => absurd h List.not_mem_nil) dX10_findSupplier_23
    · skip
      exact absurd (inR_of (a := 0) (b := 3) (M := 4) (by decide) c1 c2) (by rw [hf]; decide)

set_option maxHeartbeats 4000000 in
set_option maxRecDepth 100000 in
theorem c_X10_rule_f (l : Launch) (hl0 : l.stackTraces = false) {D : va_G} {tE sz : Nat} {h0 a1 a2 a3 a4 a5 h6 s0 s1 s2 s3 : Nat} {t1 t2 t3 t4 t5 : ClassId} {n : Int32} (hf : inR n 0 3 = false) : vx_Met l ⟨"Foundrymark", "rule", "(I)C"⟩ (wsC ⟨"Foundrymark", "rule", "(I)C"⟩ cX10_rule 3 (some .char)) ({ frames := 6, cells := 1, slots := 6, locals := 98 }) (va_Pc [.ref h0, .int n] (gS tE D (wX h0 a1 a2 a3 a4 a5 h6 s0 s1 s2 s3 t1 t2 t3 t4 t5) (tX t1 t2 t3 t4 t5) sz)) (fun _ _ _ _ => False) (vx_X (fun _ : Unit => True) (fun E9 _ _ => E9 = "java/lang/IndexOutOfBoundsException") (va_A (wX h0 a1 a2 a3 a4 a5 h6 s0 s1 s2 s3 t1 t2 t3 t4 t5) sz)) 1 6 (va_A (wX h0 a1 a2 a3 a4 a5 h6 s0 s1 s2 s3 t1 t2 t3 t4 t5) sz) := by
  refine vx_ofW (cc := cX10_rule) (maxL := 3) (ret := (some .char)) (by decide) rfl ?_
  intro p e s m args below meth c s₁ B hml hout hv
  obtain ⟨rfl, hsz, hP, hK, hD0, hG⟩ := hv
  have hx := B.exec
  have hb := B.bytes
  have hr := B.returns
  have hlocks := B.notSynchronized
  have hts := atoms_spec (ws := wsC ⟨"Foundrymark", "rule", "(I)C"⟩ cX10_rule 3 (some .char)) B.pre
  have hta : ∀ w ∈ WA, w.before _ s = true := fun w h => hts w (List.mem_cons_of_mem _ h)
  have hown : s.vm.findClass "Foundrymark" = some m.cls := findClass_of_methodNamed B.named
  subst hsz
  have hD : va_D (va_A (wX h0 a1 a2 a3 a4 a5 h6 s0 s1 s2 s3 t1 t2 t3 t4 t5) s.heap.size) (wX h0 a1 a2 a3 a4 a5 h6 s0 s1 s2 s3 t1 t2 t3 t4 t5) := hD0.self (sz := s.heap.size)
  generalize hAe : va_A (wX h0 a1 a2 a3 a4 a5 h6 s0 s1 s2 s3 t1 t2 t3 t4 t5) s.heap.size = A at hD hG ⊢
  have hA : ∀ q : Nat, s.heap.size ≤ q → A q := fun q h => by rw [← hAe]; exact Or.inr h
  have hS : va_S A s.heap s.heap [] := va_S.rf
  have hP : va_P D vwCl (wX h0 a1 a2 a3 a4 a5 h6 s0 s1 s2 s3 t1 t2 t3 t4 t5) s.heap := hP
  have hl := lv_entry ([.ref h0, .int n]) (n := 3) (Nat.le_of_ble_eq_true rfl)
  rw [lg_entry_eq]
  generalize (lg_sl ([.ref h0, .int n]) ++ List.replicate (3 - (lg_sl ([.ref h0, .int n])).length) Slot.unset).toArray = ls at hl ⊢
  have hl : lv_has ls 3 [(0, .ref h0), (1, .int n)] := hl
  refine lv_aload_n hx hb dX10_rule_0 rfl (lv_at hl 0 rfl) ?_
  refine lv_iload_n hx hb dX10_rule_1 rfl (lv_at hl 1 rfl) ?_
  have hPc := hP.sub (ws' := (wX h0 a1 a2 a3 a4 a5 h6 s0 s1 s2 s3 t1 t2 t3 t4 t5)) [0, 1, 2, 3, 4, 5, 6, 7, 8, 9, 10] rfl
  have hKc := hK.sub (tys' := (tX t1 t2 t3 t4 t5)) [0, 1, 2, 3, 4] rfl
  refine va_csq (W.runV (As := [.int n]) (rest := []) ⟨hx, hb, hml, hown, hta⟩ (c_X10_findSupplier_f l hf) (cwV 1 hta (gWV mw25 mw26 mw27 mw10 mw24) rfl rfl rfl (by decide +kernel) ⟨Nat.le_of_ble_eq_true rfl, Nat.le_of_ble_eq_true rfl⟩) ⟨gR_blind, va_recv hKc hPc (ci := 15) (q0 := 0) rfl rfl, fun U hU hW => ⟨rfl, by rw [hU]; exact hPc, va_K.moved hW.alike hKc⟩⟩ rfl rfl hl.1 rfl (lv_room (Nat.le_of_ble_eq_true rfl)) dX10_rule_2 ⟨Nat.zero_le _, Nat.zero_le _⟩) (fun r1 h2 => ?_)
  obtain rfl : r1 = none := h2
  refine W.eq (g2 := F0 m 5 ls [.null]) rfl ?_
  refine lv_astore_nN (lv' := [(2, .null), (0, .ref h0), (1, .int n)]) hx hb dX10_rule_5 rfl hl (by decide) rfl (fun ls hl => ?_)
  refine lv_aload_nN hx hb dX10_rule_6 rfl (lv_at hl 0 rfl) ?_
  refine lv_ifnonnullN hx hb dX10_rule_7 ?_
  obtain ⟨sa, hsa⟩ := hG.S (166, "there is no such supplier") (by decide)
  exact vx_throwS (names := xnms) (mc := 1) (ms := 6) (text := "there is no such supplier") (own := "Foundrymark") hx hb hl0 hown (by decide +kernel) (by decide +kernel) (hta _ mw0) (hta _ mw1) hsa (vx_hat (B := exB) (fun w hw => hta w (wx_168 w hw)) (by decide +kernel) (fun w hw => hG.B w hw)) (by decide +kernel) hG.U hG.N hS (hl.1.trans hml.symm) dX10_rule_10 dX10_rule_13 dX10_rule_14 dX10_rule_16 dX10_rule_19 (fun x hx9 => (hout x hx9).elim) (Nat.le_of_ble_eq_true rfl) (Nat.le_of_ble_eq_true rfl) (Nat.le_of_ble_eq_true rfl) (Nat.le_of_ble_eq_true rfl) hlocks (fun t hv hz hk => ⟨(), trivial, rfl, gF9 hS hz hk⟩) hS.2.2 (Nat.le_of_ble_eq_true rfl) (Nat.le_of_ble_eq_true rfl)

set_option maxHeartbeats 4000000 in
set_option maxRecDepth 100000 in
theorem c_X10_lots (l : Launch) {D : va_G} {h0 a1 a2 a3 a4 a5 h6 s0 s1 s2 s3 : Nat} {t1 t2 t3 t4 t5 : ClassId} : Met l ⟨"Foundrymark", "lots", "()I"⟩ (wsC ⟨"Foundrymark", "lots", "()I"⟩ cX10_lots 1 (some .int)) ({ frames := 0, cells := 0, slots := 0, locals := 0 }) (va_Pc [.ref h0] (gR D (wX h0 a1 a2 a3 a4 a5 h6 s0 s1 s2 s3 t1 t2 t3 t4 t5) (tX t1 t2 t3 t4 t5))) (vp_Si (fun r => r = 0)) 0 0 (fun _ => False) := by
  refine Met.ofW (cc := cX10_lots) (maxL := 1) (ret := (some .int)) (by decide) rfl ?_
  intro p e s m args below meth c s₁ B hml hv
  obtain ⟨rfl, hP, hK⟩ := hv
  have hx := B.exec
  have hb := B.bytes
  have hr := B.returns
  have hlocks := B.notSynchronized
  have hts := atoms_spec (ws := wsC ⟨"Foundrymark", "lots", "()I"⟩ cX10_lots 1 (some .int)) B.pre
  have hta : ∀ w ∈ WA, w.before _ s = true := fun w h => hts w (List.mem_cons_of_mem _ h)
  have hown : s.vm.findClass "Foundrymark" = some m.cls := findClass_of_methodNamed B.named
  have hP : va_P D vwCl (wX h0 a1 a2 a3 a4 a5 h6 s0 s1 s2 s3 t1 t2 t3 t4 t5) s.heap := hP
  have hl := lv_entry ([.ref h0]) (n := 1) (Nat.le_of_ble_eq_true rfl)
  rw [lg_entry_eq]
  generalize (lg_sl ([.ref h0]) ++ List.replicate (1 - (lg_sl ([.ref h0])).length) Slot.unset).toArray = ls at hl ⊢
  have hl : lv_has ls 1 [(0, .ref h0)] := hl
  refine lv_aload_n hx hb dX10_lots_0 rfl (lv_at hl 0 rfl) ?_
  refine va_get (D := D) (ci := 15) (v := .int 0) (C := RX10) (T := TX10) (N := 14) hx hb hta iwX10 hown hK hP 0 rfl rfl 8 (by decide) (hta _ mw29) (fun _ h9 => h9) rfl dX10_lots_1 ?_
  exact W.iret (v := 0) hx hb hr (fun t ht hWm => ⟨_, rfl, rfl, ht⟩) (fun q h => absurd h List.not_mem_nil) dX10_lots_4
end
section
set_option maxHeartbeats 4000000 in
set_option maxRecDepth 100000 in
theorem c_X10_areLotsSound (l : Launch) {D : va_G} {h0 a1 a2 a3 a4 a5 h6 s0 s1 s2 s3 : Nat} {t1 t2 t3 t4 t5 : ClassId} : Met l ⟨"Foundrymark", "areLotsSound", "()Z"⟩ (wsC ⟨"Foundrymark", "areLotsSound", "()Z"⟩ cX10_areLotsSound 5 (some .boolean)) ({ frames := 0, cells := 0, slots := 0, locals := 0 }) (va_Pc [.ref h0] (gR D (wX h0 a1 a2 a3 a4 a5 h6 s0 s1 s2 s3 t1 t2 t3 t4 t5) (tX t1 t2 t3 t4 t5))) (vp_Si (fun r => r = 1)) 0 0 (fun _ => False) := by
  refine Met.ofW (cc := cX10_areLotsSound) (maxL := 5) (ret := (some .boolean)) (by decide) rfl ?_
  intro p e s m args below meth c s₁ B hml hv
  obtain ⟨rfl, hP, hK⟩ := hv
  have hx := B.exec
  have hb := B.bytes
  have hr := B.returns
  have hlocks := B.notSynchronized
  have hts := atoms_spec (ws := wsC ⟨"Foundrymark", "areLotsSound", "()Z"⟩ cX10_areLotsSound 5 (some .boolean)) B.pre
  have hta : ∀ w ∈ WA, w.before _ s = true := fun w h => hts w (List.mem_cons_of_mem _ h)
  have hown : s.vm.findClass "Foundrymark" = some m.cls := findClass_of_methodNamed B.named
  have hP : va_P D vwCl (wX h0 a1 a2 a3 a4 a5 h6 s0 s1 s2 s3 t1 t2 t3 t4 t5) s.heap := hP
  have hl := lv_entry ([.ref h0]) (n := 5) (Nat.le_of_ble_eq_true rfl)
  rw [lg_entry_eq]
  generalize (lg_sl ([.ref h0]) ++ List.replicate (5 - (lg_sl ([.ref h0])).length) Slot.unset).toArray = ls at hl ⊢
  have hl : lv_has ls 5 [(0, .ref h0)] := hl
  refine lv_aload_n hx hb dX10_areLotsSound_0 rfl (lv_at hl 0 rfl) ?_
  refine va_get (D := D) (ci := 15) (v := .ref a4) (C := RX10) (T := TX10) (N := 14) hx hb hta iwX10 hown hK hP 0 rfl rfl 3 (by decide) (hta _ mw4) (fun _ h9 => h9) rfl dX10_areLotsSound_1 ?_
  refine lv_astore_n (lv' := [(1, .ref a4), (0, .ref h0)]) hx hb dX10_areLotsSound_4 rfl hl (by decide) rfl (fun ls hl => ?_)
  refine lv_aload_n hx hb dX10_areLotsSound_5 rfl (lv_at hl 0 rfl) ?_
  refine va_alen hx hb hK hP 4 3 rfl rfl (v := 90) rfl dX10_areLotsSound_6 ?_
  refine lv_istore_n (lv' := [(2, .int 90), (1, .ref a4), (0, .ref h0)]) hx hb dX10_areLotsSound_7 rfl hl (by decide) rfl (fun ls hl => ?_)
  refine lv_iconst (v := 0) hx hb dX10_areLotsSound_8 (by decide) ?_
  refine lv_istore_n (lv' := [(3, .int 0), (2, .int 90), (1, .ref a4), (0, .ref h0)]) hx hb dX10_areLotsSound_9 rfl hl (by decide) rfl (fun ls hl => ?_)
  refine loop_g (σ := Array Slot) (Wg := fun ls => W p l e _ s m _ below meth c _ _ _ _ _ (F0 m 10 ls [])) 90 (fun j1 ls => lv_has ls 5 [(0, .ref h0), (1, .ref a4), (2, .int 90), (3, .int (nI j1))]) (fun j1 hj2 ih3 ls hl => ?_) (fun ls hl => ?_) ls (lv_sub hl [3, 2, 1, 0] rfl)
  · skip
    refine lv_iload_n hx hb dX10_areLotsSound_10 rfl (lv_at hl 3 rfl) ?_
    refine lv_iload_n hx hb dX10_areLotsSound_11 rfl (lv_at hl 2 rfl) ?_
    refine lv_icmp_ge (tgt := 60) hx hb dX10_areLotsSound_12 (by decide) (fun c4 => ?_) (fun c4 => ?_)
    · exact absurd c4 (nI_ge (a := j1) (b := 90) hj2 (by decide))
    · skip
      refine lv_aload_n hx hb dX10_areLotsSound_15 rfl (lv_at hl 1 rfl) ?_
      refine lv_iload_n hx hb dX10_areLotsSound_16 rfl (lv_at hl 3 rfl) ?_
      refine va_aldq hx hb hK hP 4 3 rfl rfl (i := nI j1) (vp_in_nI hj2 (by decide)) dX10_areLotsSound_17 ?_
      refine W.eq (g2 := F0 m 18 ls [.null]) rfl ?_
      refine lv_astoreN (lv' := [(4, .null), (0, .ref h0), (1, .ref a4), (2, .int 90), (3, .int (nI j1))]) hx hb dX10_areLotsSound_18 hl (by decide) rfl (fun ls hl => ?_)
      refine lv_aloadN hx hb dX10_areLotsSound_20 (lv_at hl 0 rfl) ?_
      refine lv_ifnullN (tgt := 54) hx hb dX10_areLotsSound_22 (by decide) ?_
      refine lv_iinc (v := nI (j1 + 1)) (lv' := [(3, .int (nI (j1 + 1))), (4, .null), (0, .ref h0), (1, .ref a4), (2, .int 90)]) hx hb dX10_areLotsSound_54 hl (k := 4) rfl (nI_1 _) (by decide) rfl (fun ls hl => ?_)
      refine lv_goto (tgt := 10) hx hb dX10_areLotsSound_57 (by decide) ?_
      refine ih3 _ ?_
      exact lv_sub hl [2, 3, 4, 0] rfl
  · skip
    refine lv_iload_n hx hb dX10_areLotsSound_10 rfl (lv_at hl 3 rfl) ?_
    refine lv_iload_n hx hb dX10_areLotsSound_11 rfl (lv_at hl 2 rfl) ?_
    refine lv_icmp_ge (tgt := 60) hx hb dX10_areLotsSound_12 (by decide) (fun c5 => ?_) (fun c5 => ?_)
    · skip
      refine lv_iconst (v := 1) hx hb dX10_areLotsSound_60 (by decide) ?_
      exact W.zret (v := 1) (ty := .boolean) hx hb hr (by decide) (fun t ht hWm => ⟨_, rfl, rfl, ht⟩) (fun q h => absurd h List.not_mem_nil) dX10_areLotsSound_61
    · exact absurd (nI_le (a := 90) (b := 90) (Nat.le_refl _) (by decide)) c5

set_option maxHeartbeats 4000000 in
set_option maxRecDepth 100000 in
theorem c_X10_areJobsSound (l : Launch) {D : va_G} {h0 a1 a2 a3 a4 a5 h6 s0 s1 s2 s3 : Nat} {t1 t2 t3 t4 t5 : ClassId} : Met l ⟨"Foundrymark", "areJobsSound", "()Z"⟩ (wsC ⟨"Foundrymark", "areJobsSound", "()Z"⟩ cX10_areJobsSound 6 (some .boolean)) ({ frames := 0, cells := 0, slots := 0, locals := 0 }) (va_Pc [.ref h0] (gR D (wX h0 a1 a2 a3 a4 a5 h6 s0 s1 s2 s3 t1 t2 t3 t4 t5) (tX t1 t2 t3 t4 t5))) (vp_Si (fun r => r = 1)) 0 0 (fun _ => False) := by
  refine Met.ofW (cc := cX10_areJobsSound) (maxL := 6) (ret := (some .boolean)) (by decide) rfl ?_
  intro p e s m args below meth c s₁ B hml hv
  obtain ⟨rfl, hP, hK⟩ := hv
  have hx := B.exec
  have hb := B.bytes
  have hr := B.returns
  have hlocks := B.notSynchronized
  have hts := atoms_spec (ws := wsC ⟨"Foundrymark", "areJobsSound", "()Z"⟩ cX10_areJobsSound 6 (some .boolean)) B.pre
  have hta : ∀ w ∈ WA, w.before _ s = true := fun w h => hts w (List.mem_cons_of_mem _ h)
  have hown : s.vm.findClass "Foundrymark" = some m.cls := findClass_of_methodNamed B.named
  have hP : va_P D vwCl (wX h0 a1 a2 a3 a4 a5 h6 s0 s1 s2 s3 t1 t2 t3 t4 t5) s.heap := hP
  have hl := lv_entry ([.ref h0]) (n := 6) (Nat.le_of_ble_eq_true rfl)
  rw [lg_entry_eq]
  generalize (lg_sl ([.ref h0]) ++ List.replicate (6 - (lg_sl ([.ref h0])).length) Slot.unset).toArray = ls at hl ⊢
  have hl : lv_has ls 6 [(0, .ref h0)] := hl
  refine lv_iconst (v := 0) hx hb dX10_areJobsSound_0 (by decide) ?_
  refine lv_istore_n (lv' := [(1, .int 0), (0, .ref h0)]) hx hb dX10_areJobsSound_1 rfl hl (by decide) rfl (fun ls hl => ?_)
  refine lv_aload_n hx hb dX10_areJobsSound_2 rfl (lv_at hl 1 rfl) ?_
  refine va_get (D := D) (ci := 15) (v := .ref a5) (C := RX10) (T := TX10) (N := 14) hx hb hta iwX10 hown hK hP 0 rfl rfl 4 (by decide) (hta _ mw5) (fun _ h9 => h9) rfl dX10_areJobsSound_3 ?_
  refine lv_astore_n (lv' := [(2, .ref a5), (1, .int 0), (0, .ref h0)]) hx hb dX10_areJobsSound_6 rfl hl (by decide) rfl (fun ls hl => ?_)
  refine lv_aload_n hx hb dX10_areJobsSound_7 rfl (lv_at hl 0 rfl) ?_
  refine va_alen hx hb hK hP 5 4 rfl rfl (v := 30) rfl dX10_areJobsSound_8 ?_
  refine lv_istore_n (lv' := [(3, .int 30), (2, .ref a5), (1, .int 0), (0, .ref h0)]) hx hb dX10_areJobsSound_9 rfl hl (by decide) rfl (fun ls hl => ?_)
  refine lv_iconst (v := 0) hx hb dX10_areJobsSound_10 (by decide) ?_
  refine lv_istore (lv' := [(4, .int 0), (3, .int 30), (2, .ref a5), (1, .int 0), (0, .ref h0)]) hx hb dX10_areJobsSound_11 hl (by decide) rfl (fun ls hl => ?_)
  refine loop_g (σ := Array Slot) (Wg := fun ls => W p l e _ s m _ below meth c _ _ _ _ _ (F0 m 13 ls [])) 30 (fun j1 ls => lv_has ls 6 [(0, .ref h0), (1, .int 0), (2, .ref a5), (3, .int 30), (4, .int (nI j1))]) (fun j1 hj2 ih3 ls hl => ?_) (fun ls hl => ?_) ls (lv_sub hl [4, 3, 2, 1, 0] rfl)
  · skip
    refine lv_iload hx hb dX10_areJobsSound_13 (lv_at hl 4 rfl) ?_
    refine lv_iload_n hx hb dX10_areJobsSound_15 rfl (lv_at hl 3 rfl) ?_
    refine lv_icmp_ge (tgt := 54) hx hb dX10_areJobsSound_16 (by decide) (fun c4 => ?_) (fun c4 => ?_)
    · exact absurd c4 (nI_ge (a := j1) (b := 30) hj2 (by decide))
    · skip
      refine lv_aload_n hx hb dX10_areJobsSound_19 rfl (lv_at hl 2 rfl) ?_
      refine lv_iload hx hb dX10_areJobsSound_20 (lv_at hl 4 rfl) ?_
      refine va_aldq hx hb hK hP 5 4 rfl rfl (i := nI j1) (vp_in_nI hj2 (by decide)) dX10_areJobsSound_22 ?_
      refine W.eq (g2 := F0 m 23 ls [.null]) rfl ?_
      refine lv_astoreN (lv' := [(5, .null), (0, .ref h0), (1, .int 0), (2, .ref a5), (3, .int 30), (4, .int (nI j1))]) hx hb dX10_areJobsSound_23 hl (by decide) rfl (fun ls hl => ?_)
      refine lv_aloadN hx hb dX10_areJobsSound_25 (lv_at hl 0 rfl) ?_
      refine lv_ifnullN (tgt := 48) hx hb dX10_areJobsSound_27 (by decide) ?_
      refine lv_iinc (v := nI (j1 + 1)) (lv' := [(4, .int (nI (j1 + 1))), (5, .null), (0, .ref h0), (1, .int 0), (2, .ref a5), (3, .int 30)]) hx hb dX10_areJobsSound_48 hl (k := 5) rfl (nI_1 _) (by decide) rfl (fun ls hl => ?_)
      refine lv_goto (tgt := 13) hx hb dX10_areJobsSound_51 (by decide) ?_
      refine ih3 _ ?_
      exact lv_sub hl [2, 3, 4, 5, 0] rfl
  · skip
    refine lv_iload hx hb dX10_areJobsSound_13 (lv_at hl 4 rfl) ?_
    refine lv_iload_n hx hb dX10_areJobsSound_15 rfl (lv_at hl 3 rfl) ?_
    refine lv_icmp_ge (tgt := 54) hx hb dX10_areJobsSound_16 (by decide) (fun c5 => ?_) (fun c5 => ?_)
    · skip
      refine lv_aload_n hx hb dX10_areJobsSound_54 rfl (lv_at hl 0 rfl) ?_
      refine va_get (D := D) (ci := 15) (v := .ref a4) (C := RX10) (T := TX10) (N := 14) hx hb hta iwX10 hown hK hP 0 rfl rfl 3 (by decide) (hta _ mw4) (fun _ h9 => h9) rfl dX10_areJobsSound_55 ?_
      refine lv_astore_n (lv' := [(2, .ref a4), (0, .ref h0), (1, .int 0), (3, .int 30), (4, .int (nI 30))]) hx hb dX10_areJobsSound_58 rfl hl (by decide) rfl (fun ls hl => ?_)
      refine lv_aload_n hx hb dX10_areJobsSound_59 rfl (lv_at hl 0 rfl) ?_
      refine va_alen hx hb hK hP 4 3 rfl rfl (v := 90) rfl dX10_areJobsSound_60 ?_
      refine lv_istore_n (lv' := [(3, .int 90), (2, .ref a4), (0, .ref h0), (1, .int 0), (4, .int (nI 30))]) hx hb dX10_areJobsSound_61 rfl hl (by decide) rfl (fun ls hl => ?_)
      refine lv_iconst (v := 0) hx hb dX10_areJobsSound_62 (by decide) ?_
      refine lv_istore (lv' := [(4, .int 0), (3, .int 90), (2, .ref a4), (0, .ref h0), (1, .int 0)]) hx hb dX10_areJobsSound_63 hl (by decide) rfl (fun ls hl => ?_)
      refine loop_g (σ := Array Slot) (Wg := fun ls => W p l e _ s m _ below meth c _ _ _ _ _ (F0 m 65 ls [])) 90 (fun j6 ls => lv_has ls 6 [(0, .ref h0), (1, .int 0), (2, .ref a4), (3, .int 90), (4, .int (nI j6))]) (fun j6 hj7 ih8 ls hl => ?_) (fun ls hl => ?_) ls (lv_sub hl [3, 4, 2, 1, 0] rfl)
      · skip
        refine lv_iload hx hb dX10_areJobsSound_65 (lv_at hl 4 rfl) ?_
        refine lv_iload_n hx hb dX10_areJobsSound_67 rfl (lv_at hl 3 rfl) ?_
        refine lv_icmp_ge (tgt := 100) hx hb dX10_areJobsSound_68 (by decide) (fun c9 => ?_) (fun c9 => ?_)
        · exact absurd c9 (nI_ge (a := j6) (b := 90) hj7 (by decide))
        · skip
          refine lv_aload_n hx hb dX10_areJobsSound_71 rfl (lv_at hl 2 rfl) ?_
          refine lv_iload hx hb dX10_areJobsSound_72 (lv_at hl 4 rfl) ?_
          refine va_aldq hx hb hK hP 4 3 rfl rfl (i := nI j6) (vp_in_nI hj7 (by decide)) dX10_areJobsSound_74 ?_
          refine W.eq (g2 := F0 m 75 ls [.null]) rfl ?_
          refine lv_astoreN (lv' := [(5, .null), (0, .ref h0), (1, .int 0), (2, .ref a4), (3, .int 90), (4, .int (nI j6))]) hx hb dX10_areJobsSound_75 hl (by decide) rfl (fun ls hl => ?_)
          refine lv_iload_n hx hb dX10_areJobsSound_77 rfl (lv_at hl 2 rfl) ?_
          refine lv_aloadN hx hb dX10_areJobsSound_78 (lv_at hl 0 rfl) ?_
          refine lv_ifnullN (tgt := 91) hx hb dX10_areJobsSound_80 (by decide) ?_
          refine lv_iconst (v := 0) hx hb dX10_areJobsSound_91 (by decide) ?_
          refine lv_isub hx hb dX10_areJobsSound_92 ?_
          refine lv_topi (fun x10 ex10 => ?_)
          obtain rfl : x10 = 0 := ex10.trans (by decide)
          refine lv_istore_n (lv' := [(1, .int 0), (5, .null), (0, .ref h0), (2, .ref a4), (3, .int 90), (4, .int (nI j6))]) hx hb dX10_areJobsSound_93 rfl hl (by decide) rfl (fun ls hl => ?_)
          refine lv_iinc (v := nI (j6 + 1)) (lv' := [(4, .int (nI (j6 + 1))), (1, .int 0), (5, .null), (0, .ref h0), (2, .ref a4), (3, .int 90)]) hx hb dX10_areJobsSound_94 hl (k := 5) rfl (nI_1 _) (by decide) rfl (fun ls hl => ?_)
          refine lv_goto (tgt := 65) hx hb dX10_areJobsSound_97 (by decide) ?_
          refine ih8 _ ?_
          have a8 : 0 = 0 := by decide
          rw [a8]
          exact lv_sub hl [3, 1, 4, 5, 0] rfl
      · skip
        refine lv_iload hx hb dX10_areJobsSound_65 (lv_at hl 4 rfl) ?_
        refine lv_iload_n hx hb dX10_areJobsSound_67 rfl (lv_at hl 3 rfl) ?_
        refine lv_icmp_ge (tgt := 100) hx hb dX10_areJobsSound_68 (by decide) (fun c11 => ?_) (fun c11 => ?_)
        · skip
          refine lv_iload_n hx hb dX10_areJobsSound_100 rfl (lv_at hl 1 rfl) ?_
          refine lv_if_ne (tgt := 108) hx hb dX10_areJobsSound_101 (by decide) (fun c12 => ?_) (fun c12 => ?_)
          · exact absurd c12 (by decide)
          · skip
            refine lv_iconst (v := 1) hx hb dX10_areJobsSound_104 (by decide) ?_
            refine lv_goto (tgt := 109) hx hb dX10_areJobsSound_105 (by decide) ?_
            exact W.zret (v := 1) (ty := .boolean) hx hb hr (by decide) (fun t ht hWm => ⟨_, rfl, rfl, ht⟩) (fun q h => absurd h List.not_mem_nil) dX10_areJobsSound_109
        · exact absurd (nI_le (a := 90) (b := 90) (Nat.le_refl _) (by decide)) c11
    · exact absurd (nI_le (a := 30) (b := 30) (Nat.le_refl _) (by decide)) c5

set_option maxHeartbeats 4000000 in
set_option maxRecDepth 100000 in
theorem c_X10_areCostsSound (l : Launch) {D : va_G} {h0 a1 a2 a3 a4 a5 h6 s0 s1 s2 s3 : Nat} {t1 t2 t3 t4 t5 : ClassId} : Met l ⟨"Foundrymark", "areCostsSound", "()Z"⟩ (wsC ⟨"Foundrymark", "areCostsSound", "()Z"⟩ cX10_areCostsSound 7 (some .boolean)) ({ frames := 0, cells := 0, slots := 0, locals := 0 }) (va_Pc [.ref h0] (gR D (wX h0 a1 a2 a3 a4 a5 h6 s0 s1 s2 s3 t1 t2 t3 t4 t5) (tX t1 t2 t3 t4 t5))) (vp_Si (fun r => r = 1)) 0 0 (fun _ => False) := by
  refine Met.ofW (cc := cX10_areCostsSound) (maxL := 7) (ret := (some .boolean)) (by decide) rfl ?_
  intro p e s m args below meth c s₁ B hml hv
  obtain ⟨rfl, hP, hK⟩ := hv
  have hx := B.exec
  have hb := B.bytes
  have hr := B.returns
  have hlocks := B.notSynchronized
  have hts := atoms_spec (ws := wsC ⟨"Foundrymark", "areCostsSound", "()Z"⟩ cX10_areCostsSound 7 (some .boolean)) B.pre
  have hta : ∀ w ∈ WA, w.before _ s = true := fun w h => hts w (List.mem_cons_of_mem _ h)
  have hown : s.vm.findClass "Foundrymark" = some m.cls := findClass_of_methodNamed B.named
  have hP : va_P D vwCl (wX h0 a1 a2 a3 a4 a5 h6 s0 s1 s2 s3 t1 t2 t3 t4 t5) s.heap := hP
  have hl := lv_entry ([.ref h0]) (n := 7) (Nat.le_of_ble_eq_true rfl)
  rw [lg_entry_eq]
  generalize (lg_sl ([.ref h0]) ++ List.replicate (7 - (lg_sl ([.ref h0])).length) Slot.unset).toArray = ls at hl ⊢
  have hl : lv_has ls 7 [(0, .ref h0)] := hl
  refine lv_aload_n hx hb dX10_areCostsSound_0 rfl (lv_at hl 0 rfl) ?_
  refine va_get (D := D) (ci := 15) (v := .long 0) (C := RX10) (T := TX10) (N := 14) hx hb hta iwX10 hown hK hP 0 rfl rfl 13 (by decide) (hta _ mw30) (fun _ h9 => h9) rfl dX10_areCostsSound_1 ?_
  refine lv_lstore_n (lv' := [(1, .long 0), (0, .ref h0)]) hx hb dX10_areCostsSound_4 rfl hl (by decide) rfl (fun ls hl => ?_)
  refine lv_aload_n hx hb dX10_areCostsSound_5 rfl (lv_at hl 1 rfl) ?_
  refine va_get (D := D) (ci := 15) (v := .ref a4) (C := RX10) (T := TX10) (N := 14) hx hb hta iwX10 hown hK hP 0 rfl rfl 3 (by decide) (hta _ mw4) (fun _ h9 => h9) rfl dX10_areCostsSound_6 ?_
  refine lv_astore_n (lv' := [(3, .ref a4), (1, .long 0), (0, .ref h0)]) hx hb dX10_areCostsSound_9 rfl hl (by decide) rfl (fun ls hl => ?_)
  refine lv_aload_n hx hb dX10_areCostsSound_10 rfl (lv_at hl 0 rfl) ?_
  refine va_alen hx hb hK hP 4 3 rfl rfl (v := 90) rfl dX10_areCostsSound_11 ?_
  refine lv_istore (lv' := [(4, .int 90), (3, .ref a4), (1, .long 0), (0, .ref h0)]) hx hb dX10_areCostsSound_12 hl (by decide) rfl (fun ls hl => ?_)
  refine lv_iconst (v := 0) hx hb dX10_areCostsSound_14 (by decide) ?_
  refine lv_istore (lv' := [(5, .int 0), (4, .int 90), (3, .ref a4), (1, .long 0), (0, .ref h0)]) hx hb dX10_areCostsSound_15 hl (by decide) rfl (fun ls hl => ?_)
  refine loop_g (σ := Array Slot) (Wg := fun ls => W p l e _ s m _ below meth c _ _ _ _ _ (F0 m 17 ls [])) 90 (fun j1 ls => lv_has ls 7 [(0, .ref h0), (1, .long 0), (3, .ref a4), (4, .int 90), (5, .int (nI j1))]) (fun j1 hj2 ih3 ls hl => ?_) (fun ls hl => ?_) ls (lv_sub hl [4, 3, 2, 1, 0] rfl)
  · skip
    refine lv_iload hx hb dX10_areCostsSound_17 (lv_at hl 4 rfl) ?_
    refine lv_iload hx hb dX10_areCostsSound_19 (lv_at hl 3 rfl) ?_
    refine lv_icmp_ge (tgt := 53) hx hb dX10_areCostsSound_21 (by decide) (fun c4 => ?_) (fun c4 => ?_)
    · exact absurd c4 (nI_ge (a := j1) (b := 90) hj2 (by decide))
    · skip
      refine lv_aload_n hx hb dX10_areCostsSound_24 rfl (lv_at hl 2 rfl) ?_
      refine lv_iload hx hb dX10_areCostsSound_25 (lv_at hl 4 rfl) ?_
      refine va_aldq hx hb hK hP 4 3 rfl rfl (i := nI j1) (vp_in_nI hj2 (by decide)) dX10_areCostsSound_27 ?_
      refine W.eq (g2 := F0 m 28 ls [.null]) rfl ?_
      refine lv_astoreN (lv' := [(6, .null), (0, .ref h0), (1, .long 0), (3, .ref a4), (4, .int 90), (5, .int (nI j1))]) hx hb dX10_areCostsSound_28 hl (by decide) rfl (fun ls hl => ?_)
      refine lv_lload_n hx hb dX10_areCostsSound_30 rfl (lv_at hl 2 rfl) ?_
      refine lv_aloadN hx hb dX10_areCostsSound_31 (lv_at hl 0 rfl) ?_
      refine lv_ifnullN (tgt := 44) hx hb dX10_areCostsSound_33 (by decide) ?_
      refine lv_lconst (v := 0) hx hb dX10_areCostsSound_44 (by decide) ?_
      refine lv_ladd hx hb dX10_areCostsSound_45 ?_
      refine lv_lstore_n (lv' := [(1, .long (0 + 0)), (6, .null), (0, .ref h0), (3, .ref a4), (4, .int 90), (5, .int (nI j1))]) hx hb dX10_areCostsSound_46 rfl hl (by decide) rfl (fun ls hl => ?_)
      refine lv_iinc (v := nI (j1 + 1)) (lv' := [(5, .int (nI (j1 + 1))), (1, .long (0 + 0)), (6, .null), (0, .ref h0), (3, .ref a4), (4, .int 90)]) hx hb dX10_areCostsSound_47 hl (k := 5) rfl (nI_1 _) (by decide) rfl (fun ls hl => ?_)
      refine lv_goto (tgt := 17) hx hb dX10_areCostsSound_50 (by decide) ?_
      refine ih3 _ ?_
      have a8 : 0 = 0 + 0 := by decide
      rw [a8]
      exact lv_sub hl [3, 1, 4, 5, 0] rfl
  · skip
    refine lv_iload hx hb dX10_areCostsSound_17 (lv_at hl 4 rfl) ?_
    refine lv_iload hx hb dX10_areCostsSound_19 (lv_at hl 3 rfl) ?_
    refine lv_icmp_ge (tgt := 53) hx hb dX10_areCostsSound_21 (by decide) (fun c5 => ?_) (fun c5 => ?_)
    · skip
      refine lv_aload_n hx hb dX10_areCostsSound_53 rfl (lv_at hl 0 rfl) ?_
      refine va_get (D := D) (ci := 15) (v := .ref a5) (C := RX10) (T := TX10) (N := 14) hx hb hta iwX10 hown hK hP 0 rfl rfl 4 (by decide) (hta _ mw5) (fun _ h9 => h9) rfl dX10_areCostsSound_54 ?_
      refine lv_astore_n (lv' := [(3, .ref a5), (0, .ref h0), (1, .long 0), (4, .int 90), (5, .int (nI 90))]) hx hb dX10_areCostsSound_57 rfl hl (by decide) rfl (fun ls hl => ?_)
      refine lv_aload_n hx hb dX10_areCostsSound_58 rfl (lv_at hl 0 rfl) ?_
      refine va_alen hx hb hK hP 5 4 rfl rfl (v := 30) rfl dX10_areCostsSound_59 ?_
      refine lv_istore (lv' := [(4, .int 30), (3, .ref a5), (0, .ref h0), (1, .long 0), (5, .int (nI 90))]) hx hb dX10_areCostsSound_60 hl (by decide) rfl (fun ls hl => ?_)
      refine lv_iconst (v := 0) hx hb dX10_areCostsSound_62 (by decide) ?_
      refine lv_istore (lv' := [(5, .int 0), (4, .int 30), (3, .ref a5), (0, .ref h0), (1, .long 0)]) hx hb dX10_areCostsSound_63 hl (by decide) rfl (fun ls hl => ?_)
      refine loop_g (σ := Array Slot) (Wg := fun ls => W p l e _ s m _ below meth c _ _ _ _ _ (F0 m 65 ls [])) 30 (fun j6 ls => lv_has ls 7 [(0, .ref h0), (1, .long 0), (3, .ref a5), (4, .int 30), (5, .int (nI j6))]) (fun j6 hj7 ih8 ls hl => ?_) (fun ls hl => ?_) ls (lv_sub hl [3, 4, 2, 1, 0] rfl)
      · skip
        refine lv_iload hx hb dX10_areCostsSound_65 (lv_at hl 4 rfl) ?_
        refine lv_iload hx hb dX10_areCostsSound_67 (lv_at hl 3 rfl) ?_
        refine lv_icmp_ge (tgt := 110) hx hb dX10_areCostsSound_69 (by decide) (fun c9 => ?_) (fun c9 => ?_)
        · exact absurd c9 (nI_ge (a := j6) (b := 30) hj7 (by decide))
        · skip
          refine lv_aload_n hx hb dX10_areCostsSound_72 rfl (lv_at hl 2 rfl) ?_
          refine lv_iload hx hb dX10_areCostsSound_73 (lv_at hl 4 rfl) ?_
          refine va_aldq hx hb hK hP 5 4 rfl rfl (i := nI j6) (vp_in_nI hj7 (by decide)) dX10_areCostsSound_75 ?_
          refine W.eq (g2 := F0 m 76 ls [.null]) rfl ?_
          refine lv_astoreN (lv' := [(6, .null), (0, .ref h0), (1, .long 0), (3, .ref a5), (4, .int 30), (5, .int (nI j6))]) hx hb dX10_areCostsSound_76 hl (by decide) rfl (fun ls hl => ?_)
          refine lv_lload_n hx hb dX10_areCostsSound_78 rfl (lv_at hl 2 rfl) ?_
          refine lv_aloadN hx hb dX10_areCostsSound_79 (lv_at hl 0 rfl) ?_
          refine lv_ifnullN (tgt := 101) hx hb dX10_areCostsSound_81 (by decide) ?_
          refine lv_lconst (v := 0) hx hb dX10_areCostsSound_101 (by decide) ?_
          refine lv_ladd hx hb dX10_areCostsSound_102 ?_
          refine lv_lstore_n (lv' := [(1, .long (0 + 0)), (6, .null), (0, .ref h0), (3, .ref a5), (4, .int 30), (5, .int (nI j6))]) hx hb dX10_areCostsSound_103 rfl hl (by decide) rfl (fun ls hl => ?_)
          refine lv_iinc (v := nI (j6 + 1)) (lv' := [(5, .int (nI (j6 + 1))), (1, .long (0 + 0)), (6, .null), (0, .ref h0), (3, .ref a5), (4, .int 30)]) hx hb dX10_areCostsSound_104 hl (k := 5) rfl (nI_1 _) (by decide) rfl (fun ls hl => ?_)
          refine lv_goto (tgt := 65) hx hb dX10_areCostsSound_107 (by decide) ?_
          refine ih8 _ ?_
          have a8 : 0 = 0 + 0 := by decide
          rw [a8]
          exact lv_sub hl [3, 1, 4, 5, 0] rfl
      · skip
        refine lv_iload hx hb dX10_areCostsSound_65 (lv_at hl 4 rfl) ?_
        refine lv_iload hx hb dX10_areCostsSound_67 (lv_at hl 3 rfl) ?_
        refine lv_icmp_ge (tgt := 110) hx hb dX10_areCostsSound_69 (by decide) (fun c10 => ?_) (fun c10 => ?_)
        · skip
          refine lv_lload_n hx hb dX10_areCostsSound_110 rfl (lv_at hl 1 rfl) ?_
          refine lv_aload_n hx hb dX10_areCostsSound_111 rfl (lv_at hl 0 rfl) ?_
          refine va_get (D := D) (ci := 15) (v := .long 0) (C := RX10) (T := TX10) (N := 14) hx hb hta iwX10 hown hK hP 0 rfl rfl 12 (by decide) (hta _ mw31) (fun _ h9 => h9) rfl dX10_areCostsSound_112 ?_
          refine W.lcmp hx hb dX10_areCostsSound_115 ?_
          refine lv_if_ne (tgt := 123) hx hb dX10_areCostsSound_116 (by decide) (fun c11 => ?_) (fun c11 => ?_)
          · exact absurd c11 (fun z => z lgc)
          · skip
            refine lv_iconst (v := 1) hx hb dX10_areCostsSound_119 (by decide) ?_
            refine lv_goto (tgt := 124) hx hb dX10_areCostsSound_120 (by decide) ?_
            exact W.zret (v := 1) (ty := .boolean) hx hb hr (by decide) (fun t ht hWm => ⟨_, rfl, rfl, ht⟩) (fun q h => absurd h List.not_mem_nil) dX10_areCostsSound_124
        · exact absurd (nI_le (a := 30) (b := 30) (Nat.le_refl _) (by decide)) c10
    · exact absurd (nI_le (a := 90) (b := 90) (Nat.le_refl _) (by decide)) c5

set_option maxHeartbeats 4000000 in
set_option maxRecDepth 100000 in
theorem c_X10_arePromisesSound (l : Launch) {D : va_G} {h0 a1 a2 a3 a4 a5 h6 s0 s1 s2 s3 : Nat} {t1 t2 t3 t4 t5 : ClassId} : Met l ⟨"Foundrymark", "arePromisesSound", "()Z"⟩ (wsC ⟨"Foundrymark", "arePromisesSound", "()Z"⟩ cX10_arePromisesSound 5 (some .boolean)) ({ frames := 0, cells := 0, slots := 0, locals := 0 }) (va_Pc [.ref h0] (gR D (wX h0 a1 a2 a3 a4 a5 h6 s0 s1 s2 s3 t1 t2 t3 t4 t5) (tX t1 t2 t3 t4 t5))) (vp_Si (fun r => r = 1)) 0 0 (fun _ => False) := by
  refine Met.ofW (cc := cX10_arePromisesSound) (maxL := 5) (ret := (some .boolean)) (by decide) rfl ?_
  intro p e s m args below meth c s₁ B hml hv
  obtain ⟨rfl, hP, hK⟩ := hv
  have hx := B.exec
  have hb := B.bytes
  have hr := B.returns
  have hlocks := B.notSynchronized
  have hts := atoms_spec (ws := wsC ⟨"Foundrymark", "arePromisesSound", "()Z"⟩ cX10_arePromisesSound 5 (some .boolean)) B.pre
  have hta : ∀ w ∈ WA, w.before _ s = true := fun w h => hts w (List.mem_cons_of_mem _ h)
  have hown : s.vm.findClass "Foundrymark" = some m.cls := findClass_of_methodNamed B.named
  have hP : va_P D vwCl (wX h0 a1 a2 a3 a4 a5 h6 s0 s1 s2 s3 t1 t2 t3 t4 t5) s.heap := hP
  have hl := lv_entry ([.ref h0]) (n := 5) (Nat.le_of_ble_eq_true rfl)
  rw [lg_entry_eq]
  generalize (lg_sl ([.ref h0]) ++ List.replicate (5 - (lg_sl ([.ref h0])).length) Slot.unset).toArray = ls at hl ⊢
  have hl : lv_has ls 5 [(0, .ref h0)] := hl
  refine lv_aload_n hx hb dX10_arePromisesSound_0 rfl (lv_at hl 0 rfl) ?_
  refine va_get (D := D) (ci := 15) (v := .ref a4) (C := RX10) (T := TX10) (N := 14) hx hb hta iwX10 hown hK hP 0 rfl rfl 3 (by decide) (hta _ mw4) (fun _ h9 => h9) rfl dX10_arePromisesSound_1 ?_
  refine lv_astore_n (lv' := [(1, .ref a4), (0, .ref h0)]) hx hb dX10_arePromisesSound_4 rfl hl (by decide) rfl (fun ls hl => ?_)
  refine lv_aload_n hx hb dX10_arePromisesSound_5 rfl (lv_at hl 0 rfl) ?_
  refine va_alen hx hb hK hP 4 3 rfl rfl (v := 90) rfl dX10_arePromisesSound_6 ?_
  refine lv_istore_n (lv' := [(2, .int 90), (1, .ref a4), (0, .ref h0)]) hx hb dX10_arePromisesSound_7 rfl hl (by decide) rfl (fun ls hl => ?_)
  refine lv_iconst (v := 0) hx hb dX10_arePromisesSound_8 (by decide) ?_
  refine lv_istore_n (lv' := [(3, .int 0), (2, .int 90), (1, .ref a4), (0, .ref h0)]) hx hb dX10_arePromisesSound_9 rfl hl (by decide) rfl (fun ls hl => ?_)
  refine loop_g (σ := Array Slot) (Wg := fun ls => W p l e _ s m _ below meth c _ _ _ _ _ (F0 m 10 ls [])) 90 (fun j1 ls => lv_has ls 5 [(0, .ref h0), (1, .ref a4), (2, .int 90), (3, .int (nI j1))]) (fun j1 hj2 ih3 ls hl => ?_) (fun ls hl => ?_) ls (lv_sub hl [3, 2, 1, 0] rfl)
  · skip
    refine lv_iload_n hx hb dX10_arePromisesSound_10 rfl (lv_at hl 3 rfl) ?_
    refine lv_iload_n hx hb dX10_arePromisesSound_11 rfl (lv_at hl 2 rfl) ?_
    refine lv_icmp_ge (tgt := 78) hx hb dX10_arePromisesSound_12 (by decide) (fun c4 => ?_) (fun c4 => ?_)
    · exact absurd c4 (nI_ge (a := j1) (b := 90) hj2 (by decide))
    · skip
      refine lv_aload_n hx hb dX10_arePromisesSound_15 rfl (lv_at hl 1 rfl) ?_
      refine lv_iload_n hx hb dX10_arePromisesSound_16 rfl (lv_at hl 3 rfl) ?_
      refine va_aldq hx hb hK hP 4 3 rfl rfl (i := nI j1) (vp_in_nI hj2 (by decide)) dX10_arePromisesSound_17 ?_
      refine W.eq (g2 := F0 m 18 ls [.null]) rfl ?_
      refine lv_astoreN (lv' := [(4, .null), (0, .ref h0), (1, .ref a4), (2, .int 90), (3, .int (nI j1))]) hx hb dX10_arePromisesSound_18 hl (by decide) rfl (fun ls hl => ?_)
      refine lv_aloadN hx hb dX10_arePromisesSound_20 (lv_at hl 0 rfl) ?_
      refine lv_ifnullN (tgt := 72) hx hb dX10_arePromisesSound_22 (by decide) ?_
      refine lv_iinc (v := nI (j1 + 1)) (lv' := [(3, .int (nI (j1 + 1))), (4, .null), (0, .ref h0), (1, .ref a4), (2, .int 90)]) hx hb dX10_arePromisesSound_72 hl (k := 4) rfl (nI_1 _) (by decide) rfl (fun ls hl => ?_)
      refine lv_goto (tgt := 10) hx hb dX10_arePromisesSound_75 (by decide) ?_
      refine ih3 _ ?_
      exact lv_sub hl [2, 3, 4, 0] rfl
  · skip
    refine lv_iload_n hx hb dX10_arePromisesSound_10 rfl (lv_at hl 3 rfl) ?_
    refine lv_iload_n hx hb dX10_arePromisesSound_11 rfl (lv_at hl 2 rfl) ?_
    refine lv_icmp_ge (tgt := 78) hx hb dX10_arePromisesSound_12 (by decide) (fun c5 => ?_) (fun c5 => ?_)
    · skip
      refine lv_iconst (v := 1) hx hb dX10_arePromisesSound_78 (by decide) ?_
      exact W.zret (v := 1) (ty := .boolean) hx hb hr (by decide) (fun t ht hWm => ⟨_, rfl, rfl, ht⟩) (fun q h => absurd h List.not_mem_nil) dX10_arePromisesSound_79
    · exact absurd (nI_le (a := 90) (b := 90) (Nat.le_refl _) (by decide)) c5

set_option maxHeartbeats 4000000 in
set_option maxRecDepth 100000 in
theorem c_X10_areTracesSound (l : Launch) {D : va_G} {h0 a1 a2 a3 a4 a5 h6 s0 s1 s2 s3 : Nat} {t1 t2 t3 t4 t5 : ClassId} : Met l ⟨"Foundrymark", "areTracesSound", "()Z"⟩ (wsC ⟨"Foundrymark", "areTracesSound", "()Z"⟩ cX10_areTracesSound 5 (some .boolean)) ({ frames := 0, cells := 0, slots := 0, locals := 0 }) (va_Pc [.ref h0] (gR D (wX h0 a1 a2 a3 a4 a5 h6 s0 s1 s2 s3 t1 t2 t3 t4 t5) (tX t1 t2 t3 t4 t5))) (vp_Si (fun r => r = 1)) 0 0 (fun _ => False) := by
  refine Met.ofW (cc := cX10_areTracesSound) (maxL := 5) (ret := (some .boolean)) (by decide) rfl ?_
  intro p e s m args below meth c s₁ B hml hv
  obtain ⟨rfl, hP, hK⟩ := hv
  have hx := B.exec
  have hb := B.bytes
  have hr := B.returns
  have hlocks := B.notSynchronized
  have hts := atoms_spec (ws := wsC ⟨"Foundrymark", "areTracesSound", "()Z"⟩ cX10_areTracesSound 5 (some .boolean)) B.pre
  have hta : ∀ w ∈ WA, w.before _ s = true := fun w h => hts w (List.mem_cons_of_mem _ h)
  have hown : s.vm.findClass "Foundrymark" = some m.cls := findClass_of_methodNamed B.named
  have hP : va_P D vwCl (wX h0 a1 a2 a3 a4 a5 h6 s0 s1 s2 s3 t1 t2 t3 t4 t5) s.heap := hP
  have hl := lv_entry ([.ref h0]) (n := 5) (Nat.le_of_ble_eq_true rfl)
  rw [lg_entry_eq]
  generalize (lg_sl ([.ref h0]) ++ List.replicate (5 - (lg_sl ([.ref h0])).length) Slot.unset).toArray = ls at hl ⊢
  have hl : lv_has ls 5 [(0, .ref h0)] := hl
  refine lv_aload_n hx hb dX10_areTracesSound_0 rfl (lv_at hl 0 rfl) ?_
  refine va_get (D := D) (ci := 15) (v := .ref a4) (C := RX10) (T := TX10) (N := 14) hx hb hta iwX10 hown hK hP 0 rfl rfl 3 (by decide) (hta _ mw4) (fun _ h9 => h9) rfl dX10_areTracesSound_1 ?_
  refine lv_astore_n (lv' := [(1, .ref a4), (0, .ref h0)]) hx hb dX10_areTracesSound_4 rfl hl (by decide) rfl (fun ls hl => ?_)
  refine lv_aload_n hx hb dX10_areTracesSound_5 rfl (lv_at hl 0 rfl) ?_
  refine va_alen hx hb hK hP 4 3 rfl rfl (v := 90) rfl dX10_areTracesSound_6 ?_
  refine lv_istore_n (lv' := [(2, .int 90), (1, .ref a4), (0, .ref h0)]) hx hb dX10_areTracesSound_7 rfl hl (by decide) rfl (fun ls hl => ?_)
  refine lv_iconst (v := 0) hx hb dX10_areTracesSound_8 (by decide) ?_
  refine lv_istore_n (lv' := [(3, .int 0), (2, .int 90), (1, .ref a4), (0, .ref h0)]) hx hb dX10_areTracesSound_9 rfl hl (by decide) rfl (fun ls hl => ?_)
  refine loop_g (σ := Array Slot) (Wg := fun ls => W p l e _ s m _ below meth c _ _ _ _ _ (F0 m 10 ls [])) 90 (fun j1 ls => lv_has ls 5 [(0, .ref h0), (1, .ref a4), (2, .int 90), (3, .int (nI j1))]) (fun j1 hj2 ih3 ls hl => ?_) (fun ls hl => ?_) ls (lv_sub hl [3, 2, 1, 0] rfl)
  · skip
    refine lv_iload_n hx hb dX10_areTracesSound_10 rfl (lv_at hl 3 rfl) ?_
    refine lv_iload_n hx hb dX10_areTracesSound_11 rfl (lv_at hl 2 rfl) ?_
    refine lv_icmp_ge (tgt := 42) hx hb dX10_areTracesSound_12 (by decide) (fun c4 => ?_) (fun c4 => ?_)
    · exact absurd c4 (nI_ge (a := j1) (b := 90) hj2 (by decide))
    · skip
      refine lv_aload_n hx hb dX10_areTracesSound_15 rfl (lv_at hl 1 rfl) ?_
      refine lv_iload_n hx hb dX10_areTracesSound_16 rfl (lv_at hl 3 rfl) ?_
      refine va_aldq hx hb hK hP 4 3 rfl rfl (i := nI j1) (vp_in_nI hj2 (by decide)) dX10_areTracesSound_17 ?_
      refine W.eq (g2 := F0 m 18 ls [.null]) rfl ?_
      refine lv_astoreN (lv' := [(4, .null), (0, .ref h0), (1, .ref a4), (2, .int 90), (3, .int (nI j1))]) hx hb dX10_areTracesSound_18 hl (by decide) rfl (fun ls hl => ?_)
      refine lv_aloadN hx hb dX10_areTracesSound_20 (lv_at hl 0 rfl) ?_
      refine lv_ifnullN (tgt := 36) hx hb dX10_areTracesSound_22 (by decide) ?_
      refine lv_iinc (v := nI (j1 + 1)) (lv' := [(3, .int (nI (j1 + 1))), (4, .null), (0, .ref h0), (1, .ref a4), (2, .int 90)]) hx hb dX10_areTracesSound_36 hl (k := 4) rfl (nI_1 _) (by decide) rfl (fun ls hl => ?_)
      refine lv_goto (tgt := 10) hx hb dX10_areTracesSound_39 (by decide) ?_
      refine ih3 _ ?_
      exact lv_sub hl [2, 3, 4, 0] rfl
  · skip
    refine lv_iload_n hx hb dX10_areTracesSound_10 rfl (lv_at hl 3 rfl) ?_
    refine lv_iload_n hx hb dX10_areTracesSound_11 rfl (lv_at hl 2 rfl) ?_
    refine lv_icmp_ge (tgt := 42) hx hb dX10_areTracesSound_12 (by decide) (fun c5 => ?_) (fun c5 => ?_)
    · skip
      refine lv_iconst (v := 1) hx hb dX10_areTracesSound_42 (by decide) ?_
      exact W.zret (v := 1) (ty := .boolean) hx hb hr (by decide) (fun t ht hWm => ⟨_, rfl, rfl, ht⟩) (fun q h => absurd h List.not_mem_nil) dX10_areTracesSound_43
    · exact absurd (nI_le (a := 90) (b := 90) (Nat.le_refl _) (by decide)) c5

set_option maxHeartbeats 4000000 in
set_option maxRecDepth 100000 in
theorem c_X10_isSound (l : Launch) {D : va_G} {h0 a1 a2 a3 a4 a5 h6 s0 s1 s2 s3 : Nat} {t1 t2 t3 t4 t5 : ClassId} : Met l ⟨"Foundrymark", "isSound", "()Z"⟩ (wsC ⟨"Foundrymark", "isSound", "()Z"⟩ cX10_isSound 1 (some .boolean)) ({ frames := 1, cells := 0, slots := 0, locals := 26 }) (va_Pc [.ref h0] (gR D (wX h0 a1 a2 a3 a4 a5 h6 s0 s1 s2 s3 t1 t2 t3 t4 t5) (tX t1 t2 t3 t4 t5))) (vp_Si (fun r => r = 1)) 0 0 (fun _ => False) := by
  refine Met.ofW (cc := cX10_isSound) (maxL := 1) (ret := (some .boolean)) (by decide) rfl ?_
  intro p e s m args below meth c s₁ B hml hv
  obtain ⟨rfl, hP, hK⟩ := hv
  have hx := B.exec
  have hb := B.bytes
  have hr := B.returns
  have hlocks := B.notSynchronized
  have hts := atoms_spec (ws := wsC ⟨"Foundrymark", "isSound", "()Z"⟩ cX10_isSound 1 (some .boolean)) B.pre
  have hta : ∀ w ∈ WA, w.before _ s = true := fun w h => hts w (List.mem_cons_of_mem _ h)
  have hown : s.vm.findClass "Foundrymark" = some m.cls := findClass_of_methodNamed B.named
  have hP : va_P D vwCl (wX h0 a1 a2 a3 a4 a5 h6 s0 s1 s2 s3 t1 t2 t3 t4 t5) s.heap := hP
  have hl := lv_entry ([.ref h0]) (n := 1) (Nat.le_of_ble_eq_true rfl)
  rw [lg_entry_eq]
  generalize (lg_sl ([.ref h0]) ++ List.replicate (1 - (lg_sl ([.ref h0])).length) Slot.unset).toArray = ls at hl ⊢
  have hl : lv_has ls 1 [(0, .ref h0)] := hl
  refine lv_aload_n hx hb dX10_isSound_0 rfl (lv_at hl 0 rfl) ?_
  have hPc := hP.sub (ws' := (wX h0 a1 a2 a3 a4 a5 h6 s0 s1 s2 s3 t1 t2 t3 t4 t5)) [0, 1, 2, 3, 4, 5, 6, 7, 8, 9, 10] rfl
  have hKc := hK.sub (tys' := (tX t1 t2 t3 t4 t5)) [0, 1, 2, 3, 4] rfl
  refine vp_callSi (W.runV (As := []) (rest := []) ⟨hx, hb, hml, hown, hta⟩ (c_X10_areLotsSound l ) (cwV 0 hta (gWV mw33 mw34 mw35 mw10 mw32) rfl rfl rfl (by decide +kernel) ⟨Nat.le_of_ble_eq_true rfl, Nat.le_of_ble_eq_true rfl⟩) ⟨gR_blind, va_recv hKc hPc (ci := 15) (q0 := 0) rfl rfl, fun U hU hW => ⟨rfl, by rw [hU]; exact hPc, va_K.moved hW.alike hKc⟩⟩ rfl rfl hl.1 rfl (lv_room (Nat.le_of_ble_eq_true rfl)) dX10_isSound_1 ⟨Nat.zero_le _, Nat.zero_le _⟩) (fun r1 h2 => ?_)
  obtain rfl : r1 = 1 := h2
  refine lv_if_eq (tgt := 39) hx hb dX10_isSound_4 (by decide) (fun c3 => ?_) (fun c3 => ?_)
  · exact absurd c3 (by decide)
  · skip
    refine lv_aload_n hx hb dX10_isSound_7 rfl (lv_at hl 0 rfl) ?_
    have hPc := hP.sub (ws' := (wX h0 a1 a2 a3 a4 a5 h6 s0 s1 s2 s3 t1 t2 t3 t4 t5)) [0, 1, 2, 3, 4, 5, 6, 7, 8, 9, 10] rfl
    have hKc := hK.sub (tys' := (tX t1 t2 t3 t4 t5)) [0, 1, 2, 3, 4] rfl
    refine vp_callSi (W.runV (As := []) (rest := []) ⟨hx, hb, hml, hown, hta⟩ (c_X10_areJobsSound l ) (cwV 0 hta (gWV mw37 mw38 mw39 mw10 mw36) rfl rfl rfl (by decide +kernel) ⟨Nat.le_of_ble_eq_true rfl, Nat.le_of_ble_eq_true rfl⟩) ⟨gR_blind, va_recv hKc hPc (ci := 15) (q0 := 0) rfl rfl, fun U hU hW => ⟨rfl, by rw [hU]; exact hPc, va_K.moved hW.alike hKc⟩⟩ rfl rfl hl.1 rfl (lv_room (Nat.le_of_ble_eq_true rfl)) dX10_isSound_8 ⟨Nat.zero_le _, Nat.zero_le _⟩) (fun r4 h5 => ?_)
    obtain rfl : r4 = 1 := h5
    refine lv_if_eq (tgt := 39) hx hb dX10_isSound_11 (by decide) (fun c6 => ?_) (fun c6 => ?_)
    · exact absurd c6 (by decide)
    · skip
      refine lv_aload_n hx hb dX10_isSound_14 rfl (lv_at hl 0 rfl) ?_
      have hPc := hP.sub (ws' := (wX h0 a1 a2 a3 a4 a5 h6 s0 s1 s2 s3 t1 t2 t3 t4 t5)) [0, 1, 2, 3, 4, 5, 6, 7, 8, 9, 10] rfl
      have hKc := hK.sub (tys' := (tX t1 t2 t3 t4 t5)) [0, 1, 2, 3, 4] rfl
      refine vp_callSi (W.runV (As := []) (rest := []) ⟨hx, hb, hml, hown, hta⟩ (c_X10_areCostsSound l ) (cwV 0 hta (gWV mw41 mw42 mw43 mw10 mw40) rfl rfl rfl (by decide +kernel) ⟨Nat.le_of_ble_eq_true rfl, Nat.le_of_ble_eq_true rfl⟩) ⟨gR_blind, va_recv hKc hPc (ci := 15) (q0 := 0) rfl rfl, fun U hU hW => ⟨rfl, by rw [hU]; exact hPc, va_K.moved hW.alike hKc⟩⟩ rfl rfl hl.1 rfl (lv_room (Nat.le_of_ble_eq_true rfl)) dX10_isSound_15 ⟨Nat.zero_le _, Nat.zero_le _⟩) (fun r7 h8 => ?_)
      obtain rfl : r7 = 1 := h8
      refine lv_if_eq (tgt := 39) hx hb dX10_isSound_18 (by decide) (fun c9 => ?_) (fun c9 => ?_)
      · exact absurd c9 (by decide)
      · skip
        refine lv_aload_n hx hb dX10_isSound_21 rfl (lv_at hl 0 rfl) ?_
        have hPc := hP.sub (ws' := (wX h0 a1 a2 a3 a4 a5 h6 s0 s1 s2 s3 t1 t2 t3 t4 t5)) [0, 1, 2, 3, 4, 5, 6, 7, 8, 9, 10] rfl
        have hKc := hK.sub (tys' := (tX t1 t2 t3 t4 t5)) [0, 1, 2, 3, 4] rfl
        refine vp_callSi (W.runV (As := []) (rest := []) ⟨hx, hb, hml, hown, hta⟩ (c_X10_arePromisesSound l ) (cwV 0 hta (gWV mw45 mw46 mw47 mw10 mw44) rfl rfl rfl (by decide +kernel) ⟨Nat.le_of_ble_eq_true rfl, Nat.le_of_ble_eq_true rfl⟩) ⟨gR_blind, va_recv hKc hPc (ci := 15) (q0 := 0) rfl rfl, fun U hU hW => ⟨rfl, by rw [hU]; exact hPc, va_K.moved hW.alike hKc⟩⟩ rfl rfl hl.1 rfl (lv_room (Nat.le_of_ble_eq_true rfl)) dX10_isSound_22 ⟨Nat.zero_le _, Nat.zero_le _⟩) (fun r10 h11 => ?_)
        obtain rfl : r10 = 1 := h11
        refine lv_if_eq (tgt := 39) hx hb dX10_isSound_25 (by decide) (fun c12 => ?_) (fun c12 => ?_)
        · exact absurd c12 (by decide)
        · skip
          refine lv_aload_n hx hb dX10_isSound_28 rfl (lv_at hl 0 rfl) ?_
          have hPc := hP.sub (ws' := (wX h0 a1 a2 a3 a4 a5 h6 s0 s1 s2 s3 t1 t2 t3 t4 t5)) [0, 1, 2, 3, 4, 5, 6, 7, 8, 9, 10] rfl
          have hKc := hK.sub (tys' := (tX t1 t2 t3 t4 t5)) [0, 1, 2, 3, 4] rfl
          refine vp_callSi (W.runV (As := []) (rest := []) ⟨hx, hb, hml, hown, hta⟩ (c_X10_areTracesSound l ) (cwV 0 hta (gWV mw49 mw50 mw51 mw10 mw48) rfl rfl rfl (by decide +kernel) ⟨Nat.le_of_ble_eq_true rfl, Nat.le_of_ble_eq_true rfl⟩) ⟨gR_blind, va_recv hKc hPc (ci := 15) (q0 := 0) rfl rfl, fun U hU hW => ⟨rfl, by rw [hU]; exact hPc, va_K.moved hW.alike hKc⟩⟩ rfl rfl hl.1 rfl (lv_room (Nat.le_of_ble_eq_true rfl)) dX10_isSound_29 ⟨Nat.zero_le _, Nat.zero_le _⟩) (fun r13 h14 => ?_)
          obtain rfl : r13 = 1 := h14
          refine lv_if_eq (tgt := 39) hx hb dX10_isSound_32 (by decide) (fun c15 => ?_) (fun c15 => ?_)
          · exact absurd c15 (by decide)
          · skip
            refine lv_iconst (v := 1) hx hb dX10_isSound_35 (by decide) ?_
            refine lv_goto (tgt := 40) hx hb dX10_isSound_36 (by decide) ?_
            exact W.zret (v := 1) (ty := .boolean) hx hb hr (by decide) (fun t ht hWm => ⟨_, rfl, rfl, ht⟩) (fun q h => absurd h List.not_mem_nil) dX10_isSound_40
end
section
set_option maxHeartbeats 4000000 in
set_option maxRecDepth 100000 in
theorem c_X10_inTimeShare (l : Launch) (hl0 : l.stackTraces = false) {D : va_G} {tE sz : Nat} {h0 a1 a2 a3 a4 a5 h6 s0 s1 s2 s3 : Nat} {t1 t2 t3 t4 t5 : ClassId} : vx_Met l ⟨"Foundrymark", "inTimeShare", "()F"⟩ (wsC ⟨"Foundrymark", "inTimeShare", "()F"⟩ cX10_inTimeShare 7 (some .float)) ({ frames := 6, cells := 1, slots := 6, locals := 98 }) (va_Pc [.ref h0] (gS tE D (wX h0 a1 a2 a3 a4 a5 h6 s0 s1 s2 s3 t1 t2 t3 t4 t5) (tX t1 t2 t3 t4 t5) sz)) (fun _ _ _ _ => False) (vx_X (fun _ : Unit => True) (fun E9 _ _ => E9 = "java/lang/ArithmeticException") (va_A (wX h0 a1 a2 a3 a4 a5 h6 s0 s1 s2 s3 t1 t2 t3 t4 t5) sz)) 1 6 (va_A (wX h0 a1 a2 a3 a4 a5 h6 s0 s1 s2 s3 t1 t2 t3 t4 t5) sz) := by
  refine vx_ofW (cc := cX10_inTimeShare) (maxL := 7) (ret := (some .float)) (by decide) rfl ?_
  intro p e s m args below meth c s₁ B hml hout hv
  obtain ⟨rfl, hsz, hP, hK, hD0, hG⟩ := hv
  have hx := B.exec
  have hb := B.bytes
  have hr := B.returns
  have hlocks := B.notSynchronized
  have hts := atoms_spec (ws := wsC ⟨"Foundrymark", "inTimeShare", "()F"⟩ cX10_inTimeShare 7 (some .float)) B.pre
  have hta : ∀ w ∈ WA, w.before _ s = true := fun w h => hts w (List.mem_cons_of_mem _ h)
  have hown : s.vm.findClass "Foundrymark" = some m.cls := findClass_of_methodNamed B.named
  subst hsz
  have hD : va_D (va_A (wX h0 a1 a2 a3 a4 a5 h6 s0 s1 s2 s3 t1 t2 t3 t4 t5) s.heap.size) (wX h0 a1 a2 a3 a4 a5 h6 s0 s1 s2 s3 t1 t2 t3 t4 t5) := hD0.self (sz := s.heap.size)
  generalize hAe : va_A (wX h0 a1 a2 a3 a4 a5 h6 s0 s1 s2 s3 t1 t2 t3 t4 t5) s.heap.size = A at hD hG ⊢
  have hA : ∀ q : Nat, s.heap.size ≤ q → A q := fun q h => by rw [← hAe]; exact Or.inr h
  have hS : va_S A s.heap s.heap [] := va_S.rf
  have hP : va_P D vwCl (wX h0 a1 a2 a3 a4 a5 h6 s0 s1 s2 s3 t1 t2 t3 t4 t5) s.heap := hP
  have hl := lv_entry ([.ref h0]) (n := 7) (Nat.le_of_ble_eq_true rfl)
  rw [lg_entry_eq]
  generalize (lg_sl ([.ref h0]) ++ List.replicate (7 - (lg_sl ([.ref h0])).length) Slot.unset).toArray = ls at hl ⊢
  have hl : lv_has ls 7 [(0, .ref h0)] := hl
  refine lv_iconst (v := 0) hx hb dX10_inTimeShare_0 (by decide) ?_
  refine lv_istore_n (lv' := [(1, .int 0), (0, .ref h0)]) hx hb dX10_inTimeShare_1 rfl hl (by decide) rfl (fun ls hl => ?_)
  refine lv_iconst (v := 0) hx hb dX10_inTimeShare_2 (by decide) ?_
  refine lv_istore_n (lv' := [(2, .int 0), (1, .int 0), (0, .ref h0)]) hx hb dX10_inTimeShare_3 rfl hl (by decide) rfl (fun ls hl => ?_)
  refine lv_aload_n hx hb dX10_inTimeShare_4 rfl (lv_at hl 2 rfl) ?_
  refine va_get (D := D) (ci := 15) (v := .ref a5) (C := RX10) (T := TX10) (N := 14) hx hb hta iwX10 hown hK hP 0 rfl rfl 4 (by decide) (hta _ mw5) (fun _ h9 => h9) rfl dX10_inTimeShare_5 ?_
  refine lv_astore_n (lv' := [(3, .ref a5), (2, .int 0), (1, .int 0), (0, .ref h0)]) hx hb dX10_inTimeShare_8 rfl hl (by decide) rfl (fun ls hl => ?_)
  refine lv_aload_n hx hb dX10_inTimeShare_9 rfl (lv_at hl 0 rfl) ?_
  refine va_alen hx hb hK hP 5 4 rfl rfl (v := 30) rfl dX10_inTimeShare_10 ?_
  refine lv_istore (lv' := [(4, .int 30), (3, .ref a5), (2, .int 0), (1, .int 0), (0, .ref h0)]) hx hb dX10_inTimeShare_11 hl (by decide) rfl (fun ls hl => ?_)
  refine lv_iconst (v := 0) hx hb dX10_inTimeShare_13 (by decide) ?_
  refine lv_istore (lv' := [(5, .int 0), (4, .int 30), (3, .ref a5), (2, .int 0), (1, .int 0), (0, .ref h0)]) hx hb dX10_inTimeShare_14 hl (by decide) rfl (fun ls hl => ?_)
  refine loop_g (σ := Array Slot) (Wg := fun ls => W p l e _ s m _ below meth c _ _ _ _ _ (F0 m 16 ls [])) 30 (fun j1 ls => lv_has ls 7 [(0, .ref h0), (1, .int 0), (2, .int 0), (3, .ref a5), (4, .int 30), (5, .int (nI j1))]) (fun j1 hj2 ih3 ls hl => ?_) (fun ls hl => ?_) ls (lv_sub hl [5, 4, 3, 2, 1, 0] rfl)
  · skip
    refine lv_iload hx hb dX10_inTimeShare_16 (lv_at hl 5 rfl) ?_
    refine lv_iload hx hb dX10_inTimeShare_18 (lv_at hl 4 rfl) ?_
    refine lv_icmp_ge (tgt := 74) hx hb dX10_inTimeShare_20 (by decide) (fun c4 => ?_) (fun c4 => ?_)
    · exact absurd c4 (nI_ge (a := j1) (b := 30) hj2 (by decide))
    · skip
      refine lv_aload_n hx hb dX10_inTimeShare_23 rfl (lv_at hl 3 rfl) ?_
      refine lv_iload hx hb dX10_inTimeShare_24 (lv_at hl 5 rfl) ?_
      refine va_aldq hx hb hK hP 5 4 rfl rfl (i := nI j1) (vp_in_nI hj2 (by decide)) dX10_inTimeShare_26 ?_
      refine W.eq (g2 := F0 m 27 ls [.null]) rfl ?_
      refine lv_astoreN (lv' := [(6, .null), (0, .ref h0), (1, .int 0), (2, .int 0), (3, .ref a5), (4, .int 30), (5, .int (nI j1))]) hx hb dX10_inTimeShare_27 hl (by decide) rfl (fun ls hl => ?_)
      refine lv_aloadN hx hb dX10_inTimeShare_29 (lv_at hl 0 rfl) ?_
      refine lv_ifnullN (tgt := 68) hx hb dX10_inTimeShare_31 (by decide) ?_
      refine lv_iinc (v := nI (j1 + 1)) (lv' := [(5, .int (nI (j1 + 1))), (6, .null), (0, .ref h0), (1, .int 0), (2, .int 0), (3, .ref a5), (4, .int 30)]) hx hb dX10_inTimeShare_68 hl (k := 6) rfl (nI_1 _) (by decide) rfl (fun ls hl => ?_)
      refine lv_goto (tgt := 16) hx hb dX10_inTimeShare_71 (by decide) ?_
      refine ih3 _ ?_
      exact lv_sub hl [2, 3, 4, 5, 6, 0] rfl
  · skip
    refine lv_iload hx hb dX10_inTimeShare_16 (lv_at hl 5 rfl) ?_
    refine lv_iload hx hb dX10_inTimeShare_18 (lv_at hl 4 rfl) ?_
    refine lv_icmp_ge (tgt := 74) hx hb dX10_inTimeShare_20 (by decide) (fun c5 => ?_) (fun c5 => ?_)
    · skip
      refine lv_iload_n hx hb dX10_inTimeShare_74 rfl (lv_at hl 1 rfl) ?_
      refine lv_if_ne (tgt := 89) hx hb dX10_inTimeShare_75 (by decide) (fun c6 => ?_) (fun c6 => ?_)
      · exact absurd c6 (by decide)
      · skip
        obtain ⟨sa, hsa⟩ := hG.S (363, "no order was delivered") (by decide)
        exact vx_throwSW (names := xnms) (mc := 1) (ms := 6) (text := "no order was delivered") (own := "Foundrymark") hx hb hl0 hown (by decide +kernel) (by decide +kernel) (hta _ mw52) (hta _ mw53) hsa (vx_hat (B := exB) (fun w hw => hta w (wx_365 w hw)) (by decide +kernel) (fun w hw => hG.B w hw)) (by decide +kernel) hG.U hG.N hS (hl.1.trans hml.symm) dX10_inTimeShare_78 dX10_inTimeShare_81 dX10_inTimeShare_82 dX10_inTimeShare_85 dX10_inTimeShare_88 (fun x hx9 => (hout x hx9).elim) (Nat.le_of_ble_eq_true rfl) (Nat.le_of_ble_eq_true rfl) (Nat.le_of_ble_eq_true rfl) (Nat.le_of_ble_eq_true rfl) hlocks (fun t hv hz hk => ⟨(), trivial, rfl, gF9 hS hz hk⟩) hS.2.2 (Nat.le_of_ble_eq_true rfl) (Nat.le_of_ble_eq_true rfl)
    · exact absurd (nI_le (a := 30) (b := 30) (Nat.le_refl _) (by decide)) c5

set_option maxHeartbeats 4000000 in
set_option maxRecDepth 100000 in
theorem c_X10_meanBusy (l : Launch) (hl0 : l.stackTraces = false) {D : va_G} {tE sz : Nat} {h0 a1 a2 a3 a4 a5 h6 s0 s1 s2 s3 : Nat} {t1 t2 t3 t4 t5 : ClassId} : vx_Met l ⟨"Foundrymark", "meanBusy", "()D"⟩ (wsC ⟨"Foundrymark", "meanBusy", "()D"⟩ cX10_meanBusy 7 (some .double)) ({ frames := 6, cells := 1, slots := 6, locals := 98 }) (va_Pc [.ref h0] (gS tE D (wX h0 a1 a2 a3 a4 a5 h6 s0 s1 s2 s3 t1 t2 t3 t4 t5) (tX t1 t2 t3 t4 t5) sz)) (fun _ _ _ _ => False) (vx_X (fun _ : Unit => True) (fun E9 _ _ => E9 = "java/lang/ArithmeticException") (va_A (wX h0 a1 a2 a3 a4 a5 h6 s0 s1 s2 s3 t1 t2 t3 t4 t5) sz)) 1 6 (va_A (wX h0 a1 a2 a3 a4 a5 h6 s0 s1 s2 s3 t1 t2 t3 t4 t5) sz) := by
  refine vx_ofW (cc := cX10_meanBusy) (maxL := 7) (ret := (some .double)) (by decide) rfl ?_
  intro p e s m args below meth c s₁ B hml hout hv
  obtain ⟨rfl, hsz, hP, hK, hD0, hG⟩ := hv
  have hx := B.exec
  have hb := B.bytes
  have hr := B.returns
  have hlocks := B.notSynchronized
  have hts := atoms_spec (ws := wsC ⟨"Foundrymark", "meanBusy", "()D"⟩ cX10_meanBusy 7 (some .double)) B.pre
  have hta : ∀ w ∈ WA, w.before _ s = true := fun w h => hts w (List.mem_cons_of_mem _ h)
  have hown : s.vm.findClass "Foundrymark" = some m.cls := findClass_of_methodNamed B.named
  subst hsz
  have hD : va_D (va_A (wX h0 a1 a2 a3 a4 a5 h6 s0 s1 s2 s3 t1 t2 t3 t4 t5) s.heap.size) (wX h0 a1 a2 a3 a4 a5 h6 s0 s1 s2 s3 t1 t2 t3 t4 t5) := hD0.self (sz := s.heap.size)
  generalize hAe : va_A (wX h0 a1 a2 a3 a4 a5 h6 s0 s1 s2 s3 t1 t2 t3 t4 t5) s.heap.size = A at hD hG ⊢
  have hA : ∀ q : Nat, s.heap.size ≤ q → A q := fun q h => by rw [← hAe]; exact Or.inr h
  have hS : va_S A s.heap s.heap [] := va_S.rf
  have hP : va_P D vwCl (wX h0 a1 a2 a3 a4 a5 h6 s0 s1 s2 s3 t1 t2 t3 t4 t5) s.heap := hP
  have hl := lv_entry ([.ref h0]) (n := 7) (Nat.le_of_ble_eq_true rfl)
  rw [lg_entry_eq]
  generalize (lg_sl ([.ref h0]) ++ List.replicate (7 - (lg_sl ([.ref h0])).length) Slot.unset).toArray = ls at hl ⊢
  have hl : lv_has ls 7 [(0, .ref h0)] := hl
  refine lv_aload_n hx hb dX10_meanBusy_0 rfl (lv_at hl 0 rfl) ?_
  refine va_get (D := D) (ci := 15) (v := .int 0) (C := RX10) (T := TX10) (N := 14) hx hb hta iwX10 hown hK hP 0 rfl rfl 6 (by decide) (hta _ mw54) (fun _ h9 => h9) rfl dX10_meanBusy_1 ?_
  refine lv_if_ne (tgt := 18) hx hb dX10_meanBusy_4 (by decide) (fun c1 => ?_) (fun c1 => ?_)
  · exact absurd c1 (by decide)
  · skip
    obtain ⟨sa, hsa⟩ := hG.S (366, "there are no machines") (by decide)
    exact vx_throwSW (names := xnms) (mc := 1) (ms := 6) (text := "there are no machines") (own := "Foundrymark") hx hb hl0 hown (by decide +kernel) (by decide +kernel) (hta _ mw52) (hta _ mw53) hsa (vx_hat (B := exB) (fun w hw => hta w (wx_365 w hw)) (by decide +kernel) (fun w hw => hG.B w hw)) (by decide +kernel) hG.U hG.N hS (hl.1.trans hml.symm) dX10_meanBusy_7 dX10_meanBusy_10 dX10_meanBusy_11 dX10_meanBusy_14 dX10_meanBusy_17 (fun x hx9 => (hout x hx9).elim) (Nat.le_of_ble_eq_true rfl) (Nat.le_of_ble_eq_true rfl) (Nat.le_of_ble_eq_true rfl) (Nat.le_of_ble_eq_true rfl) hlocks (fun t hv hz hk => ⟨(), trivial, rfl, gF9 hS hz hk⟩) hS.2.2 (Nat.le_of_ble_eq_true rfl) (Nat.le_of_ble_eq_true rfl)
end
section
set_option maxHeartbeats 4000000 in
set_option maxRecDepth 100000 in
theorem c_X10_passTime (l : Launch) {D : va_G} {tE sz : Nat} {h0 a1 a2 a3 a4 a5 h6 s0 s1 s2 s3 : Nat} {t1 t2 t3 t4 t5 : ClassId} {v : Nat} : Met l ⟨"Foundrymark", "passTime", "()V"⟩ (wsC ⟨"Foundrymark", "passTime", "()V"⟩ cX10_passTime 5 none) ({ frames := 0, cells := 0, slots := 0, locals := 0 }) (va_Pc [.ref h0] (gS tE D [(h0, .inr (15, [.ref a1, .ref a2, .ref a3, .ref a4, .ref a5, .ref h6, .int 0, .int 0, .int 0, .int 0, .int 0, .int (nI v), .long 0, .long 0])), (a1, .inl (t1, 5, .inr (.inr (.inr (.inr (fun _ => none)))))), (a2, .inl (t2, 12, .inr (.inr (.inr (.inr (fun _ => none)))))), (a3, .inl (t3, 4, .inr (.inr (.inr (.inr (va_up (va_up (va_up (va_up (fun _ => none) 0 (some s0)) 1 (some s1)) 2 (some s2)) 3 (some s3))))))), (a4, .inl (t4, 90, .inr (.inr (.inr (.inr (fun _ => none)))))), (a5, .inl (t5, 30, .inr (.inr (.inr (.inr (fun _ => none)))))), (h6, .inr (10, [.long 0, .long 0])), (s0, .inr (14, [.int 110, .int 0, .int 0])), (s1, .inr (14, [.int 110, .int 0, .int 0])), (s2, .inr (14, [.int 110, .int 0, .int 0])), (s3, .inr (14, [.int 110, .int 0, .int 0]))] (tX t1 t2 t3 t4 t5) sz)) (va_Qv (fun _ : Unit => True) (gO D (fun _ => [(h0, .inr (15, [.ref a1, .ref a2, .ref a3, .ref a4, .ref a5, .ref h6, .int 0, .int 0, .int 0, .int 0, .int 0, .int (nI (v + 1)), .long 0, .long 0])), (a1, .inl (t1, 5, .inr (.inr (.inr (.inr (fun _ => none)))))), (a2, .inl (t2, 12, .inr (.inr (.inr (.inr (fun _ => none)))))), (a3, .inl (t3, 4, .inr (.inr (.inr (.inr (va_up (va_up (va_up (va_up (fun _ => none) 0 (some s0)) 1 (some s1)) 2 (some s2)) 3 (some s3))))))), (a4, .inl (t4, 90, .inr (.inr (.inr (.inr (fun _ => none)))))), (a5, .inl (t5, 30, .inr (.inr (.inr (.inr (fun _ => none)))))), (h6, .inr (10, [.long 0, .long 0])), (s0, .inr (14, [.int 110, .int 0, .int 0])), (s1, .inr (14, [.int 110, .int 0, .int 0])), (s2, .inr (14, [.int 110, .int 0, .int 0])), (s3, .inr (14, [.int 110, .int 0, .int 0]))]) (fun _ => []) (va_A [(h0, .inr (15, [.ref a1, .ref a2, .ref a3, .ref a4, .ref a5, .ref h6, .int 0, .int 0, .int 0, .int 0, .int 0, .int (nI v), .long 0, .long 0])), (a1, .inl (t1, 5, .inr (.inr (.inr (.inr (fun _ => none)))))), (a2, .inl (t2, 12, .inr (.inr (.inr (.inr (fun _ => none)))))), (a3, .inl (t3, 4, .inr (.inr (.inr (.inr (va_up (va_up (va_up (va_up (fun _ => none) 0 (some s0)) 1 (some s1)) 2 (some s2)) 3 (some s3))))))), (a4, .inl (t4, 90, .inr (.inr (.inr (.inr (fun _ => none)))))), (a5, .inl (t5, 30, .inr (.inr (.inr (.inr (fun _ => none)))))), (h6, .inr (10, [.long 0, .long 0])), (s0, .inr (14, [.int 110, .int 0, .int 0])), (s1, .inr (14, [.int 110, .int 0, .int 0])), (s2, .inr (14, [.int 110, .int 0, .int 0])), (s3, .inr (14, [.int 110, .int 0, .int 0]))] sz)) (va_A [(h0, .inr (15, [.ref a1, .ref a2, .ref a3, .ref a4, .ref a5, .ref h6, .int 0, .int 0, .int 0, .int 0, .int 0, .int (nI v), .long 0, .long 0])), (a1, .inl (t1, 5, .inr (.inr (.inr (.inr (fun _ => none)))))), (a2, .inl (t2, 12, .inr (.inr (.inr (.inr (fun _ => none)))))), (a3, .inl (t3, 4, .inr (.inr (.inr (.inr (va_up (va_up (va_up (va_up (fun _ => none) 0 (some s0)) 1 (some s1)) 2 (some s2)) 3 (some s3))))))), (a4, .inl (t4, 90, .inr (.inr (.inr (.inr (fun _ => none)))))), (a5, .inl (t5, 30, .inr (.inr (.inr (.inr (fun _ => none)))))), (h6, .inr (10, [.long 0, .long 0])), (s0, .inr (14, [.int 110, .int 0, .int 0])), (s1, .inr (14, [.int 110, .int 0, .int 0])), (s2, .inr (14, [.int 110, .int 0, .int 0])), (s3, .inr (14, [.int 110, .int 0, .int 0]))] sz)) 0 0 (va_A [(h0, .inr (15, [.ref a1, .ref a2, .ref a3, .ref a4, .ref a5, .ref h6, .int 0, .int 0, .int 0, .int 0, .int 0, .int (nI v), .long 0, .long 0])), (a1, .inl (t1, 5, .inr (.inr (.inr (.inr (fun _ => none)))))), (a2, .inl (t2, 12, .inr (.inr (.inr (.inr (fun _ => none)))))), (a3, .inl (t3, 4, .inr (.inr (.inr (.inr (va_up (va_up (va_up (va_up (fun _ => none) 0 (some s0)) 1 (some s1)) 2 (some s2)) 3 (some s3))))))), (a4, .inl (t4, 90, .inr (.inr (.inr (.inr (fun _ => none)))))), (a5, .inl (t5, 30, .inr (.inr (.inr (.inr (fun _ => none)))))), (h6, .inr (10, [.long 0, .long 0])), (s0, .inr (14, [.int 110, .int 0, .int 0])), (s1, .inr (14, [.int 110, .int 0, .int 0])), (s2, .inr (14, [.int 110, .int 0, .int 0])), (s3, .inr (14, [.int 110, .int 0, .int 0]))] sz) := by
  refine Met.ofW (cc := cX10_passTime) (maxL := 5) (ret := none) (by decide) rfl ?_
  intro p e s m args below meth c s₁ B hml hv
  obtain ⟨rfl, hsz, hP, hK, hD0, hG⟩ := hv
  have hx := B.exec
  have hb := B.bytes
  have hr := B.returns
  have hlocks := B.notSynchronized
  have hts := atoms_spec (ws := wsC ⟨"Foundrymark", "passTime", "()V"⟩ cX10_passTime 5 none) B.pre
  have hta : ∀ w ∈ WA, w.before _ s = true := fun w h => hts w (List.mem_cons_of_mem _ h)
  have hown : s.vm.findClass "Foundrymark" = some m.cls := findClass_of_methodNamed B.named
  subst hsz
  have hD : va_D (va_A [(h0, .inr (15, [.ref a1, .ref a2, .ref a3, .ref a4, .ref a5, .ref h6, .int 0, .int 0, .int 0, .int 0, .int 0, .int (nI v), .long 0, .long 0])), (a1, .inl (t1, 5, .inr (.inr (.inr (.inr (fun _ => none)))))), (a2, .inl (t2, 12, .inr (.inr (.inr (.inr (fun _ => none)))))), (a3, .inl (t3, 4, .inr (.inr (.inr (.inr (va_up (va_up (va_up (va_up (fun _ => none) 0 (some s0)) 1 (some s1)) 2 (some s2)) 3 (some s3))))))), (a4, .inl (t4, 90, .inr (.inr (.inr (.inr (fun _ => none)))))), (a5, .inl (t5, 30, .inr (.inr (.inr (.inr (fun _ => none)))))), (h6, .inr (10, [.long 0, .long 0])), (s0, .inr (14, [.int 110, .int 0, .int 0])), (s1, .inr (14, [.int 110, .int 0, .int 0])), (s2, .inr (14, [.int 110, .int 0, .int 0])), (s3, .inr (14, [.int 110, .int 0, .int 0]))] s.heap.size) [(h0, .inr (15, [.ref a1, .ref a2, .ref a3, .ref a4, .ref a5, .ref h6, .int 0, .int 0, .int 0, .int 0, .int 0, .int (nI v), .long 0, .long 0])), (a1, .inl (t1, 5, .inr (.inr (.inr (.inr (fun _ => none)))))), (a2, .inl (t2, 12, .inr (.inr (.inr (.inr (fun _ => none)))))), (a3, .inl (t3, 4, .inr (.inr (.inr (.inr (va_up (va_up (va_up (va_up (fun _ => none) 0 (some s0)) 1 (some s1)) 2 (some s2)) 3 (some s3))))))), (a4, .inl (t4, 90, .inr (.inr (.inr (.inr (fun _ => none)))))), (a5, .inl (t5, 30, .inr (.inr (.inr (.inr (fun _ => none)))))), (h6, .inr (10, [.long 0, .long 0])), (s0, .inr (14, [.int 110, .int 0, .int 0])), (s1, .inr (14, [.int 110, .int 0, .int 0])), (s2, .inr (14, [.int 110, .int 0, .int 0])), (s3, .inr (14, [.int 110, .int 0, .int 0]))] := hD0.self (sz := s.heap.size)
  generalize hAe : va_A [(h0, .inr (15, [.ref a1, .ref a2, .ref a3, .ref a4, .ref a5, .ref h6, .int 0, .int 0, .int 0, .int 0, .int 0, .int (nI v), .long 0, .long 0])), (a1, .inl (t1, 5, .inr (.inr (.inr (.inr (fun _ => none)))))), (a2, .inl (t2, 12, .inr (.inr (.inr (.inr (fun _ => none)))))), (a3, .inl (t3, 4, .inr (.inr (.inr (.inr (va_up (va_up (va_up (va_up (fun _ => none) 0 (some s0)) 1 (some s1)) 2 (some s2)) 3 (some s3))))))), (a4, .inl (t4, 90, .inr (.inr (.inr (.inr (fun _ => none)))))), (a5, .inl (t5, 30, .inr (.inr (.inr (.inr (fun _ => none)))))), (h6, .inr (10, [.long 0, .long 0])), (s0, .inr (14, [.int 110, .int 0, .int 0])), (s1, .inr (14, [.int 110, .int 0, .int 0])), (s2, .inr (14, [.int 110, .int 0, .int 0])), (s3, .inr (14, [.int 110, .int 0, .int 0]))] s.heap.size = A at hD hG ⊢
  have hA : ∀ q : Nat, s.heap.size ≤ q → A q := fun q h => by rw [← hAe]; exact Or.inr h
  have hS : va_S A s.heap s.heap [] := va_S.rf
  have hP : va_P D vwCl [(h0, .inr (15, [.ref a1, .ref a2, .ref a3, .ref a4, .ref a5, .ref h6, .int 0, .int 0, .int 0, .int 0, .int 0, .int (nI v), .long 0, .long 0])), (a1, .inl (t1, 5, .inr (.inr (.inr (.inr (fun _ => none)))))), (a2, .inl (t2, 12, .inr (.inr (.inr (.inr (fun _ => none)))))), (a3, .inl (t3, 4, .inr (.inr (.inr (.inr (va_up (va_up (va_up (va_up (fun _ => none) 0 (some s0)) 1 (some s1)) 2 (some s2)) 3 (some s3))))))), (a4, .inl (t4, 90, .inr (.inr (.inr (.inr (fun _ => none)))))), (a5, .inl (t5, 30, .inr (.inr (.inr (.inr (fun _ => none)))))), (h6, .inr (10, [.long 0, .long 0])), (s0, .inr (14, [.int 110, .int 0, .int 0])), (s1, .inr (14, [.int 110, .int 0, .int 0])), (s2, .inr (14, [.int 110, .int 0, .int 0])), (s3, .inr (14, [.int 110, .int 0, .int 0]))] s.heap := hP
  have hl := lv_entry ([.ref h0]) (n := 5) (Nat.le_of_ble_eq_true rfl)
  rw [lg_entry_eq]
  generalize (lg_sl ([.ref h0]) ++ List.replicate (5 - (lg_sl ([.ref h0])).length) Slot.unset).toArray = ls at hl ⊢
  have hl : lv_has ls 5 [(0, .ref h0)] := hl
  refine lv_aload_n hx hb dX10_passTime_0 rfl (lv_at hl 0 rfl) ?_
  refine lv_dup hx hb dX10_passTime_1 rfl ?_
  refine va_get (D := D) (ci := 15) (v := .int (nI v)) (C := RX10) (T := TX10) (N := 14) hx hb hta iwX10 hown hK hP 0 rfl rfl 11 (by decide) (hta _ mw55) (fun _ h9 => h9) rfl dX10_passTime_2 ?_
  refine lv_iconst (v := 1) hx hb dX10_passTime_5 (by decide) ?_
  refine lv_iadd hx hb dX10_passTime_6 ?_
  refine lv_topi (fun x1 ex1 => ?_)
  obtain rfl : x1 = nI (v + 1) := ex1.trans (nI_1 _)
  refine va_put (D := D) (ci := 15) (v := .int (nI (v + 1))) (ty := .int) (C := RX10) (T := TX10) (N := 14) hx hb hta iwX10 tyX10 tyX10_ok nmX10 hown hK hP hD hS 0 rfl rfl 11 (by decide) (hta _ mw55) (fun _ h9 => h9) rfl (by decide +kernel) rfl rfl (Nat.le_of_ble_eq_true rfl) dX10_passTime_7 (fun H locs hP hD hS => ?_)
  have hP : va_P D vwCl [(h0, .inr (15, [.ref a1, .ref a2, .ref a3, .ref a4, .ref a5, .ref h6, .int 0, .int 0, .int 0, .int 0, .int 0, .int (nI (v + 1)), .long 0, .long 0])), (a1, .inl (t1, 5, .inr (.inr (.inr (.inr (fun _ => none)))))), (a2, .inl (t2, 12, .inr (.inr (.inr (.inr (fun _ => none)))))), (a3, .inl (t3, 4, .inr (.inr (.inr (.inr (va_up (va_up (va_up (va_up (fun _ => none) 0 (some s0)) 1 (some s1)) 2 (some s2)) 3 (some s3))))))), (a4, .inl (t4, 90, .inr (.inr (.inr (.inr (fun _ => none)))))), (a5, .inl (t5, 30, .inr (.inr (.inr (.inr (fun _ => none)))))), (h6, .inr (10, [.long 0, .long 0])), (s0, .inr (14, [.int 110, .int 0, .int 0])), (s1, .inr (14, [.int 110, .int 0, .int 0])), (s2, .inr (14, [.int 110, .int 0, .int 0])), (s3, .inr (14, [.int 110, .int 0, .int 0]))] H := hP
  have hD : va_D A [(h0, .inr (15, [.ref a1, .ref a2, .ref a3, .ref a4, .ref a5, .ref h6, .int 0, .int 0, .int 0, .int 0, .int 0, .int (nI (v + 1)), .long 0, .long 0])), (a1, .inl (t1, 5, .inr (.inr (.inr (.inr (fun _ => none)))))), (a2, .inl (t2, 12, .inr (.inr (.inr (.inr (fun _ => none)))))), (a3, .inl (t3, 4, .inr (.inr (.inr (.inr (va_up (va_up (va_up (va_up (fun _ => none) 0 (some s0)) 1 (some s1)) 2 (some s2)) 3 (some s3))))))), (a4, .inl (t4, 90, .inr (.inr (.inr (.inr (fun _ => none)))))), (a5, .inl (t5, 30, .inr (.inr (.inr (.inr (fun _ => none)))))), (h6, .inr (10, [.long 0, .long 0])), (s0, .inr (14, [.int 110, .int 0, .int 0])), (s1, .inr (14, [.int 110, .int 0, .int 0])), (s2, .inr (14, [.int 110, .int 0, .int 0])), (s3, .inr (14, [.int 110, .int 0, .int 0]))] := hD
  refine lv_aload_n hx hb dX10_passTime_10 rfl (lv_at hl 0 rfl) ?_
  refine va_get (D := D) (ci := 15) (v := .ref a1) (C := RX10) (T := TX10) (N := 14) hx hb hta iwX10 hown hK hP 0 rfl rfl 0 (by decide) (hta _ mw2) (fun _ h9 => h9) rfl dX10_passTime_11 ?_
  refine lv_astore_n (lv' := [(1, .ref a1), (0, .ref h0)]) hx hb dX10_passTime_14 rfl hl (by decide) rfl (fun ls hl => ?_)
  refine lv_aload_n hx hb dX10_passTime_15 rfl (lv_at hl 0 rfl) ?_
  refine va_alen hx hb hK hP 1 0 rfl rfl (v := 5) rfl dX10_passTime_16 ?_
  refine lv_istore_n (lv' := [(2, .int 5), (1, .ref a1), (0, .ref h0)]) hx hb dX10_passTime_17 rfl hl (by decide) rfl (fun ls hl => ?_)
  refine lv_iconst (v := 0) hx hb dX10_passTime_18 (by decide) ?_
  refine lv_istore_n (lv' := [(3, .int 0), (2, .int 5), (1, .ref a1), (0, .ref h0)]) hx hb dX10_passTime_19 rfl hl (by decide) rfl (fun ls hl => ?_)
  refine loop_g (σ := Array Slot) (Wg := fun ls => W p l e _ s m _ below meth c _ _ _ _ _ (F0 m 20 ls [])) 5 (fun j2 ls => lv_has ls 5 [(0, .ref h0), (1, .ref a1), (2, .int 5), (3, .int (nI j2))]) (fun j2 hj3 ih4 ls hl => ?_) (fun ls hl => ?_) ls (lv_sub hl [3, 2, 1, 0] rfl)
  · skip
    refine lv_iload_n hx hb dX10_passTime_20 rfl (lv_at hl 3 rfl) ?_
    refine lv_iload_n hx hb dX10_passTime_21 rfl (lv_at hl 2 rfl) ?_
    refine lv_icmp_ge (tgt := 59) hx hb dX10_passTime_22 (by decide) (fun c5 => ?_) (fun c5 => ?_)
    · exact absurd c5 (nI_ge (a := j2) (b := 5) hj3 (by decide))
    · skip
      refine lv_aload_n hx hb dX10_passTime_25 rfl (lv_at hl 1 rfl) ?_
      refine lv_iload_n hx hb dX10_passTime_26 rfl (lv_at hl 3 rfl) ?_
      refine va_aldq hx hb hK hP 1 0 rfl rfl (i := nI j2) (vp_in_nI hj3 (by decide)) dX10_passTime_27 ?_
      refine W.eq (g2 := F0 m 28 ls [.null]) rfl ?_
      refine lv_astoreN (lv' := [(4, .null), (0, .ref h0), (1, .ref a1), (2, .int 5), (3, .int (nI j2))]) hx hb dX10_passTime_28 hl (by decide) rfl (fun ls hl => ?_)
      refine lv_aloadN hx hb dX10_passTime_30 (lv_at hl 0 rfl) ?_
      refine lv_ifnullN (tgt := 53) hx hb dX10_passTime_32 (by decide) ?_
      refine lv_iinc (v := nI (j2 + 1)) (lv' := [(3, .int (nI (j2 + 1))), (4, .null), (0, .ref h0), (1, .ref a1), (2, .int 5)]) hx hb dX10_passTime_53 hl (k := 4) rfl (nI_1 _) (by decide) rfl (fun ls hl => ?_)
      refine lv_goto (tgt := 20) hx hb dX10_passTime_56 (by decide) ?_
      refine ih4 _ ?_
      exact lv_sub hl [2, 3, 4, 0] rfl
  · skip
    refine lv_iload_n hx hb dX10_passTime_20 rfl (lv_at hl 3 rfl) ?_
    refine lv_iload_n hx hb dX10_passTime_21 rfl (lv_at hl 2 rfl) ?_
    refine lv_icmp_ge (tgt := 59) hx hb dX10_passTime_22 (by decide) (fun c6 => ?_) (fun c6 => ?_)
    · skip
      refine lv_aload_n hx hb dX10_passTime_59 rfl (lv_at hl 0 rfl) ?_
      refine va_get (D := D) (ci := 15) (v := .ref a1) (C := RX10) (T := TX10) (N := 14) hx hb hta iwX10 hown hK hP 0 rfl rfl 0 (by decide) (hta _ mw2) (fun _ h9 => h9) rfl dX10_passTime_60 ?_
      refine lv_astore_n (lv' := [(1, .ref a1), (0, .ref h0), (2, .int 5), (3, .int (nI 5))]) hx hb dX10_passTime_63 rfl hl (by decide) rfl (fun ls hl => ?_)
      refine lv_aload_n hx hb dX10_passTime_64 rfl (lv_at hl 0 rfl) ?_
      refine va_alen hx hb hK hP 1 0 rfl rfl (v := 5) rfl dX10_passTime_65 ?_
      refine lv_istore_n (lv' := [(2, .int 5), (1, .ref a1), (0, .ref h0), (3, .int (nI 5))]) hx hb dX10_passTime_66 rfl hl (by decide) rfl (fun ls hl => ?_)
      refine lv_iconst (v := 0) hx hb dX10_passTime_67 (by decide) ?_
      refine lv_istore_n (lv' := [(3, .int 0), (2, .int 5), (1, .ref a1), (0, .ref h0)]) hx hb dX10_passTime_68 rfl hl (by decide) rfl (fun ls hl => ?_)
      refine loop_g (σ := Array Slot) (Wg := fun ls => W p l e _ s m _ below meth c _ _ _ _ _ (F0 m 69 ls [])) 5 (fun j7 ls => lv_has ls 5 [(0, .ref h0), (1, .ref a1), (2, .int 5), (3, .int (nI j7))]) (fun j7 hj8 ih9 ls hl => ?_) (fun ls hl => ?_) ls (lv_sub hl [3, 2, 1, 0] rfl)
      · skip
        refine lv_iload_n hx hb dX10_passTime_69 rfl (lv_at hl 3 rfl) ?_
        refine lv_iload_n hx hb dX10_passTime_70 rfl (lv_at hl 2 rfl) ?_
        refine lv_icmp_ge (tgt := 96) hx hb dX10_passTime_71 (by decide) (fun c10 => ?_) (fun c10 => ?_)
        · exact absurd c10 (nI_ge (a := j7) (b := 5) hj8 (by decide))
        · skip
          refine lv_aload_n hx hb dX10_passTime_74 rfl (lv_at hl 1 rfl) ?_
          refine lv_iload_n hx hb dX10_passTime_75 rfl (lv_at hl 3 rfl) ?_
          refine va_aldq hx hb hK hP 1 0 rfl rfl (i := nI j7) (vp_in_nI hj8 (by decide)) dX10_passTime_76 ?_
          refine W.eq (g2 := F0 m 77 ls [.null]) rfl ?_
          refine lv_astoreN (lv' := [(4, .null), (0, .ref h0), (1, .ref a1), (2, .int 5), (3, .int (nI j7))]) hx hb dX10_passTime_77 hl (by decide) rfl (fun ls hl => ?_)
          refine lv_aloadN hx hb dX10_passTime_79 (lv_at hl 0 rfl) ?_
          refine lv_ifnullN (tgt := 90) hx hb dX10_passTime_81 (by decide) ?_
          refine lv_iinc (v := nI (j7 + 1)) (lv' := [(3, .int (nI (j7 + 1))), (4, .null), (0, .ref h0), (1, .ref a1), (2, .int 5)]) hx hb dX10_passTime_90 hl (k := 4) rfl (nI_1 _) (by decide) rfl (fun ls hl => ?_)
          refine lv_goto (tgt := 69) hx hb dX10_passTime_93 (by decide) ?_
          refine ih9 _ ?_
          exact lv_sub hl [2, 3, 4, 0] rfl
      · skip
        refine lv_iload_n hx hb dX10_passTime_69 rfl (lv_at hl 3 rfl) ?_
        refine lv_iload_n hx hb dX10_passTime_70 rfl (lv_at hl 2 rfl) ?_
        refine lv_icmp_ge (tgt := 96) hx hb dX10_passTime_71 (by decide) (fun c11 => ?_) (fun c11 => ?_)
        · skip
          have hP9 := hP.sub (ws' := [(h0, .inr (15, [.ref a1, .ref a2, .ref a3, .ref a4, .ref a5, .ref h6, .int 0, .int 0, .int 0, .int 0, .int 0, .int (nI (v + 1)), .long 0, .long 0])), (a1, .inl (t1, 5, .inr (.inr (.inr (.inr (fun _ => none)))))), (a2, .inl (t2, 12, .inr (.inr (.inr (.inr (fun _ => none)))))), (a3, .inl (t3, 4, .inr (.inr (.inr (.inr (va_up (va_up (va_up (va_up (fun _ => none) 0 (some s0)) 1 (some s1)) 2 (some s2)) 3 (some s3))))))), (a4, .inl (t4, 90, .inr (.inr (.inr (.inr (fun _ => none)))))), (a5, .inl (t5, 30, .inr (.inr (.inr (.inr (fun _ => none)))))), (h6, .inr (10, [.long 0, .long 0])), (s0, .inr (14, [.int 110, .int 0, .int 0])), (s1, .inr (14, [.int 110, .int 0, .int 0])), (s2, .inr (14, [.int 110, .int 0, .int 0])), (s3, .inr (14, [.int 110, .int 0, .int 0]))]) [0, 1, 2, 3, 4, 5, 6, 7, 8, 9, 10] rfl
          have hD9 := hD.sub (ws' := [(h0, .inr (15, [.ref a1, .ref a2, .ref a3, .ref a4, .ref a5, .ref h6, .int 0, .int 0, .int 0, .int 0, .int 0, .int (nI (v + 1)), .long 0, .long 0])), (a1, .inl (t1, 5, .inr (.inr (.inr (.inr (fun _ => none)))))), (a2, .inl (t2, 12, .inr (.inr (.inr (.inr (fun _ => none)))))), (a3, .inl (t3, 4, .inr (.inr (.inr (.inr (va_up (va_up (va_up (va_up (fun _ => none) 0 (some s0)) 1 (some s1)) 2 (some s2)) 3 (some s3))))))), (a4, .inl (t4, 90, .inr (.inr (.inr (.inr (fun _ => none)))))), (a5, .inl (t5, 30, .inr (.inr (.inr (.inr (fun _ => none)))))), (h6, .inr (10, [.long 0, .long 0])), (s0, .inr (14, [.int 110, .int 0, .int 0])), (s1, .inr (14, [.int 110, .int 0, .int 0])), (s2, .inr (14, [.int 110, .int 0, .int 0])), (s3, .inr (14, [.int 110, .int 0, .int 0]))]) [0, 1, 2, 3, 4, 5, 6, 7, 8, 9, 10] (by decide) rfl
          have hK9 := hK.sub (tys' := []) [] rfl
          refine W.widen (k := 0) (n := 0) (Nat.le_of_ble_eq_true rfl) (Nat.le_of_ble_eq_true rfl) ?_
          exact W.vret hx hb hr (fun t ht hWm => ⟨⟨(), rfl, trivial, ⟨by rw [ht]; exact hP9, va_K.moved hWm.alike hK9, hD9⟩⟩, hS.F ht⟩) hS.2.2 dX10_passTime_96
        · exact absurd (nI_le (a := 5) (b := 5) (Nat.le_refl _) (by decide)) c11
    · exact absurd (nI_le (a := 5) (b := 5) (Nat.le_refl _) (by decide)) c6

set_option maxHeartbeats 4000000 in
set_option maxRecDepth 100000 in
theorem c_X10_advance_f (l : Launch) (hl0 : l.stackTraces = false) {D : va_G} {tE sz : Nat} {h0 a1 a2 a3 a4 a5 h6 s0 s1 s2 s3 : Nat} {t1 t2 t3 t4 t5 : ClassId} {b : Int32} (hf : inR b 1 500 = false) : vx_Met l ⟨"Foundrymark", "advance", "(I)I"⟩ (wsC ⟨"Foundrymark", "advance", "(I)I"⟩ cX10_advance 3 (some .int)) ({ frames := 6, cells := 1, slots := 6, locals := 98 }) (va_Pc [.ref h0, .int b] (gS tE D (wX h0 a1 a2 a3 a4 a5 h6 s0 s1 s2 s3 t1 t2 t3 t4 t5) (tX t1 t2 t3 t4 t5) sz)) (fun _ _ _ _ => False) (vx_X (fun _ : Unit => True) (fun E9 _ _ => E9 = "java/lang/IllegalArgumentException") (va_A (wX h0 a1 a2 a3 a4 a5 h6 s0 s1 s2 s3 t1 t2 t3 t4 t5) sz)) 1 6 (va_A (wX h0 a1 a2 a3 a4 a5 h6 s0 s1 s2 s3 t1 t2 t3 t4 t5) sz) := by
  refine vx_ofW (cc := cX10_advance) (maxL := 3) (ret := (some .int)) (by decide) rfl ?_
  intro p e s m args below meth c s₁ B hml hout hv
  obtain ⟨rfl, hsz, hP, hK, hD0, hG⟩ := hv
  have hx := B.exec
  have hb := B.bytes
  have hr := B.returns
  have hlocks := B.notSynchronized
  have hts := atoms_spec (ws := wsC ⟨"Foundrymark", "advance", "(I)I"⟩ cX10_advance 3 (some .int)) B.pre
  have hta : ∀ w ∈ WA, w.before _ s = true := fun w h => hts w (List.mem_cons_of_mem _ h)
  have hown : s.vm.findClass "Foundrymark" = some m.cls := findClass_of_methodNamed B.named
  subst hsz
  have hD : va_D (va_A (wX h0 a1 a2 a3 a4 a5 h6 s0 s1 s2 s3 t1 t2 t3 t4 t5) s.heap.size) (wX h0 a1 a2 a3 a4 a5 h6 s0 s1 s2 s3 t1 t2 t3 t4 t5) := hD0.self (sz := s.heap.size)
  generalize hAe : va_A (wX h0 a1 a2 a3 a4 a5 h6 s0 s1 s2 s3 t1 t2 t3 t4 t5) s.heap.size = A at hD hG ⊢
  have hA : ∀ q : Nat, s.heap.size ≤ q → A q := fun q h => by rw [← hAe]; exact Or.inr h
  have hS : va_S A s.heap s.heap [] := va_S.rf
  have hP : va_P D vwCl (wX h0 a1 a2 a3 a4 a5 h6 s0 s1 s2 s3 t1 t2 t3 t4 t5) s.heap := hP
  have hl := lv_entry ([.ref h0, .int b]) (n := 3) (Nat.le_of_ble_eq_true rfl)
  rw [lg_entry_eq]
  generalize (lg_sl ([.ref h0, .int b]) ++ List.replicate (3 - (lg_sl ([.ref h0, .int b])).length) Slot.unset).toArray = ls at hl ⊢
  have hl : lv_has ls 3 [(0, .ref h0), (1, .int b)] := hl
  refine lv_iload_n hx hb dX10_advance_0 rfl (lv_at hl 1 rfl) ?_
  refine lv_iconst (v := 1) hx hb dX10_advance_1 (by decide) ?_
  refine lv_sipush (v := 500) hx hb dX10_advance_2 (by decide) ?_
  refine vp_callSi (W.runS (As := [.int b, .int 1, .int 500]) (rest := []) ⟨hx, hb, hml, hown, hta⟩ (c_X10_isFrom l b 1 500) (va_cwS 3 hta (gWS mw57 mw58 mw10 mw56) rfl rfl rfl (by decide +kernel) ⟨Nat.le_of_ble_eq_true rfl, Nat.le_of_ble_eq_true rfl⟩) ⟨fun a U g mk q => ⟨q.1, trivial⟩, fun U hU hW => ⟨rfl, trivial⟩⟩ rfl rfl hl.1 rfl (lv_room (Nat.le_of_ble_eq_true rfl)) dX10_advance_5 ⟨Nat.zero_le _, Nat.zero_le _⟩) (fun r1 h2 => ?_)
  obtain rfl : r1 = 0 := h2.trans (by rw [hf]; rfl)
  refine lv_if_ne (tgt := 21) hx hb dX10_advance_8 (by decide) (fun c3 => ?_) (fun c3 => ?_)
  · exact absurd c3 (by decide)
  · skip
    obtain ⟨sa, hsa⟩ := hG.S (116, "the time is out of range") (by decide)
    exact vx_throwS (names := xnms) (mc := 1) (ms := 6) (text := "the time is out of range") (own := "Foundrymark") hx hb hl0 hown (by decide +kernel) (by decide +kernel) (hta _ mw59) (hta _ mw60) hsa (vx_hat (B := exB) (fun w hw => hta w (wx_55 w hw)) (by decide +kernel) (fun w hw => hG.B w hw)) (by decide +kernel) hG.U hG.N hS (hl.1.trans hml.symm) dX10_advance_11 dX10_advance_14 dX10_advance_15 dX10_advance_17 dX10_advance_20 (fun x hx9 => (hout x hx9).elim) (Nat.le_of_ble_eq_true rfl) (Nat.le_of_ble_eq_true rfl) (Nat.le_of_ble_eq_true rfl) (Nat.le_of_ble_eq_true rfl) hlocks (fun t hv hz hk => ⟨(), trivial, rfl, gF9 hS hz hk⟩) hS.2.2 (Nat.le_of_ble_eq_true rfl) (Nat.le_of_ble_eq_true rfl)

set_option maxHeartbeats 4000000 in
set_option maxRecDepth 100000 in
theorem c_X10_advance_t (l : Launch) {D : va_G} {tE sz : Nat} {h0 a1 a2 a3 a4 a5 h6 s0 s1 s2 s3 : Nat} {t1 t2 t3 t4 t5 : ClassId} {N : Nat} (hN : N ≤ 500) (ht : inR (nI N) 1 500 = true) : Met l ⟨"Foundrymark", "advance", "(I)I"⟩ (wsC ⟨"Foundrymark", "advance", "(I)I"⟩ cX10_advance 3 (some .int)) ({ frames := 1, cells := 0, slots := 0, locals := 24 }) (va_Pc [.ref h0, .int (nI N)] (gS tE D (wX h0 a1 a2 a3 a4 a5 h6 s0 s1 s2 s3 t1 t2 t3 t4 t5) (tX t1 t2 t3 t4 t5) sz)) (va_Qi (fun (r : Int32) (_ : Unit) => r = nI N) (gO D (fun _ => []) (fun _ => []) (va_A (wX h0 a1 a2 a3 a4 a5 h6 s0 s1 s2 s3 t1 t2 t3 t4 t5) sz)) (va_A (wX h0 a1 a2 a3 a4 a5 h6 s0 s1 s2 s3 t1 t2 t3 t4 t5) sz)) 0 0 (va_A (wX h0 a1 a2 a3 a4 a5 h6 s0 s1 s2 s3 t1 t2 t3 t4 t5) sz) := by
  refine Met.ofW (cc := cX10_advance) (maxL := 3) (ret := (some .int)) (by decide) rfl ?_
  intro p e s m args below meth c s₁ B hml hv
  obtain ⟨rfl, hsz, hP, hK, hD0, hG⟩ := hv
  have hx := B.exec
  have hb := B.bytes
  have hr := B.returns
  have hlocks := B.notSynchronized
  have hts := atoms_spec (ws := wsC ⟨"Foundrymark", "advance", "(I)I"⟩ cX10_advance 3 (some .int)) B.pre
  have hta : ∀ w ∈ WA, w.before _ s = true := fun w h => hts w (List.mem_cons_of_mem _ h)
  have hown : s.vm.findClass "Foundrymark" = some m.cls := findClass_of_methodNamed B.named
  subst hsz
  have hD : va_D (va_A (wX h0 a1 a2 a3 a4 a5 h6 s0 s1 s2 s3 t1 t2 t3 t4 t5) s.heap.size) (wX h0 a1 a2 a3 a4 a5 h6 s0 s1 s2 s3 t1 t2 t3 t4 t5) := hD0.self (sz := s.heap.size)
  generalize hAe : va_A (wX h0 a1 a2 a3 a4 a5 h6 s0 s1 s2 s3 t1 t2 t3 t4 t5) s.heap.size = A at hD hG ⊢
  have hA : ∀ q : Nat, s.heap.size ≤ q → A q := fun q h => by rw [← hAe]; exact Or.inr h
  have hS : va_S A s.heap s.heap [] := va_S.rf
  have hP : va_P D vwCl (wX h0 a1 a2 a3 a4 a5 h6 s0 s1 s2 s3 t1 t2 t3 t4 t5) s.heap := hP
  have hl := lv_entry ([.ref h0, .int (nI N)]) (n := 3) (Nat.le_of_ble_eq_true rfl)
  rw [lg_entry_eq]
  generalize (lg_sl ([.ref h0, .int (nI N)]) ++ List.replicate (3 - (lg_sl ([.ref h0, .int (nI N)])).length) Slot.unset).toArray = ls at hl ⊢
  have hl : lv_has ls 3 [(0, .ref h0), (1, .int (nI N))] := hl
  refine lv_iload_n hx hb dX10_advance_0 rfl (lv_at hl 1 rfl) ?_
  refine lv_iconst (v := 1) hx hb dX10_advance_1 (by decide) ?_
  refine lv_sipush (v := 500) hx hb dX10_advance_2 (by decide) ?_
  refine vp_callSi (W.runS (As := [.int (nI N), .int 1, .int 500]) (rest := []) ⟨hx, hb, hml, hown, hta⟩ (c_X10_isFrom l (nI N) 1 500) (va_cwS 3 hta (gWS mw57 mw58 mw10 mw56) rfl rfl rfl (by decide +kernel) ⟨Nat.le_of_ble_eq_true rfl, Nat.le_of_ble_eq_true rfl⟩) ⟨fun a U g mk q => ⟨q.1, trivial⟩, fun U hU hW => ⟨rfl, trivial⟩⟩ rfl rfl hl.1 rfl (lv_room (Nat.le_of_ble_eq_true rfl)) dX10_advance_5 ⟨Nat.zero_le _, Nat.zero_le _⟩) (fun r1 h2 => ?_)
  obtain rfl : r1 = 1 := h2.trans (by rw [ht]; rfl)
  refine lv_if_ne (tgt := 21) hx hb dX10_advance_8 (by decide) (fun c3 => ?_) (fun c3 => ?_)
  · skip
    refine lv_aload_n hx hb dX10_advance_21 rfl (lv_at hl 0 rfl) ?_
    refine va_get (D := D) (ci := 15) (v := .int 0) (C := RX10) (T := TX10) (N := 14) hx hb hta iwX10 hown hK hP 0 rfl rfl 11 (by decide) (hta _ mw55) (fun _ h9 => h9) rfl dX10_advance_22 ?_
    refine lv_iload_n hx hb dX10_advance_25 rfl (lv_at hl 1 rfl) ?_
    refine lv_iadd hx hb dX10_advance_26 ?_
    refine lv_sipush (v := 5000) hx hb dX10_advance_27 (by decide) ?_
    refine lv_icmp_le (tgt := 44) hx hb dX10_advance_30 (by decide) (fun c4 => ?_) (fun c4 => ?_)
    · skip
      refine lv_iconst (v := 0) hx hb dX10_advance_44 (by decide) ?_
      refine lv_istore_n (lv' := [(2, .int 0), (0, .ref h0), (1, .int (nI N))]) hx hb dX10_advance_45 rfl hl (by decide) rfl (fun ls hl => ?_)
      refine loop_g (σ := Heap × List Loc × Array Slot) (Wg := fun z => W p l e _ s m _ below meth c z.1 z.2.1 _ _ _ (F0 m 46 z.2.2 [])) N (fun j5 z => va_P D vwCl [(h0, .inr (15, [.ref a1, .ref a2, .ref a3, .ref a4, .ref a5, .ref h6, .int 0, .int 0, .int 0, .int 0, .int 0, .int (nI j5), .long 0, .long 0])), (a1, .inl (t1, 5, .inr (.inr (.inr (.inr (fun _ => none)))))), (a2, .inl (t2, 12, .inr (.inr (.inr (.inr (fun _ => none)))))), (a3, .inl (t3, 4, .inr (.inr (.inr (.inr (va_up (va_up (va_up (va_up (fun _ => none) 0 (some s0)) 1 (some s1)) 2 (some s2)) 3 (some s3))))))), (a4, .inl (t4, 90, .inr (.inr (.inr (.inr (fun _ => none)))))), (a5, .inl (t5, 30, .inr (.inr (.inr (.inr (fun _ => none)))))), (h6, .inr (10, [.long 0, .long 0])), (s0, .inr (14, [.int 110, .int 0, .int 0])), (s1, .inr (14, [.int 110, .int 0, .int 0])), (s2, .inr (14, [.int 110, .int 0, .int 0])), (s3, .inr (14, [.int 110, .int 0, .int 0]))] z.1 ∧ va_D A [(h0, .inr (15, [.ref a1, .ref a2, .ref a3, .ref a4, .ref a5, .ref h6, .int 0, .int 0, .int 0, .int 0, .int 0, .int (nI j5), .long 0, .long 0])), (a1, .inl (t1, 5, .inr (.inr (.inr (.inr (fun _ => none)))))), (a2, .inl (t2, 12, .inr (.inr (.inr (.inr (fun _ => none)))))), (a3, .inl (t3, 4, .inr (.inr (.inr (.inr (va_up (va_up (va_up (va_up (fun _ => none) 0 (some s0)) 1 (some s1)) 2 (some s2)) 3 (some s3))))))), (a4, .inl (t4, 90, .inr (.inr (.inr (.inr (fun _ => none)))))), (a5, .inl (t5, 30, .inr (.inr (.inr (.inr (fun _ => none)))))), (h6, .inr (10, [.long 0, .long 0])), (s0, .inr (14, [.int 110, .int 0, .int 0])), (s1, .inr (14, [.int 110, .int 0, .int 0])), (s2, .inr (14, [.int 110, .int 0, .int 0])), (s3, .inr (14, [.int 110, .int 0, .int 0]))] ∧ va_S A s.heap z.1 z.2.1 ∧ lv_has z.2.2 3 [(0, .ref h0), (1, .int (nI N)), (2, .int (nI j5))]) (fun j5 hj6 ih7 z hz => ?_) (fun z hz => ?_) (_, _, ls) ⟨hP, hD, hS, lv_sub hl [1, 2, 0] rfl⟩
      · skip
        obtain ⟨H, locs, ls⟩ := z
        obtain ⟨hP, hD, hS, hl⟩ := hz
        dsimp only at hP hD hS hl ⊢
        refine lv_iload_n hx hb dX10_advance_46 rfl (lv_at hl 2 rfl) ?_
        refine lv_iload_n hx hb dX10_advance_47 rfl (lv_at hl 1 rfl) ?_
        refine lv_icmp_ge (tgt := 61) hx hb dX10_advance_48 (by decide) (fun c8 => ?_) (fun c8 => ?_)
        · exact absurd c8 (nI_ge hj6 (by omega))
        · skip
          refine lv_aload_n hx hb dX10_advance_51 rfl (lv_at hl 0 rfl) ?_
          have hPc := hP.sub (ws' := [(h0, .inr (15, [.ref a1, .ref a2, .ref a3, .ref a4, .ref a5, .ref h6, .int 0, .int 0, .int 0, .int 0, .int 0, .int (nI j5), .long 0, .long 0])), (a1, .inl (t1, 5, .inr (.inr (.inr (.inr (fun _ => none)))))), (a2, .inl (t2, 12, .inr (.inr (.inr (.inr (fun _ => none)))))), (a3, .inl (t3, 4, .inr (.inr (.inr (.inr (va_up (va_up (va_up (va_up (fun _ => none) 0 (some s0)) 1 (some s1)) 2 (some s2)) 3 (some s3))))))), (a4, .inl (t4, 90, .inr (.inr (.inr (.inr (fun _ => none)))))), (a5, .inl (t5, 30, .inr (.inr (.inr (.inr (fun _ => none)))))), (h6, .inr (10, [.long 0, .long 0])), (s0, .inr (14, [.int 110, .int 0, .int 0])), (s1, .inr (14, [.int 110, .int 0, .int 0])), (s2, .inr (14, [.int 110, .int 0, .int 0])), (s3, .inr (14, [.int 110, .int 0, .int 0]))]) [0, 1, 2, 3, 4, 5, 6, 7, 8, 9, 10] rfl
          have hKc := hK.sub (tys' := (tX t1 t2 t3 t4 t5)) [0, 1, 2, 3, 4] rfl
          have hDc := hD.sub (ws' := [(h0, .inr (15, [.ref a1, .ref a2, .ref a3, .ref a4, .ref a5, .ref h6, .int 0, .int 0, .int 0, .int 0, .int 0, .int (nI j5), .long 0, .long 0])), (a1, .inl (t1, 5, .inr (.inr (.inr (.inr (fun _ => none)))))), (a2, .inl (t2, 12, .inr (.inr (.inr (.inr (fun _ => none)))))), (a3, .inl (t3, 4, .inr (.inr (.inr (.inr (va_up (va_up (va_up (va_up (fun _ => none) 0 (some s0)) 1 (some s1)) 2 (some s2)) 3 (some s3))))))), (a4, .inl (t4, 90, .inr (.inr (.inr (.inr (fun _ => none)))))), (a5, .inl (t5, 30, .inr (.inr (.inr (.inr (fun _ => none)))))), (h6, .inr (10, [.long 0, .long 0])), (s0, .inr (14, [.int 110, .int 0, .int 0])), (s1, .inr (14, [.int 110, .int 0, .int 0])), (s2, .inr (14, [.int 110, .int 0, .int 0])), (s3, .inr (14, [.int 110, .int 0, .int 0]))]) [0, 1, 2, 3, 4, 5, 6, 7, 8, 9, 10] (by decide) rfl
          have hFc := va_free (wc := [(h0, .inr (15, [.ref a1, .ref a2, .ref a3, .ref a4, .ref a5, .ref h6, .int 0, .int 0, .int 0, .int 0, .int 0, .int (nI j5), .long 0, .long 0])), (a1, .inl (t1, 5, .inr (.inr (.inr (.inr (fun _ => none)))))), (a2, .inl (t2, 12, .inr (.inr (.inr (.inr (fun _ => none)))))), (a3, .inl (t3, 4, .inr (.inr (.inr (.inr (va_up (va_up (va_up (va_up (fun _ => none) 0 (some s0)) 1 (some s1)) 2 (some s2)) 3 (some s3))))))), (a4, .inl (t4, 90, .inr (.inr (.inr (.inr (fun _ => none)))))), (a5, .inl (t5, 30, .inr (.inr (.inr (.inr (fun _ => none)))))), (h6, .inr (10, [.long 0, .long 0])), (s0, .inr (14, [.int 110, .int 0, .int 0])), (s1, .inr (14, [.int 110, .int 0, .int 0])), (s2, .inr (14, [.int 110, .int 0, .int 0])), (s3, .inr (14, [.int 110, .int 0, .int 0]))]) hD hS hA [0, 1, 2, 3, 4, 5, 6, 7, 8, 9, 10] rfl
          refine gJ_v (isC := [0, 1, 2, 3, 4, 5, 6, 7, 8, 9, 10]) (isR := []) (wr := []) (va_runV (As := []) (rest := []) ⟨hx, hb, hml, hown, hta⟩ (c_X10_passTime l ) (cwV 0 hta (gWV mw62 mw63 mw64 mw10 mw61) rfl rfl rfl (by decide +kernel) ⟨Nat.le_of_ble_eq_true rfl, Nat.le_of_ble_eq_true rfl⟩) ⟨gS_blind, va_recv hKc hPc (ci := 15) (q0 := 0) rfl rfl, fun U hU hW => ⟨rfl, by rw [hU], by rw [hU]; exact hPc, va_K.moved hW.alike hKc, hDc.weaken (fun _ _ _ _ => trivial), hG.call hS hU hW hFc⟩⟩ rfl rfl hl.1 rfl (lv_room (Nat.le_of_ble_eq_true rfl)) dX10_advance_52 ⟨Nat.le_of_ble_eq_true rfl, Nat.le_of_ble_eq_true rfl⟩) hP hD hS hK hFc rfl rfl (by decide) (by decide) (fun u10 H locs h11 hP hD hS hK => ?_)
          have hK : va_K D vwCl (tX t1 t2 t3 t4 t5) s := hK
          have hP : va_P D vwCl [(h0, .inr (15, [.ref a1, .ref a2, .ref a3, .ref a4, .ref a5, .ref h6, .int 0, .int 0, .int 0, .int 0, .int 0, .int (nI (j5 + 1)), .long 0, .long 0])), (a1, .inl (t1, 5, .inr (.inr (.inr (.inr (fun _ => none)))))), (a2, .inl (t2, 12, .inr (.inr (.inr (.inr (fun _ => none)))))), (a3, .inl (t3, 4, .inr (.inr (.inr (.inr (va_up (va_up (va_up (va_up (fun _ => none) 0 (some s0)) 1 (some s1)) 2 (some s2)) 3 (some s3))))))), (a4, .inl (t4, 90, .inr (.inr (.inr (.inr (fun _ => none)))))), (a5, .inl (t5, 30, .inr (.inr (.inr (.inr (fun _ => none)))))), (h6, .inr (10, [.long 0, .long 0])), (s0, .inr (14, [.int 110, .int 0, .int 0])), (s1, .inr (14, [.int 110, .int 0, .int 0])), (s2, .inr (14, [.int 110, .int 0, .int 0])), (s3, .inr (14, [.int 110, .int 0, .int 0]))] H := hP
          have hD : va_D A [(h0, .inr (15, [.ref a1, .ref a2, .ref a3, .ref a4, .ref a5, .ref h6, .int 0, .int 0, .int 0, .int 0, .int 0, .int (nI (j5 + 1)), .long 0, .long 0])), (a1, .inl (t1, 5, .inr (.inr (.inr (.inr (fun _ => none)))))), (a2, .inl (t2, 12, .inr (.inr (.inr (.inr (fun _ => none)))))), (a3, .inl (t3, 4, .inr (.inr (.inr (.inr (va_up (va_up (va_up (va_up (fun _ => none) 0 (some s0)) 1 (some s1)) 2 (some s2)) 3 (some s3))))))), (a4, .inl (t4, 90, .inr (.inr (.inr (.inr (fun _ => none)))))), (a5, .inl (t5, 30, .inr (.inr (.inr (.inr (fun _ => none)))))), (h6, .inr (10, [.long 0, .long 0])), (s0, .inr (14, [.int 110, .int 0, .int 0])), (s1, .inr (14, [.int 110, .int 0, .int 0])), (s2, .inr (14, [.int 110, .int 0, .int 0])), (s3, .inr (14, [.int 110, .int 0, .int 0]))] := hD
          refine lv_iinc (v := nI (j5 + 1)) (lv' := [(2, .int (nI (j5 + 1))), (0, .ref h0), (1, .int (nI N))]) hx hb dX10_advance_55 hl (k := 2) rfl (nI_1 _) (by decide) rfl (fun ls hl => ?_)
          refine lv_goto (tgt := 46) hx hb dX10_advance_58 (by decide) ?_
          exact ih7 (_, _, ls) ⟨hP, hD, hS, lv_sub hl [1, 2, 0] rfl⟩
      · skip
        obtain ⟨H, locs, ls⟩ := z
        obtain ⟨hP, hD, hS, hl⟩ := hz
        dsimp only at hP hD hS hl ⊢
        refine lv_iload_n hx hb dX10_advance_46 rfl (lv_at hl 2 rfl) ?_
        refine lv_iload_n hx hb dX10_advance_47 rfl (lv_at hl 1 rfl) ?_
        refine lv_icmp_ge (tgt := 61) hx hb dX10_advance_48 (by decide) (fun c12 => ?_) (fun c12 => ?_)
        · skip
          refine lv_aload_n hx hb dX10_advance_61 rfl (lv_at hl 0 rfl) ?_
          refine va_get (D := D) (ci := 15) (v := .int (nI N)) (C := RX10) (T := TX10) (N := 14) hx hb hta iwX10 hown hK hP 0 rfl rfl 11 (by decide) (hta _ mw55) (fun _ h9 => h9) rfl dX10_advance_62 ?_
          have hP9 := hP.sub (ws' := []) [] rfl
          have hD9 := hD.sub (ws' := []) [] (by decide) rfl
          have hK9 := hK.sub (tys' := []) [] rfl
          refine W.widen (k := 0) (n := 0) (Nat.le_of_ble_eq_true rfl) (Nat.le_of_ble_eq_true rfl) ?_
          exact W.iret (v := (nI N)) hx hb hr (fun t ht hWm => ⟨⟨_, (), rfl, (rfl : _ = _), ⟨by rw [ht]; exact hP9, va_K.moved hWm.alike hK9, hD9⟩⟩, hS.F ht⟩) hS.2.2 dX10_advance_65
        · exact absurd (nI_le (Nat.le_refl _) (by omega)) c12
    · exact absurd (adv_le hN) c4
  · exact absurd c3 (by decide)
end
section
set_option maxHeartbeats 4000000 in
set_option maxRecDepth 100000 in
theorem c_X5_init (l : Launch) {D : va_G} {tE sz : Nat} {q : Nat}  : Met l ⟨"Foundrymark$NumberSet", "<init>", "()V"⟩ (wsC ⟨"Foundrymark$NumberSet", "<init>", "()V"⟩ cX5_init 1 none) ({ frames := 1, cells := 0, slots := 0, locals := 20 }) (va_Pc [.ref q] (gS tE D [(q, .inr (10, [.long 0, .long 0]))] [] sz)) (va_Qv (fun _ : Unit => True) (gO D (fun _ => [(q, .inr (10, [.long 0, .long 0]))]) (fun _ => []) (va_A [(q, .inr (10, [.long 0, .long 0]))] sz)) (va_A [(q, .inr (10, [.long 0, .long 0]))] sz)) 0 0 (va_A [(q, .inr (10, [.long 0, .long 0]))] sz) := by
  refine Met.ofW (cc := cX5_init) (maxL := 1) (ret := none) (by decide) rfl ?_
  intro p e s m args below meth c s₁ B hml hv
  obtain ⟨rfl, hsz, hP, hK, hD0, hG⟩ := hv
  have hx := B.exec
  have hb := B.bytes
  have hr := B.returns
  have hlocks := B.notSynchronized
  have hts := atoms_spec (ws := wsC ⟨"Foundrymark$NumberSet", "<init>", "()V"⟩ cX5_init 1 none) B.pre
  have hta : ∀ w ∈ WA, w.before _ s = true := fun w h => hts w (List.mem_cons_of_mem _ h)
  have hown : s.vm.findClass "Foundrymark$NumberSet" = some m.cls := findClass_of_methodNamed B.named
  have hin : meth.name = "<init>" := (name_of_methodNamed B.named B.method).1
  subst hsz
  have hD : va_D (va_A [(q, .inr (10, [.long 0, .long 0]))] s.heap.size) [(q, .inr (10, [.long 0, .long 0]))] := hD0.self (sz := s.heap.size)
  generalize hAe : va_A [(q, .inr (10, [.long 0, .long 0]))] s.heap.size = A at hD hG ⊢
  have hA : ∀ q : Nat, s.heap.size ≤ q → A q := fun q h => by rw [← hAe]; exact Or.inr h
  have hS : va_S A s.heap s.heap [] := va_S.rf
  have hP : va_P D vwCl [(q, .inr (10, [.long 0, .long 0]))] s.heap := hP
  have hl := lv_entry ([.ref q]) (n := 1) (Nat.le_of_ble_eq_true rfl)
  rw [lg_entry_eq]
  generalize (lg_sl ([.ref q]) ++ List.replicate (1 - (lg_sl ([.ref q])).length) Slot.unset).toArray = ls at hl ⊢
  have hl : lv_has ls 1 [(0, .ref q)] := hl
  refine lv_aload_n hx hb dX5_init_0 rfl (lv_at hl 0 rfl) ?_
  refine W.objInit hx hb hown (hta _ mw65) (hta _ mw66) (hta _ mw67) rfl (by rw [hml]; exact hl.1) rfl dX5_init_1 (Nat.le_of_ble_eq_true rfl) (Nat.le_of_ble_eq_true rfl) ?_
  refine W.eq (g2 := F0 m 4 ls []) rfl ?_
  have hP9 := hP.sub (ws' := [(q, .inr (10, [.long 0, .long 0]))]) [0] rfl
  have hD9 := hD.sub (ws' := [(q, .inr (10, [.long 0, .long 0]))]) [0] (by decide) rfl
  have hK9 := hK.sub (tys' := []) [] rfl
  refine W.widen (k := 0) (n := 0) (Nat.le_of_ble_eq_true rfl) (Nat.le_of_ble_eq_true rfl) ?_
  exact W.vret hx hb hr (fun t ht hWm => ⟨⟨(), rfl, trivial, ⟨by rw [ht]; exact hP9, va_K.moved hWm.alike hK9, hD9⟩⟩, hS.F ht⟩) hS.2.2 dX5_init_4

set_option maxHeartbeats 4000000 in
set_option maxRecDepth 100000 in
theorem c_X9_init (l : Launch) {D : va_G} {tE sz : Nat} {q : Nat}  : Met l ⟨"Foundrymark$Supplier", "<init>", "()V"⟩ (wsC ⟨"Foundrymark$Supplier", "<init>", "()V"⟩ cX9_init 1 none) ({ frames := 1, cells := 0, slots := 0, locals := 20 }) (va_Pc [.ref q] (gS tE D [(q, .inr (14, [.int 0, .int 0, .int 0]))] [] sz)) (va_Qv (fun _ : Unit => True) (gO D (fun _ => [(q, .inr (14, [.int 110, .int 0, .int 0]))]) (fun _ => []) (va_A [(q, .inr (14, [.int 0, .int 0, .int 0]))] sz)) (va_A [(q, .inr (14, [.int 0, .int 0, .int 0]))] sz)) 0 0 (va_A [(q, .inr (14, [.int 0, .int 0, .int 0]))] sz) := by
  refine Met.ofW (cc := cX9_init) (maxL := 1) (ret := none) (by decide) rfl ?_
  intro p e s m args below meth c s₁ B hml hv
  obtain ⟨rfl, hsz, hP, hK, hD0, hG⟩ := hv
  have hx := B.exec
  have hb := B.bytes
  have hr := B.returns
  have hlocks := B.notSynchronized
  have hts := atoms_spec (ws := wsC ⟨"Foundrymark$Supplier", "<init>", "()V"⟩ cX9_init 1 none) B.pre
  have hta : ∀ w ∈ WA, w.before _ s = true := fun w h => hts w (List.mem_cons_of_mem _ h)
  have hown : s.vm.findClass "Foundrymark$Supplier" = some m.cls := findClass_of_methodNamed B.named
  have hin : meth.name = "<init>" := (name_of_methodNamed B.named B.method).1
  subst hsz
  have hD : va_D (va_A [(q, .inr (14, [.int 0, .int 0, .int 0]))] s.heap.size) [(q, .inr (14, [.int 0, .int 0, .int 0]))] := hD0.self (sz := s.heap.size)
  generalize hAe : va_A [(q, .inr (14, [.int 0, .int 0, .int 0]))] s.heap.size = A at hD hG ⊢
  have hA : ∀ q : Nat, s.heap.size ≤ q → A q := fun q h => by rw [← hAe]; exact Or.inr h
  have hS : va_S A s.heap s.heap [] := va_S.rf
  have hP : va_P D vwCl [(q, .inr (14, [.int 0, .int 0, .int 0]))] s.heap := hP
  have hl := lv_entry ([.ref q]) (n := 1) (Nat.le_of_ble_eq_true rfl)
  rw [lg_entry_eq]
  generalize (lg_sl ([.ref q]) ++ List.replicate (1 - (lg_sl ([.ref q])).length) Slot.unset).toArray = ls at hl ⊢
  have hl : lv_has ls 1 [(0, .ref q)] := hl
  refine lv_aload_n hx hb dX9_init_0 rfl (lv_at hl 0 rfl) ?_
  refine W.objInit hx hb hown (hta _ mw68) (hta _ mw66) (hta _ mw67) rfl (by rw [hml]; exact hl.1) rfl dX9_init_1 (Nat.le_of_ble_eq_true rfl) (Nat.le_of_ble_eq_true rfl) ?_
  refine W.eq (g2 := F0 m 4 ls []) rfl ?_
  refine lv_aload_n hx hb dX9_init_4 rfl (lv_at hl 0 rfl) ?_
  refine lv_bipush (v := 110) hx hb dX9_init_5 (by decide) ?_
  refine va_put (D := D) (ci := 14) (v := .int 110) (ty := .char) (C := RX9) (T := TX9) (N := 3) hx hb hta iwX9 tyX9 tyX9_ok nmX9 hown hK hP hD hS 0 rfl rfl 0 (by decide) (hta _ mw69) (fun _ h9 => h9) rfl (by decide +kernel) (by decide) (by decide) (Nat.le_of_ble_eq_true rfl) dX9_init_7 (fun H locs hP hD hS => ?_)
  have hP : va_P D vwCl [(q, .inr (14, [.int 110, .int 0, .int 0]))] H := hP
  have hD : va_D A [(q, .inr (14, [.int 110, .int 0, .int 0]))] := hD
  have hP9 := hP.sub (ws' := [(q, .inr (14, [.int 110, .int 0, .int 0]))]) [0] rfl
  have hD9 := hD.sub (ws' := [(q, .inr (14, [.int 110, .int 0, .int 0]))]) [0] (by decide) rfl
  have hK9 := hK.sub (tys' := []) [] rfl
  refine W.widen (k := 0) (n := 0) (Nat.le_of_ble_eq_true rfl) (Nat.le_of_ble_eq_true rfl) ?_
  exact W.vret hx hb hr (fun t ht hWm => ⟨⟨(), rfl, trivial, ⟨by rw [ht]; exact hP9, va_K.moved hWm.alike hK9, hD9⟩⟩, hS.F ht⟩) hS.2.2 dX9_init_10

set_option maxHeartbeats 4000000 in
set_option maxRecDepth 100000 in
theorem c_X0_init (l : Launch) {D : va_G} {tE sz : Nat} {q : Nat}  : Met l ⟨"Foundrymark$Chart", "<init>", "()V"⟩ (wsC ⟨"Foundrymark$Chart", "<init>", "()V"⟩ cX0_init 1 none) ({ frames := 1, cells := 0, slots := 0, locals := 20 }) (va_Pc [.ref q] (gS tE D [(q, .inr (5, [.int 0, .int 0, .int 0, .int 0, .int 0]))] [] sz)) (va_Qv (fun _ : Unit => True) (gO D (fun _ => [(q, .inr (5, [.int 100, .int 10, .int 0, .int 0, .int 0]))]) (fun _ => []) (va_A [(q, .inr (5, [.int 0, .int 0, .int 0, .int 0, .int 0]))] sz)) (va_A [(q, .inr (5, [.int 0, .int 0, .int 0, .int 0, .int 0]))] sz)) 0 0 (va_A [(q, .inr (5, [.int 0, .int 0, .int 0, .int 0, .int 0]))] sz) := by
  refine Met.ofW (cc := cX0_init) (maxL := 1) (ret := none) (by decide) rfl ?_
  intro p e s m args below meth c s₁ B hml hv
  obtain ⟨rfl, hsz, hP, hK, hD0, hG⟩ := hv
  have hx := B.exec
  have hb := B.bytes
  have hr := B.returns
  have hlocks := B.notSynchronized
  have hts := atoms_spec (ws := wsC ⟨"Foundrymark$Chart", "<init>", "()V"⟩ cX0_init 1 none) B.pre
  have hta : ∀ w ∈ WA, w.before _ s = true := fun w h => hts w (List.mem_cons_of_mem _ h)
  have hown : s.vm.findClass "Foundrymark$Chart" = some m.cls := findClass_of_methodNamed B.named
  have hin : meth.name = "<init>" := (name_of_methodNamed B.named B.method).1
  subst hsz
  have hD : va_D (va_A [(q, .inr (5, [.int 0, .int 0, .int 0, .int 0, .int 0]))] s.heap.size) [(q, .inr (5, [.int 0, .int 0, .int 0, .int 0, .int 0]))] := hD0.self (sz := s.heap.size)
  generalize hAe : va_A [(q, .inr (5, [.int 0, .int 0, .int 0, .int 0, .int 0]))] s.heap.size = A at hD hG ⊢
  have hA : ∀ q : Nat, s.heap.size ≤ q → A q := fun q h => by rw [← hAe]; exact Or.inr h
  have hS : va_S A s.heap s.heap [] := va_S.rf
  have hP : va_P D vwCl [(q, .inr (5, [.int 0, .int 0, .int 0, .int 0, .int 0]))] s.heap := hP
  have hl := lv_entry ([.ref q]) (n := 1) (Nat.le_of_ble_eq_true rfl)
  rw [lg_entry_eq]
  generalize (lg_sl ([.ref q]) ++ List.replicate (1 - (lg_sl ([.ref q])).length) Slot.unset).toArray = ls at hl ⊢
  have hl : lv_has ls 1 [(0, .ref q)] := hl
  refine lv_aload_n hx hb dX0_init_0 rfl (lv_at hl 0 rfl) ?_
  refine W.objInit hx hb hown (hta _ mw70) (hta _ mw66) (hta _ mw67) rfl (by rw [hml]; exact hl.1) rfl dX0_init_1 (Nat.le_of_ble_eq_true rfl) (Nat.le_of_ble_eq_true rfl) ?_
  refine W.eq (g2 := F0 m 4 ls []) rfl ?_
  refine lv_aload_n hx hb dX0_init_4 rfl (lv_at hl 0 rfl) ?_
  refine lv_bipush (v := 100) hx hb dX0_init_5 (by decide) ?_
  refine va_put (D := D) (ci := 5) (v := .int 100) (ty := .int) (C := RX0) (T := TX0) (N := 5) hx hb hta iwX0 tyX0 tyX0_ok nmX0 hown hK hP hD hS 0 rfl rfl 0 (by decide) (hta _ mw71) (fun _ h9 => h9) rfl (by decide +kernel) rfl rfl (Nat.le_of_ble_eq_true rfl) dX0_init_7 (fun H locs hP hD hS => ?_)
  have hP : va_P D vwCl [(q, .inr (5, [.int 100, .int 0, .int 0, .int 0, .int 0]))] H := hP
  have hD : va_D A [(q, .inr (5, [.int 100, .int 0, .int 0, .int 0, .int 0]))] := hD
  refine lv_aload_n hx hb dX0_init_10 rfl (lv_at hl 0 rfl) ?_
  refine lv_bipush (v := 10) hx hb dX0_init_11 (by decide) ?_
  refine va_put (D := D) (ci := 5) (v := .int 10) (ty := .int) (C := RX0) (T := TX0) (N := 5) hx hb hta iwX0 tyX0 tyX0_ok nmX0 hown hK hP hD hS 0 rfl rfl 1 (by decide) (hta _ mw72) (fun _ h9 => h9) rfl (by decide +kernel) rfl rfl (Nat.le_of_ble_eq_true rfl) dX0_init_13 (fun H locs hP hD hS => ?_)
  have hP : va_P D vwCl [(q, .inr (5, [.int 100, .int 10, .int 0, .int 0, .int 0]))] H := hP
  have hD : va_D A [(q, .inr (5, [.int 100, .int 10, .int 0, .int 0, .int 0]))] := hD
  have hP9 := hP.sub (ws' := [(q, .inr (5, [.int 100, .int 10, .int 0, .int 0, .int 0]))]) [0] rfl
  have hD9 := hD.sub (ws' := [(q, .inr (5, [.int 100, .int 10, .int 0, .int 0, .int 0]))]) [0] (by decide) rfl
  have hK9 := hK.sub (tys' := []) [] rfl
  refine W.widen (k := 0) (n := 0) (Nat.le_of_ble_eq_true rfl) (Nat.le_of_ble_eq_true rfl) ?_
  exact W.vret hx hb hr (fun t ht hWm => ⟨⟨(), rfl, trivial, ⟨by rw [ht]; exact hP9, va_K.moved hWm.alike hK9, hD9⟩⟩, hS.F ht⟩) hS.2.2 dX0_init_16

set_option maxHeartbeats 4000000 in
set_option maxRecDepth 100000 in
theorem c_X4_init (l : Launch) {D : va_G} {tE sz : Nat} {q : Nat} {x1 x2 x3 x4 : Int32} : Met l ⟨"Foundrymark$Machine", "<init>", "(IIII)V"⟩ (wsC ⟨"Foundrymark$Machine", "<init>", "(IIII)V"⟩ cX4_init 5 none) ({ frames := 1, cells := 0, slots := 0, locals := 20 }) (va_Pc [.ref q, .int x1, .int x2, .int x3, .int x4] (gS tE D [(q, .inr (9, [.int 0, .int 0, .int 0, .int 0, .int 0, .int 0, .int 0, .int 0, .int 0, .int 0, .null]))] [] sz)) (va_Qv (fun _ : Unit => True) (gO D (fun _ => [(q, .inr (9, [.int x1, .int x2, .int x3, .int x4, .int 45, .int (-1), .int 0, .int 0, .int (-1), .int 0, .null]))]) (fun _ => []) (va_A [(q, .inr (9, [.int 0, .int 0, .int 0, .int 0, .int 0, .int 0, .int 0, .int 0, .int 0, .int 0, .null]))] sz)) (va_A [(q, .inr (9, [.int 0, .int 0, .int 0, .int 0, .int 0, .int 0, .int 0, .int 0, .int 0, .int 0, .null]))] sz)) 0 0 (va_A [(q, .inr (9, [.int 0, .int 0, .int 0, .int 0, .int 0, .int 0, .int 0, .int 0, .int 0, .int 0, .null]))] sz) := by
  refine Met.ofW (cc := cX4_init) (maxL := 5) (ret := none) (by decide) rfl ?_
  intro p e s m args below meth c s₁ B hml hv
  obtain ⟨rfl, hsz, hP, hK, hD0, hG⟩ := hv
  have hx := B.exec
  have hb := B.bytes
  have hr := B.returns
  have hlocks := B.notSynchronized
  have hts := atoms_spec (ws := wsC ⟨"Foundrymark$Machine", "<init>", "(IIII)V"⟩ cX4_init 5 none) B.pre
  have hta : ∀ w ∈ WA, w.before _ s = true := fun w h => hts w (List.mem_cons_of_mem _ h)
  have hown : s.vm.findClass "Foundrymark$Machine" = some m.cls := findClass_of_methodNamed B.named
  have hin : meth.name = "<init>" := (name_of_methodNamed B.named B.method).1
  subst hsz
  have hD : va_D (va_A [(q, .inr (9, [.int 0, .int 0, .int 0, .int 0, .int 0, .int 0, .int 0, .int 0, .int 0, .int 0, .null]))] s.heap.size) [(q, .inr (9, [.int 0, .int 0, .int 0, .int 0, .int 0, .int 0, .int 0, .int 0, .int 0, .int 0, .null]))] := hD0.self (sz := s.heap.size)
  generalize hAe : va_A [(q, .inr (9, [.int 0, .int 0, .int 0, .int 0, .int 0, .int 0, .int 0, .int 0, .int 0, .int 0, .null]))] s.heap.size = A at hD hG ⊢
  have hA : ∀ q : Nat, s.heap.size ≤ q → A q := fun q h => by rw [← hAe]; exact Or.inr h
  have hS : va_S A s.heap s.heap [] := va_S.rf
  have hP : va_P D vwCl [(q, .inr (9, [.int 0, .int 0, .int 0, .int 0, .int 0, .int 0, .int 0, .int 0, .int 0, .int 0, .null]))] s.heap := hP
  have hl := lv_entry ([.ref q, .int x1, .int x2, .int x3, .int x4]) (n := 5) (Nat.le_of_ble_eq_true rfl)
  rw [lg_entry_eq]
  generalize (lg_sl ([.ref q, .int x1, .int x2, .int x3, .int x4]) ++ List.replicate (5 - (lg_sl ([.ref q, .int x1, .int x2, .int x3, .int x4])).length) Slot.unset).toArray = ls at hl ⊢
  have hl : lv_has ls 5 [(0, .ref q), (1, .int x1), (2, .int x2), (3, .int x3), (4, .int x4)] := hl
  refine lv_aload_n hx hb dX4_init_0 rfl (lv_at hl 0 rfl) ?_
  refine W.objInit hx hb hown (hta _ mw73) (hta _ mw66) (hta _ mw67) rfl (by rw [hml]; exact hl.1) rfl dX4_init_1 (Nat.le_of_ble_eq_true rfl) (Nat.le_of_ble_eq_true rfl) ?_
  refine W.eq (g2 := F0 m 4 ls []) rfl ?_
  refine lv_aload_n hx hb dX4_init_4 rfl (lv_at hl 0 rfl) ?_
  refine lv_bipush (v := 45) hx hb dX4_init_5 (by decide) ?_
  refine va_put (D := D) (ci := 9) (v := .int 45) (ty := .char) (C := RX4) (T := TX4) (N := 11) hx hb hta iwX4 tyX4 tyX4_ok nmX4 hown hK hP hD hS 0 rfl rfl 4 (by decide) (hta _ mw74) (fun _ h9 => h9) rfl (by decide +kernel) (by decide) (by decide) (Nat.le_of_ble_eq_true rfl) dX4_init_7 (fun H locs hP hD hS => ?_)
  have hP : va_P D vwCl [(q, .inr (9, [.int 0, .int 0, .int 0, .int 0, .int 45, .int 0, .int 0, .int 0, .int 0, .int 0, .null]))] H := hP
  have hD : va_D A [(q, .inr (9, [.int 0, .int 0, .int 0, .int 0, .int 45, .int 0, .int 0, .int 0, .int 0, .int 0, .null]))] := hD
  refine lv_aload_n hx hb dX4_init_10 rfl (lv_at hl 0 rfl) ?_
  refine lv_iconst (v := -1) hx hb dX4_init_11 (by decide) ?_
  refine va_put (D := D) (ci := 9) (v := .int (-1)) (ty := .int) (C := RX4) (T := TX4) (N := 11) hx hb hta iwX4 tyX4 tyX4_ok nmX4 hown hK hP hD hS 0 rfl rfl 5 (by decide) (hta _ mw75) (fun _ h9 => h9) rfl (by decide +kernel) rfl rfl (Nat.le_of_ble_eq_true rfl) dX4_init_12 (fun H locs hP hD hS => ?_)
  have hP : va_P D vwCl [(q, .inr (9, [.int 0, .int 0, .int 0, .int 0, .int 45, .int (-1), .int 0, .int 0, .int 0, .int 0, .null]))] H := hP
  have hD : va_D A [(q, .inr (9, [.int 0, .int 0, .int 0, .int 0, .int 45, .int (-1), .int 0, .int 0, .int 0, .int 0, .null]))] := hD
  refine lv_aload_n hx hb dX4_init_15 rfl (lv_at hl 0 rfl) ?_
  refine lv_iconst (v := -1) hx hb dX4_init_16 (by decide) ?_
  refine va_put (D := D) (ci := 9) (v := .int (-1)) (ty := .int) (C := RX4) (T := TX4) (N := 11) hx hb hta iwX4 tyX4 tyX4_ok nmX4 hown hK hP hD hS 0 rfl rfl 8 (by decide) (hta _ mw76) (fun _ h9 => h9) rfl (by decide +kernel) rfl rfl (Nat.le_of_ble_eq_true rfl) dX4_init_17 (fun H locs hP hD hS => ?_)
  have hP : va_P D vwCl [(q, .inr (9, [.int 0, .int 0, .int 0, .int 0, .int 45, .int (-1), .int 0, .int 0, .int (-1), .int 0, .null]))] H := hP
  have hD : va_D A [(q, .inr (9, [.int 0, .int 0, .int 0, .int 0, .int 45, .int (-1), .int 0, .int 0, .int (-1), .int 0, .null]))] := hD
  refine lv_aload_n hx hb dX4_init_20 rfl (lv_at hl 0 rfl) ?_
  refine lv_iload_n hx hb dX4_init_21 rfl (lv_at hl 1 rfl) ?_
  refine va_putF (D := D) (ci := 9) (v := .int x1) (ty := .int) (C := RX4) (T := TX4) (N := 11) hx hb hta iwX4 tyX4 tyX4_ok nmX4 hown hK hP hD hS 0 rfl rfl 0 (by decide) (hta _ mw77) (fun _ h9 => h9) rfl hin rfl (by decide +kernel) rfl rfl (Nat.le_of_ble_eq_true rfl) dX4_init_22 (fun H locs hP hD hS => ?_)
  have hP : va_P D vwCl [(q, .inr (9, [.int x1, .int 0, .int 0, .int 0, .int 45, .int (-1), .int 0, .int 0, .int (-1), .int 0, .null]))] H := hP
  have hD : va_D A [(q, .inr (9, [.int x1, .int 0, .int 0, .int 0, .int 45, .int (-1), .int 0, .int 0, .int (-1), .int 0, .null]))] := hD
  refine lv_aload_n hx hb dX4_init_25 rfl (lv_at hl 0 rfl) ?_
  refine lv_iload_n hx hb dX4_init_26 rfl (lv_at hl 2 rfl) ?_
  refine va_putF (D := D) (ci := 9) (v := .int x2) (ty := .int) (C := RX4) (T := TX4) (N := 11) hx hb hta iwX4 tyX4 tyX4_ok nmX4 hown hK hP hD hS 0 rfl rfl 1 (by decide) (hta _ mw78) (fun _ h9 => h9) rfl hin rfl (by decide +kernel) rfl rfl (Nat.le_of_ble_eq_true rfl) dX4_init_27 (fun H locs hP hD hS => ?_)
  have hP : va_P D vwCl [(q, .inr (9, [.int x1, .int x2, .int 0, .int 0, .int 45, .int (-1), .int 0, .int 0, .int (-1), .int 0, .null]))] H := hP
  have hD : va_D A [(q, .inr (9, [.int x1, .int x2, .int 0, .int 0, .int 45, .int (-1), .int 0, .int 0, .int (-1), .int 0, .null]))] := hD
  refine lv_aload_n hx hb dX4_init_30 rfl (lv_at hl 0 rfl) ?_
  refine lv_iload_n hx hb dX4_init_31 rfl (lv_at hl 3 rfl) ?_
  refine va_putF (D := D) (ci := 9) (v := .int x3) (ty := .int) (C := RX4) (T := TX4) (N := 11) hx hb hta iwX4 tyX4 tyX4_ok nmX4 hown hK hP hD hS 0 rfl rfl 2 (by decide) (hta _ mw79) (fun _ h9 => h9) rfl hin rfl (by decide +kernel) rfl rfl (Nat.le_of_ble_eq_true rfl) dX4_init_32 (fun H locs hP hD hS => ?_)
  have hP : va_P D vwCl [(q, .inr (9, [.int x1, .int x2, .int x3, .int 0, .int 45, .int (-1), .int 0, .int 0, .int (-1), .int 0, .null]))] H := hP
  have hD : va_D A [(q, .inr (9, [.int x1, .int x2, .int x3, .int 0, .int 45, .int (-1), .int 0, .int 0, .int (-1), .int 0, .null]))] := hD
  refine lv_aload_n hx hb dX4_init_35 rfl (lv_at hl 0 rfl) ?_
  refine lv_iload hx hb dX4_init_36 (lv_at hl 4 rfl) ?_
  refine va_putF (D := D) (ci := 9) (v := .int x4) (ty := .int) (C := RX4) (T := TX4) (N := 11) hx hb hta iwX4 tyX4 tyX4_ok nmX4 hown hK hP hD hS 0 rfl rfl 3 (by decide) (hta _ mw80) (fun _ h9 => h9) rfl hin rfl (by decide +kernel) rfl rfl (Nat.le_of_ble_eq_true rfl) dX4_init_38 (fun H locs hP hD hS => ?_)
  have hP : va_P D vwCl [(q, .inr (9, [.int x1, .int x2, .int x3, .int x4, .int 45, .int (-1), .int 0, .int 0, .int (-1), .int 0, .null]))] H := hP
  have hD : va_D A [(q, .inr (9, [.int x1, .int x2, .int x3, .int x4, .int 45, .int (-1), .int 0, .int 0, .int (-1), .int 0, .null]))] := hD
  have hP9 := hP.sub (ws' := [(q, .inr (9, [.int x1, .int x2, .int x3, .int x4, .int 45, .int (-1), .int 0, .int 0, .int (-1), .int 0, .null]))]) [0] rfl
  have hD9 := hD.sub (ws' := [(q, .inr (9, [.int x1, .int x2, .int x3, .int x4, .int 45, .int (-1), .int 0, .int 0, .int (-1), .int 0, .null]))]) [0] (by decide) rfl
  have hK9 := hK.sub (tys' := []) [] rfl
  refine W.widen (k := 0) (n := 0) (Nat.le_of_ble_eq_true rfl) (Nat.le_of_ble_eq_true rfl) ?_
  exact W.vret hx hb hr (fun t ht hWm => ⟨⟨(), rfl, trivial, ⟨by rw [ht]; exact hP9, va_K.moved hWm.alike hK9, hD9⟩⟩, hS.F ht⟩) hS.2.2 dX4_init_41

set_option maxHeartbeats 4000000 in
set_option maxRecDepth 100000 in
theorem c_X8_init_0 (l : Launch) {D : va_G} {tE sz : Nat} {q : Nat} {n f : Int32} : Met l ⟨"Foundrymark$Part", "<init>", "(IZI)V"⟩ (wsC ⟨"Foundrymark$Part", "<init>", "(IZI)V"⟩ cX8_init 4 none) ({ frames := 2, cells := 3, slots := 12, locals := 40 }) (va_Pc [.ref q, .int n, .int 0, .int f] (gS tE D [(q, .inr (13, [.int 0, .int 0, .int 0, .null, .null, .null, .int 0, .int 0]))] [] sz)) (va_Qv (fun _ : List Value => True) (gO D (fun u => [(q, .inr (13, u))]) (fun _ => []) (va_A [(q, .inr (13, [.int 0, .int 0, .int 0, .null, .null, .null, .int 0, .int 0]))] sz)) (va_A [(q, .inr (13, [.int 0, .int 0, .int 0, .null, .null, .null, .int 0, .int 0]))] sz)) 3 12 (va_A [(q, .inr (13, [.int 0, .int 0, .int 0, .null, .null, .null, .int 0, .int 0]))] sz) := by
  refine Met.ofW (cc := cX8_init) (maxL := 4) (ret := none) (by decide) rfl ?_
  intro p e s m args below meth c s₁ B hml hv
  obtain ⟨rfl, hsz, hP, hK, hD0, hG⟩ := hv
  have hx := B.exec
  have hb := B.bytes
  have hr := B.returns
  have hlocks := B.notSynchronized
  have hts := atoms_spec (ws := wsC ⟨"Foundrymark$Part", "<init>", "(IZI)V"⟩ cX8_init 4 none) B.pre
  have hta : ∀ w ∈ WA, w.before _ s = true := fun w h => hts w (List.mem_cons_of_mem _ h)
  have hown : s.vm.findClass "Foundrymark$Part" = some m.cls := findClass_of_methodNamed B.named
  have hin : meth.name = "<init>" := (name_of_methodNamed B.named B.method).1
  subst hsz
  have hD : va_D (va_A [(q, .inr (13, [.int 0, .int 0, .int 0, .null, .null, .null, .int 0, .int 0]))] s.heap.size) [(q, .inr (13, [.int 0, .int 0, .int 0, .null, .null, .null, .int 0, .int 0]))] := hD0.self (sz := s.heap.size)
  generalize hAe : va_A [(q, .inr (13, [.int 0, .int 0, .int 0, .null, .null, .null, .int 0, .int 0]))] s.heap.size = A at hD hG ⊢
  have hA : ∀ q : Nat, s.heap.size ≤ q → A q := fun q h => by rw [← hAe]; exact Or.inr h
  have hS : va_S A s.heap s.heap [] := va_S.rf
  have hP : va_P D vwCl [(q, .inr (13, [.int 0, .int 0, .int 0, .null, .null, .null, .int 0, .int 0]))] s.heap := hP
  have hl := lv_entry ([.ref q, .int n, .int 0, .int f]) (n := 4) (Nat.le_of_ble_eq_true rfl)
  rw [lg_entry_eq]
  generalize (lg_sl ([.ref q, .int n, .int 0, .int f]) ++ List.replicate (4 - (lg_sl ([.ref q, .int n, .int 0, .int f])).length) Slot.unset).toArray = ls at hl ⊢
  have hl : lv_has ls 4 [(0, .ref q), (1, .int n), (2, .int 0), (3, .int f)] := hl
  refine lv_aload_n hx hb dX8_init_0 rfl (lv_at hl 0 rfl) ?_
  refine W.objInit hx hb hown (hta _ mw81) (hta _ mw66) (hta _ mw67) rfl (by rw [hml]; exact hl.1) rfl dX8_init_1 (Nat.le_of_ble_eq_true rfl) (Nat.le_of_ble_eq_true rfl) ?_
  refine W.eq (g2 := F0 m 4 ls []) rfl ?_
  refine lv_aload_n hx hb dX8_init_4 rfl (lv_at hl 0 rfl) ?_
  refine lv_iconst (v := 4) hx hb dX8_init_5 (by decide) ?_
  refine va_newq (N' := 4) (C := "Foundrymark$Component") hx hb hown (hta _ mw82) (hG.O "Foundrymark$Component" (by decide)) hK hP hD hS hA (by decide) (by decide) (by decide) (Nat.le_of_ble_eq_true rfl) (Nat.le_of_ble_eq_true rfl) dX8_init_6 (fun q1 t2 H hK hP hD hS => ?_)
  have hK : va_K D vwCl [(t2, .object "Foundrymark$Component")] s := hK
  have hP : va_P D vwCl [(q, .inr (13, [.int 0, .int 0, .int 0, .null, .null, .null, .int 0, .int 0])), (q1, .inl (t2, 4, .inr (.inr (.inr (.inr (fun _ => none))))))] H := hP
  have hD : va_D A [(q, .inr (13, [.int 0, .int 0, .int 0, .null, .null, .null, .int 0, .int 0])), (q1, .inl (t2, 4, .inr (.inr (.inr (.inr (fun _ => none))))))] := hD
  refine va_putF (D := D) (ci := 13) (v := .ref q1) (ty := .array (.object "Foundrymark$Component")) (C := RX8) (T := TX8) (N := 8) hx hb hta iwX8 tyX8 tyX8_ok nmX8 hown hK hP hD hS 0 rfl rfl 3 (by decide) (hta _ mw83) (fun _ h9 => h9) rfl hin rfl (by decide +kernel) rfl rfl (Nat.le_of_ble_eq_true rfl) dX8_init_9 (fun H locs hP hD hS => ?_)
  have hP : va_P D vwCl [(q, .inr (13, [.int 0, .int 0, .int 0, .ref q1, .null, .null, .int 0, .int 0])), (q1, .inl (t2, 4, .inr (.inr (.inr (.inr (fun _ => none))))))] H := hP
  have hD : va_D A [(q, .inr (13, [.int 0, .int 0, .int 0, .ref q1, .null, .null, .int 0, .int 0])), (q1, .inl (t2, 4, .inr (.inr (.inr (.inr (fun _ => none))))))] := hD
  refine lv_aload_n hx hb dX8_init_12 rfl (lv_at hl 0 rfl) ?_
  refine lv_iconst (v := 3) hx hb dX8_init_13 (by decide) ?_
  refine va_newq (N' := 3) (C := "Foundrymark$Operation") hx hb hown (hta _ mw84) (hG.O "Foundrymark$Operation" (by decide)) hK hP hD hS hA (by decide) (by decide) (by decide) (Nat.le_of_ble_eq_true rfl) (Nat.le_of_ble_eq_true rfl) dX8_init_14 (fun q3 t4 H hK hP hD hS => ?_)
  have hK : va_K D vwCl [(t2, .object "Foundrymark$Component"), (t4, .object "Foundrymark$Operation")] s := hK
  have hP : va_P D vwCl [(q, .inr (13, [.int 0, .int 0, .int 0, .ref q1, .null, .null, .int 0, .int 0])), (q1, .inl (t2, 4, .inr (.inr (.inr (.inr (fun _ => none)))))), (q3, .inl (t4, 3, .inr (.inr (.inr (.inr (fun _ => none))))))] H := hP
  have hD : va_D A [(q, .inr (13, [.int 0, .int 0, .int 0, .ref q1, .null, .null, .int 0, .int 0])), (q1, .inl (t2, 4, .inr (.inr (.inr (.inr (fun _ => none)))))), (q3, .inl (t4, 3, .inr (.inr (.inr (.inr (fun _ => none))))))] := hD
  refine va_putF (D := D) (ci := 13) (v := .ref q3) (ty := .array (.object "Foundrymark$Operation")) (C := RX8) (T := TX8) (N := 8) hx hb hta iwX8 tyX8 tyX8_ok nmX8 hown hK hP hD hS 0 rfl rfl 4 (by decide) (hta _ mw85) (fun _ h9 => h9) rfl hin rfl (by decide +kernel) rfl rfl (Nat.le_of_ble_eq_true rfl) dX8_init_17 (fun H locs hP hD hS => ?_)
  have hP : va_P D vwCl [(q, .inr (13, [.int 0, .int 0, .int 0, .ref q1, .ref q3, .null, .int 0, .int 0])), (q1, .inl (t2, 4, .inr (.inr (.inr (.inr (fun _ => none)))))), (q3, .inl (t4, 3, .inr (.inr (.inr (.inr (fun _ => none))))))] H := hP
  have hD : va_D A [(q, .inr (13, [.int 0, .int 0, .int 0, .ref q1, .ref q3, .null, .int 0, .int 0])), (q1, .inl (t2, 4, .inr (.inr (.inr (.inr (fun _ => none)))))), (q3, .inl (t4, 3, .inr (.inr (.inr (.inr (fun _ => none))))))] := hD
  refine lv_aload_n hx hb dX8_init_20 rfl (lv_at hl 0 rfl) ?_
  refine va_new (ci := 5) (fs := [.int 0, .int 0, .int 0, .int 0, .int 0]) (C := RX0) (T := TX0) (N := 5) hx hb hta iwX0 tyX0 tyX0_ok hown (hta _ mw86) (hta _ mw87) (hta _ mw88) hK hP hD hS hA rfl (fun j hj => by rcases (show j = 0 ∨ j = 1 ∨ j = 2 ∨ j = 3 ∨ j = 4 by omega) with rfl | rfl | rfl | rfl | rfl <;> rfl) (Nat.le_of_ble_eq_true rfl) (Nat.le_of_ble_eq_true rfl) dX8_init_21 (fun q5 H hP hD hS => ?_)
  have hP : va_P D vwCl [(q, .inr (13, [.int 0, .int 0, .int 0, .ref q1, .ref q3, .null, .int 0, .int 0])), (q1, .inl (t2, 4, .inr (.inr (.inr (.inr (fun _ => none)))))), (q3, .inl (t4, 3, .inr (.inr (.inr (.inr (fun _ => none)))))), (q5, .inr (5, [.int 0, .int 0, .int 0, .int 0, .int 0]))] H := hP
  have hD : va_D A [(q, .inr (13, [.int 0, .int 0, .int 0, .ref q1, .ref q3, .null, .int 0, .int 0])), (q1, .inl (t2, 4, .inr (.inr (.inr (.inr (fun _ => none)))))), (q3, .inl (t4, 3, .inr (.inr (.inr (.inr (fun _ => none)))))), (q5, .inr (5, [.int 0, .int 0, .int 0, .int 0, .int 0]))] := hD
  refine lv_dup hx hb dX8_init_24 rfl ?_
  have hPc := hP.sub (ws' := [(q5, .inr (5, [.int 0, .int 0, .int 0, .int 0, .int 0]))]) [3] rfl
  have hKc := hK.sub (tys' := []) [] rfl
  have hDc := hD.sub (ws' := [(q5, .inr (5, [.int 0, .int 0, .int 0, .int 0, .int 0]))]) [3] (by decide) rfl
  have hFc := va_free (wc := [(q5, .inr (5, [.int 0, .int 0, .int 0, .int 0, .int 0]))]) hD hS hA [3] rfl
  refine gJ_v (isC := [3]) (isR := [0, 1, 2]) (wr := [(q, .inr (13, [.int 0, .int 0, .int 0, .ref q1, .ref q3, .null, .int 0, .int 0])), (q1, .inl (t2, 4, .inr (.inr (.inr (.inr (fun _ => none)))))), (q3, .inl (t4, 3, .inr (.inr (.inr (.inr (fun _ => none))))))]) (va_runIN (As := []) (rest := [.ref q5, .ref q]) ⟨hx, hb, hml, hown, hta⟩ (c_X0_init l ) ⟨va_cnB 0 hta (gWI mw89) rfl rfl rfl (hG.M ("Foundrymark$Part", 25, ⟨"Foundrymark$Chart", "<init>", "()V"⟩) (by decide)) (hta _ mw88) (by decide +kernel) ⟨Nat.le_of_ble_eq_true rfl, Nat.le_of_ble_eq_true rfl⟩, rfl, (hta _ mw90)⟩ ⟨gS_blind, fun U hU hW => ⟨rfl, by rw [hU], by rw [hU]; exact hPc, va_K.moved hW.alike hKc, hDc.weaken (fun _ _ _ _ => trivial), hG.call hS hU hW hFc⟩⟩ rfl rfl hl.1 rfl (lv_room (Nat.le_of_ble_eq_true rfl)) dX8_init_25 ⟨Nat.le_of_ble_eq_true rfl, Nat.le_of_ble_eq_true rfl⟩) hP hD hS hK hFc rfl rfl (by decide) (by decide) (fun u7 H locs h8 hP hD hS hK => ?_)
  have hK : va_K D vwCl [(t2, .object "Foundrymark$Component"), (t4, .object "Foundrymark$Operation")] s := hK
  have hP : va_P D vwCl [(q, .inr (13, [.int 0, .int 0, .int 0, .ref q1, .ref q3, .null, .int 0, .int 0])), (q1, .inl (t2, 4, .inr (.inr (.inr (.inr (fun _ => none)))))), (q3, .inl (t4, 3, .inr (.inr (.inr (.inr (fun _ => none)))))), (q5, .inr (5, [.int 100, .int 10, .int 0, .int 0, .int 0]))] H := hP
  have hD : va_D A [(q, .inr (13, [.int 0, .int 0, .int 0, .ref q1, .ref q3, .null, .int 0, .int 0])), (q1, .inl (t2, 4, .inr (.inr (.inr (.inr (fun _ => none)))))), (q3, .inl (t4, 3, .inr (.inr (.inr (.inr (fun _ => none)))))), (q5, .inr (5, [.int 100, .int 10, .int 0, .int 0, .int 0]))] := hD
  refine va_putF (D := D) (ci := 13) (v := .ref q5) (ty := .object "Foundrymark$Chart") (C := RX8) (T := TX8) (N := 8) hx hb hta iwX8 tyX8 tyX8_ok nmX8 hown hK hP hD hS 0 rfl rfl 5 (by decide) (hta _ mw91) (fun _ h9 => h9) rfl hin rfl (by decide +kernel) rfl rfl (Nat.le_of_ble_eq_true rfl) dX8_init_28 (fun H locs hP hD hS => ?_)
  have hP : va_P D vwCl [(q, .inr (13, [.int 0, .int 0, .int 0, .ref q1, .ref q3, .ref q5, .int 0, .int 0])), (q1, .inl (t2, 4, .inr (.inr (.inr (.inr (fun _ => none)))))), (q3, .inl (t4, 3, .inr (.inr (.inr (.inr (fun _ => none)))))), (q5, .inr (5, [.int 100, .int 10, .int 0, .int 0, .int 0]))] H := hP
  have hD : va_D A [(q, .inr (13, [.int 0, .int 0, .int 0, .ref q1, .ref q3, .ref q5, .int 0, .int 0])), (q1, .inl (t2, 4, .inr (.inr (.inr (.inr (fun _ => none)))))), (q3, .inl (t4, 3, .inr (.inr (.inr (.inr (fun _ => none)))))), (q5, .inr (5, [.int 100, .int 10, .int 0, .int 0, .int 0]))] := hD
  refine lv_aload_n hx hb dX8_init_31 rfl (lv_at hl 0 rfl) ?_
  refine lv_iload_n hx hb dX8_init_32 rfl (lv_at hl 1 rfl) ?_
  refine va_putF (D := D) (ci := 13) (v := .int n) (ty := .int) (C := RX8) (T := TX8) (N := 8) hx hb hta iwX8 tyX8 tyX8_ok nmX8 hown hK hP hD hS 0 rfl rfl 0 (by decide) (hta _ mw92) (fun _ h9 => h9) rfl hin rfl (by decide +kernel) rfl rfl (Nat.le_of_ble_eq_true rfl) dX8_init_33 (fun H locs hP hD hS => ?_)
  have hP : va_P D vwCl [(q, .inr (13, [.int n, .int 0, .int 0, .ref q1, .ref q3, .ref q5, .int 0, .int 0])), (q1, .inl (t2, 4, .inr (.inr (.inr (.inr (fun _ => none)))))), (q3, .inl (t4, 3, .inr (.inr (.inr (.inr (fun _ => none)))))), (q5, .inr (5, [.int 100, .int 10, .int 0, .int 0, .int 0]))] H := hP
  have hD : va_D A [(q, .inr (13, [.int n, .int 0, .int 0, .ref q1, .ref q3, .ref q5, .int 0, .int 0])), (q1, .inl (t2, 4, .inr (.inr (.inr (.inr (fun _ => none)))))), (q3, .inl (t4, 3, .inr (.inr (.inr (.inr (fun _ => none)))))), (q5, .inr (5, [.int 100, .int 10, .int 0, .int 0, .int 0]))] := hD
  refine lv_aload_n hx hb dX8_init_36 rfl (lv_at hl 0 rfl) ?_
  refine lv_iload_n hx hb dX8_init_37 rfl (lv_at hl 2 rfl) ?_
  refine va_putF (D := D) (ci := 13) (v := .int 0) (ty := .boolean) (C := RX8) (T := TX8) (N := 8) hx hb hta iwX8 tyX8 tyX8_ok nmX8 hown hK hP hD hS 0 rfl rfl 1 (by decide) (hta _ mw93) (fun _ h9 => h9) rfl hin rfl (by decide +kernel) (by decide) (by decide) (Nat.le_of_ble_eq_true rfl) dX8_init_38 (fun H locs hP hD hS => ?_)
  have hP : va_P D vwCl [(q, .inr (13, [.int n, .int 0, .int 0, .ref q1, .ref q3, .ref q5, .int 0, .int 0])), (q1, .inl (t2, 4, .inr (.inr (.inr (.inr (fun _ => none)))))), (q3, .inl (t4, 3, .inr (.inr (.inr (.inr (fun _ => none)))))), (q5, .inr (5, [.int 100, .int 10, .int 0, .int 0, .int 0]))] H := hP
  have hD : va_D A [(q, .inr (13, [.int n, .int 0, .int 0, .ref q1, .ref q3, .ref q5, .int 0, .int 0])), (q1, .inl (t2, 4, .inr (.inr (.inr (.inr (fun _ => none)))))), (q3, .inl (t4, 3, .inr (.inr (.inr (.inr (fun _ => none)))))), (q5, .inr (5, [.int 100, .int 10, .int 0, .int 0, .int 0]))] := hD
  refine lv_aload_n hx hb dX8_init_41 rfl (lv_at hl 0 rfl) ?_
  refine lv_iload_n hx hb dX8_init_42 rfl (lv_at hl 3 rfl) ?_
  refine va_putF (D := D) (ci := 13) (v := .int f) (ty := .int) (C := RX8) (T := TX8) (N := 8) hx hb hta iwX8 tyX8 tyX8_ok nmX8 hown hK hP hD hS 0 rfl rfl 2 (by decide) (hta _ mw94) (fun _ h9 => h9) rfl hin rfl (by decide +kernel) rfl rfl (Nat.le_of_ble_eq_true rfl) dX8_init_43 (fun H locs hP hD hS => ?_)
  have hP : va_P D vwCl [(q, .inr (13, [.int n, .int 0, .int f, .ref q1, .ref q3, .ref q5, .int 0, .int 0])), (q1, .inl (t2, 4, .inr (.inr (.inr (.inr (fun _ => none)))))), (q3, .inl (t4, 3, .inr (.inr (.inr (.inr (fun _ => none)))))), (q5, .inr (5, [.int 100, .int 10, .int 0, .int 0, .int 0]))] H := hP
  have hD : va_D A [(q, .inr (13, [.int n, .int 0, .int f, .ref q1, .ref q3, .ref q5, .int 0, .int 0])), (q1, .inl (t2, 4, .inr (.inr (.inr (.inr (fun _ => none)))))), (q3, .inl (t4, 3, .inr (.inr (.inr (.inr (fun _ => none)))))), (q5, .inr (5, [.int 100, .int 10, .int 0, .int 0, .int 0]))] := hD
  have hP9 := hP.sub (ws' := [(q, .inr (13, [.int n, .int 0, .int f, .ref q1, .ref q3, .ref q5, .int 0, .int 0]))]) [0] rfl
  have hD9 := hD.sub (ws' := [(q, .inr (13, [.int n, .int 0, .int f, .ref q1, .ref q3, .ref q5, .int 0, .int 0]))]) [0] (by decide) rfl
  have hK9 := hK.sub (tys' := []) [] rfl
  refine W.widen (k := 3) (n := 12) (Nat.le_of_ble_eq_true rfl) (Nat.le_of_ble_eq_true rfl) ?_
  exact W.vret hx hb hr (fun t ht hWm => ⟨⟨[.int n, .int 0, .int f, .ref q1, .ref q3, .ref q5, .int 0, .int 0], rfl, trivial, ⟨by rw [ht]; exact hP9, va_K.moved hWm.alike hK9, hD9⟩⟩, hS.F ht⟩) hS.2.2 dX8_init_46

set_option maxHeartbeats 4000000 in
set_option maxRecDepth 100000 in
theorem c_X8_init_1 (l : Launch) {D : va_G} {tE sz : Nat} {q : Nat} {n f : Int32} : Met l ⟨"Foundrymark$Part", "<init>", "(IZI)V"⟩ (wsC ⟨"Foundrymark$Part", "<init>", "(IZI)V"⟩ cX8_init 4 none) ({ frames := 2, cells := 3, slots := 12, locals := 40 }) (va_Pc [.ref q, .int n, .int 1, .int f] (gS tE D [(q, .inr (13, [.int 0, .int 0, .int 0, .null, .null, .null, .int 0, .int 0]))] [] sz)) (va_Qv (fun _ : List Value => True) (gO D (fun u => [(q, .inr (13, u))]) (fun _ => []) (va_A [(q, .inr (13, [.int 0, .int 0, .int 0, .null, .null, .null, .int 0, .int 0]))] sz)) (va_A [(q, .inr (13, [.int 0, .int 0, .int 0, .null, .null, .null, .int 0, .int 0]))] sz)) 3 12 (va_A [(q, .inr (13, [.int 0, .int 0, .int 0, .null, .null, .null, .int 0, .int 0]))] sz) := by
  refine Met.ofW (cc := cX8_init) (maxL := 4) (ret := none) (by decide) rfl ?_
  intro p e s m args below meth c s₁ B hml hv
  obtain ⟨rfl, hsz, hP, hK, hD0, hG⟩ := hv
  have hx := B.exec
  have hb := B.bytes
  have hr := B.returns
  have hlocks := B.notSynchronized
  have hts := atoms_spec (ws := wsC ⟨"Foundrymark$Part", "<init>", "(IZI)V"⟩ cX8_init 4 none) B.pre
  have hta : ∀ w ∈ WA, w.before _ s = true := fun w h => hts w (List.mem_cons_of_mem _ h)
  have hown : s.vm.findClass "Foundrymark$Part" = some m.cls := findClass_of_methodNamed B.named
  have hin : meth.name = "<init>" := (name_of_methodNamed B.named B.method).1
  subst hsz
  have hD : va_D (va_A [(q, .inr (13, [.int 0, .int 0, .int 0, .null, .null, .null, .int 0, .int 0]))] s.heap.size) [(q, .inr (13, [.int 0, .int 0, .int 0, .null, .null, .null, .int 0, .int 0]))] := hD0.self (sz := s.heap.size)
  generalize hAe : va_A [(q, .inr (13, [.int 0, .int 0, .int 0, .null, .null, .null, .int 0, .int 0]))] s.heap.size = A at hD hG ⊢
  have hA : ∀ q : Nat, s.heap.size ≤ q → A q := fun q h => by rw [← hAe]; exact Or.inr h
  have hS : va_S A s.heap s.heap [] := va_S.rf
  have hP : va_P D vwCl [(q, .inr (13, [.int 0, .int 0, .int 0, .null, .null, .null, .int 0, .int 0]))] s.heap := hP
  have hl := lv_entry ([.ref q, .int n, .int 1, .int f]) (n := 4) (Nat.le_of_ble_eq_true rfl)
  rw [lg_entry_eq]
  generalize (lg_sl ([.ref q, .int n, .int 1, .int f]) ++ List.replicate (4 - (lg_sl ([.ref q, .int n, .int 1, .int f])).length) Slot.unset).toArray = ls at hl ⊢
  have hl : lv_has ls 4 [(0, .ref q), (1, .int n), (2, .int 1), (3, .int f)] := hl
  refine lv_aload_n hx hb dX8_init_0 rfl (lv_at hl 0 rfl) ?_
  refine W.objInit hx hb hown (hta _ mw81) (hta _ mw66) (hta _ mw67) rfl (by rw [hml]; exact hl.1) rfl dX8_init_1 (Nat.le_of_ble_eq_true rfl) (Nat.le_of_ble_eq_true rfl) ?_
  refine W.eq (g2 := F0 m 4 ls []) rfl ?_
  refine lv_aload_n hx hb dX8_init_4 rfl (lv_at hl 0 rfl) ?_
  refine lv_iconst (v := 4) hx hb dX8_init_5 (by decide) ?_
  refine va_newq (N' := 4) (C := "Foundrymark$Component") hx hb hown (hta _ mw82) (hG.O "Foundrymark$Component" (by decide)) hK hP hD hS hA (by decide) (by decide) (by decide) (Nat.le_of_ble_eq_true rfl) (Nat.le_of_ble_eq_true rfl) dX8_init_6 (fun q1 t2 H hK hP hD hS => ?_)
  have hK : va_K D vwCl [(t2, .object "Foundrymark$Component")] s := hK
  have hP : va_P D vwCl [(q, .inr (13, [.int 0, .int 0, .int 0, .null, .null, .null, .int 0, .int 0])), (q1, .inl (t2, 4, .inr (.inr (.inr (.inr (fun _ => none))))))] H := hP
  have hD : va_D A [(q, .inr (13, [.int 0, .int 0, .int 0, .null, .null, .null, .int 0, .int 0])), (q1, .inl (t2, 4, .inr (.inr (.inr (.inr (fun _ => none))))))] := hD
  refine va_putF (D := D) (ci := 13) (v := .ref q1) (ty := .array (.object "Foundrymark$Component")) (C := RX8) (T := TX8) (N := 8) hx hb hta iwX8 tyX8 tyX8_ok nmX8 hown hK hP hD hS 0 rfl rfl 3 (by decide) (hta _ mw83) (fun _ h9 => h9) rfl hin rfl (by decide +kernel) rfl rfl (Nat.le_of_ble_eq_true rfl) dX8_init_9 (fun H locs hP hD hS => ?_)
  have hP : va_P D vwCl [(q, .inr (13, [.int 0, .int 0, .int 0, .ref q1, .null, .null, .int 0, .int 0])), (q1, .inl (t2, 4, .inr (.inr (.inr (.inr (fun _ => none))))))] H := hP
  have hD : va_D A [(q, .inr (13, [.int 0, .int 0, .int 0, .ref q1, .null, .null, .int 0, .int 0])), (q1, .inl (t2, 4, .inr (.inr (.inr (.inr (fun _ => none))))))] := hD
  refine lv_aload_n hx hb dX8_init_12 rfl (lv_at hl 0 rfl) ?_
  refine lv_iconst (v := 3) hx hb dX8_init_13 (by decide) ?_
  refine va_newq (N' := 3) (C := "Foundrymark$Operation") hx hb hown (hta _ mw84) (hG.O "Foundrymark$Operation" (by decide)) hK hP hD hS hA (by decide) (by decide) (by decide) (Nat.le_of_ble_eq_true rfl) (Nat.le_of_ble_eq_true rfl) dX8_init_14 (fun q3 t4 H hK hP hD hS => ?_)
  have hK : va_K D vwCl [(t2, .object "Foundrymark$Component"), (t4, .object "Foundrymark$Operation")] s := hK
  have hP : va_P D vwCl [(q, .inr (13, [.int 0, .int 0, .int 0, .ref q1, .null, .null, .int 0, .int 0])), (q1, .inl (t2, 4, .inr (.inr (.inr (.inr (fun _ => none)))))), (q3, .inl (t4, 3, .inr (.inr (.inr (.inr (fun _ => none))))))] H := hP
  have hD : va_D A [(q, .inr (13, [.int 0, .int 0, .int 0, .ref q1, .null, .null, .int 0, .int 0])), (q1, .inl (t2, 4, .inr (.inr (.inr (.inr (fun _ => none)))))), (q3, .inl (t4, 3, .inr (.inr (.inr (.inr (fun _ => none))))))] := hD
  refine va_putF (D := D) (ci := 13) (v := .ref q3) (ty := .array (.object "Foundrymark$Operation")) (C := RX8) (T := TX8) (N := 8) hx hb hta iwX8 tyX8 tyX8_ok nmX8 hown hK hP hD hS 0 rfl rfl 4 (by decide) (hta _ mw85) (fun _ h9 => h9) rfl hin rfl (by decide +kernel) rfl rfl (Nat.le_of_ble_eq_true rfl) dX8_init_17 (fun H locs hP hD hS => ?_)
  have hP : va_P D vwCl [(q, .inr (13, [.int 0, .int 0, .int 0, .ref q1, .ref q3, .null, .int 0, .int 0])), (q1, .inl (t2, 4, .inr (.inr (.inr (.inr (fun _ => none)))))), (q3, .inl (t4, 3, .inr (.inr (.inr (.inr (fun _ => none))))))] H := hP
  have hD : va_D A [(q, .inr (13, [.int 0, .int 0, .int 0, .ref q1, .ref q3, .null, .int 0, .int 0])), (q1, .inl (t2, 4, .inr (.inr (.inr (.inr (fun _ => none)))))), (q3, .inl (t4, 3, .inr (.inr (.inr (.inr (fun _ => none))))))] := hD
  refine lv_aload_n hx hb dX8_init_20 rfl (lv_at hl 0 rfl) ?_
  refine va_new (ci := 5) (fs := [.int 0, .int 0, .int 0, .int 0, .int 0]) (C := RX0) (T := TX0) (N := 5) hx hb hta iwX0 tyX0 tyX0_ok hown (hta _ mw86) (hta _ mw87) (hta _ mw88) hK hP hD hS hA rfl (fun j hj => by rcases (show j = 0 ∨ j = 1 ∨ j = 2 ∨ j = 3 ∨ j = 4 by omega) with rfl | rfl | rfl | rfl | rfl <;> rfl) (Nat.le_of_ble_eq_true rfl) (Nat.le_of_ble_eq_true rfl) dX8_init_21 (fun q5 H hP hD hS => ?_)
  have hP : va_P D vwCl [(q, .inr (13, [.int 0, .int 0, .int 0, .ref q1, .ref q3, .null, .int 0, .int 0])), (q1, .inl (t2, 4, .inr (.inr (.inr (.inr (fun _ => none)))))), (q3, .inl (t4, 3, .inr (.inr (.inr (.inr (fun _ => none)))))), (q5, .inr (5, [.int 0, .int 0, .int 0, .int 0, .int 0]))] H := hP
  have hD : va_D A [(q, .inr (13, [.int 0, .int 0, .int 0, .ref q1, .ref q3, .null, .int 0, .int 0])), (q1, .inl (t2, 4, .inr (.inr (.inr (.inr (fun _ => none)))))), (q3, .inl (t4, 3, .inr (.inr (.inr (.inr (fun _ => none)))))), (q5, .inr (5, [.int 0, .int 0, .int 0, .int 0, .int 0]))] := hD
  refine lv_dup hx hb dX8_init_24 rfl ?_
  have hPc := hP.sub (ws' := [(q5, .inr (5, [.int 0, .int 0, .int 0, .int 0, .int 0]))]) [3] rfl
  have hKc := hK.sub (tys' := []) [] rfl
  have hDc := hD.sub (ws' := [(q5, .inr (5, [.int 0, .int 0, .int 0, .int 0, .int 0]))]) [3] (by decide) rfl
  have hFc := va_free (wc := [(q5, .inr (5, [.int 0, .int 0, .int 0, .int 0, .int 0]))]) hD hS hA [3] rfl
  refine gJ_v (isC := [3]) (isR := [0, 1, 2]) (wr := [(q, .inr (13, [.int 0, .int 0, .int 0, .ref q1, .ref q3, .null, .int 0, .int 0])), (q1, .inl (t2, 4, .inr (.inr (.inr (.inr (fun _ => none)))))), (q3, .inl (t4, 3, .inr (.inr (.inr (.inr (fun _ => none))))))]) (va_runIN (As := []) (rest := [.ref q5, .ref q]) ⟨hx, hb, hml, hown, hta⟩ (c_X0_init l ) ⟨va_cnB 0 hta (gWI mw89) rfl rfl rfl (hG.M ("Foundrymark$Part", 25, ⟨"Foundrymark$Chart", "<init>", "()V"⟩) (by decide)) (hta _ mw88) (by decide +kernel) ⟨Nat.le_of_ble_eq_true rfl, Nat.le_of_ble_eq_true rfl⟩, rfl, (hta _ mw90)⟩ ⟨gS_blind, fun U hU hW => ⟨rfl, by rw [hU], by rw [hU]; exact hPc, va_K.moved hW.alike hKc, hDc.weaken (fun _ _ _ _ => trivial), hG.call hS hU hW hFc⟩⟩ rfl rfl hl.1 rfl (lv_room (Nat.le_of_ble_eq_true rfl)) dX8_init_25 ⟨Nat.le_of_ble_eq_true rfl, Nat.le_of_ble_eq_true rfl⟩) hP hD hS hK hFc rfl rfl (by decide) (by decide) (fun u7 H locs h8 hP hD hS hK => ?_)
  have hK : va_K D vwCl [(t2, .object "Foundrymark$Component"), (t4, .object "Foundrymark$Operation")] s := hK
  have hP : va_P D vwCl [(q, .inr (13, [.int 0, .int 0, .int 0, .ref q1, .ref q3, .null, .int 0, .int 0])), (q1, .inl (t2, 4, .inr (.inr (.inr (.inr (fun _ => none)))))), (q3, .inl (t4, 3, .inr (.inr (.inr (.inr (fun _ => none)))))), (q5, .inr (5, [.int 100, .int 10, .int 0, .int 0, .int 0]))] H := hP
  have hD : va_D A [(q, .inr (13, [.int 0, .int 0, .int 0, .ref q1, .ref q3, .null, .int 0, .int 0])), (q1, .inl (t2, 4, .inr (.inr (.inr (.inr (fun _ => none)))))), (q3, .inl (t4, 3, .inr (.inr (.inr (.inr (fun _ => none)))))), (q5, .inr (5, [.int 100, .int 10, .int 0, .int 0, .int 0]))] := hD
  refine va_putF (D := D) (ci := 13) (v := .ref q5) (ty := .object "Foundrymark$Chart") (C := RX8) (T := TX8) (N := 8) hx hb hta iwX8 tyX8 tyX8_ok nmX8 hown hK hP hD hS 0 rfl rfl 5 (by decide) (hta _ mw91) (fun _ h9 => h9) rfl hin rfl (by decide +kernel) rfl rfl (Nat.le_of_ble_eq_true rfl) dX8_init_28 (fun H locs hP hD hS => ?_)
  have hP : va_P D vwCl [(q, .inr (13, [.int 0, .int 0, .int 0, .ref q1, .ref q3, .ref q5, .int 0, .int 0])), (q1, .inl (t2, 4, .inr (.inr (.inr (.inr (fun _ => none)))))), (q3, .inl (t4, 3, .inr (.inr (.inr (.inr (fun _ => none)))))), (q5, .inr (5, [.int 100, .int 10, .int 0, .int 0, .int 0]))] H := hP
  have hD : va_D A [(q, .inr (13, [.int 0, .int 0, .int 0, .ref q1, .ref q3, .ref q5, .int 0, .int 0])), (q1, .inl (t2, 4, .inr (.inr (.inr (.inr (fun _ => none)))))), (q3, .inl (t4, 3, .inr (.inr (.inr (.inr (fun _ => none)))))), (q5, .inr (5, [.int 100, .int 10, .int 0, .int 0, .int 0]))] := hD
  refine lv_aload_n hx hb dX8_init_31 rfl (lv_at hl 0 rfl) ?_
  refine lv_iload_n hx hb dX8_init_32 rfl (lv_at hl 1 rfl) ?_
  refine va_putF (D := D) (ci := 13) (v := .int n) (ty := .int) (C := RX8) (T := TX8) (N := 8) hx hb hta iwX8 tyX8 tyX8_ok nmX8 hown hK hP hD hS 0 rfl rfl 0 (by decide) (hta _ mw92) (fun _ h9 => h9) rfl hin rfl (by decide +kernel) rfl rfl (Nat.le_of_ble_eq_true rfl) dX8_init_33 (fun H locs hP hD hS => ?_)
  have hP : va_P D vwCl [(q, .inr (13, [.int n, .int 0, .int 0, .ref q1, .ref q3, .ref q5, .int 0, .int 0])), (q1, .inl (t2, 4, .inr (.inr (.inr (.inr (fun _ => none)))))), (q3, .inl (t4, 3, .inr (.inr (.inr (.inr (fun _ => none)))))), (q5, .inr (5, [.int 100, .int 10, .int 0, .int 0, .int 0]))] H := hP
  have hD : va_D A [(q, .inr (13, [.int n, .int 0, .int 0, .ref q1, .ref q3, .ref q5, .int 0, .int 0])), (q1, .inl (t2, 4, .inr (.inr (.inr (.inr (fun _ => none)))))), (q3, .inl (t4, 3, .inr (.inr (.inr (.inr (fun _ => none)))))), (q5, .inr (5, [.int 100, .int 10, .int 0, .int 0, .int 0]))] := hD
  refine lv_aload_n hx hb dX8_init_36 rfl (lv_at hl 0 rfl) ?_
  refine lv_iload_n hx hb dX8_init_37 rfl (lv_at hl 2 rfl) ?_
  refine va_putF (D := D) (ci := 13) (v := .int 1) (ty := .boolean) (C := RX8) (T := TX8) (N := 8) hx hb hta iwX8 tyX8 tyX8_ok nmX8 hown hK hP hD hS 0 rfl rfl 1 (by decide) (hta _ mw93) (fun _ h9 => h9) rfl hin rfl (by decide +kernel) (by decide) (by decide) (Nat.le_of_ble_eq_true rfl) dX8_init_38 (fun H locs hP hD hS => ?_)
  have hP : va_P D vwCl [(q, .inr (13, [.int n, .int 1, .int 0, .ref q1, .ref q3, .ref q5, .int 0, .int 0])), (q1, .inl (t2, 4, .inr (.inr (.inr (.inr (fun _ => none)))))), (q3, .inl (t4, 3, .inr (.inr (.inr (.inr (fun _ => none)))))), (q5, .inr (5, [.int 100, .int 10, .int 0, .int 0, .int 0]))] H := hP
  have hD : va_D A [(q, .inr (13, [.int n, .int 1, .int 0, .ref q1, .ref q3, .ref q5, .int 0, .int 0])), (q1, .inl (t2, 4, .inr (.inr (.inr (.inr (fun _ => none)))))), (q3, .inl (t4, 3, .inr (.inr (.inr (.inr (fun _ => none)))))), (q5, .inr (5, [.int 100, .int 10, .int 0, .int 0, .int 0]))] := hD
  refine lv_aload_n hx hb dX8_init_41 rfl (lv_at hl 0 rfl) ?_
  refine lv_iload_n hx hb dX8_init_42 rfl (lv_at hl 3 rfl) ?_
  refine va_putF (D := D) (ci := 13) (v := .int f) (ty := .int) (C := RX8) (T := TX8) (N := 8) hx hb hta iwX8 tyX8 tyX8_ok nmX8 hown hK hP hD hS 0 rfl rfl 2 (by decide) (hta _ mw94) (fun _ h9 => h9) rfl hin rfl (by decide +kernel) rfl rfl (Nat.le_of_ble_eq_true rfl) dX8_init_43 (fun H locs hP hD hS => ?_)
  have hP : va_P D vwCl [(q, .inr (13, [.int n, .int 1, .int f, .ref q1, .ref q3, .ref q5, .int 0, .int 0])), (q1, .inl (t2, 4, .inr (.inr (.inr (.inr (fun _ => none)))))), (q3, .inl (t4, 3, .inr (.inr (.inr (.inr (fun _ => none)))))), (q5, .inr (5, [.int 100, .int 10, .int 0, .int 0, .int 0]))] H := hP
  have hD : va_D A [(q, .inr (13, [.int n, .int 1, .int f, .ref q1, .ref q3, .ref q5, .int 0, .int 0])), (q1, .inl (t2, 4, .inr (.inr (.inr (.inr (fun _ => none)))))), (q3, .inl (t4, 3, .inr (.inr (.inr (.inr (fun _ => none)))))), (q5, .inr (5, [.int 100, .int 10, .int 0, .int 0, .int 0]))] := hD
  have hP9 := hP.sub (ws' := [(q, .inr (13, [.int n, .int 1, .int f, .ref q1, .ref q3, .ref q5, .int 0, .int 0]))]) [0] rfl
  have hD9 := hD.sub (ws' := [(q, .inr (13, [.int n, .int 1, .int f, .ref q1, .ref q3, .ref q5, .int 0, .int 0]))]) [0] (by decide) rfl
  have hK9 := hK.sub (tys' := []) [] rfl
  refine W.widen (k := 3) (n := 12) (Nat.le_of_ble_eq_true rfl) (Nat.le_of_ble_eq_true rfl) ?_
  exact W.vret hx hb hr (fun t ht hWm => ⟨⟨[.int n, .int 1, .int f, .ref q1, .ref q3, .ref q5, .int 0, .int 0], rfl, trivial, ⟨by rw [ht]; exact hP9, va_K.moved hWm.alike hK9, hD9⟩⟩, hS.F ht⟩) hS.2.2 dX8_init_46
end
section
set_option maxHeartbeats 4000000 in
set_option maxRecDepth 100000 in
theorem c_X10_addMachine_t (l : Launch) {D : va_G} {tE sz : Nat} {h0 a1 a2 a3 a4 a5 h6 s0 s1 s2 s3 : Nat} {t1 t2 t3 t4 t5 : ClassId} {x1 x2 x3 x4 : Int32} (g91 : inR x1 0 20 = true) (g92 : inR x2 0 50 = true) (g93 : inR x3 5 500 = true) (g94 : inR x4 1 99 = true) : Met l ⟨"Foundrymark", "addMachine", "(IIII)I"⟩ (wsC ⟨"Foundrymark", "addMachine", "(IIII)I"⟩ cX10_addMachine 5 (some .int)) ({ frames := 2, cells := 1, slots := 11, locals := 44 }) (va_Pc [.ref h0, .int x1, .int x2, .int x3, .int x4] (gS tE D (wX h0 a1 a2 a3 a4 a5 h6 s0 s1 s2 s3 t1 t2 t3 t4 t5) (tX t1 t2 t3 t4 t5) sz)) (va_Qi (fun (r : Int32) (_ : Unit) => r = 0) (gO D (fun _ => []) (fun _ => []) (va_A (wX h0 a1 a2 a3 a4 a5 h6 s0 s1 s2 s3 t1 t2 t3 t4 t5) sz)) (va_A (wX h0 a1 a2 a3 a4 a5 h6 s0 s1 s2 s3 t1 t2 t3 t4 t5) sz)) 1 11 (va_A (wX h0 a1 a2 a3 a4 a5 h6 s0 s1 s2 s3 t1 t2 t3 t4 t5) sz) := by
  refine Met.ofW (cc := cX10_addMachine) (maxL := 5) (ret := (some .int)) (by decide) rfl ?_
  intro p e s m args below meth c s₁ B hml hv
  obtain ⟨rfl, hsz, hP, hK, hD0, hG⟩ := hv
  have hx := B.exec
  have hb := B.bytes
  have hr := B.returns
  have hlocks := B.notSynchronized
  have hts := atoms_spec (ws := wsC ⟨"Foundrymark", "addMachine", "(IIII)I"⟩ cX10_addMachine 5 (some .int)) B.pre
  have hta : ∀ w ∈ WA, w.before _ s = true := fun w h => hts w (List.mem_cons_of_mem _ h)
  have hown : s.vm.findClass "Foundrymark" = some m.cls := findClass_of_methodNamed B.named
  subst hsz
  have hD : va_D (va_A (wX h0 a1 a2 a3 a4 a5 h6 s0 s1 s2 s3 t1 t2 t3 t4 t5) s.heap.size) (wX h0 a1 a2 a3 a4 a5 h6 s0 s1 s2 s3 t1 t2 t3 t4 t5) := hD0.self (sz := s.heap.size)
  generalize hAe : va_A (wX h0 a1 a2 a3 a4 a5 h6 s0 s1 s2 s3 t1 t2 t3 t4 t5) s.heap.size = A at hD hG ⊢
  have hA : ∀ q : Nat, s.heap.size ≤ q → A q := fun q h => by rw [← hAe]; exact Or.inr h
  have hS : va_S A s.heap s.heap [] := va_S.rf
  have hP : va_P D vwCl (wX h0 a1 a2 a3 a4 a5 h6 s0 s1 s2 s3 t1 t2 t3 t4 t5) s.heap := hP
  have hl := lv_entry ([.ref h0, .int x1, .int x2, .int x3, .int x4]) (n := 5) (Nat.le_of_ble_eq_true rfl)
  rw [lg_entry_eq]
  generalize (lg_sl ([.ref h0, .int x1, .int x2, .int x3, .int x4]) ++ List.replicate (5 - (lg_sl ([.ref h0, .int x1, .int x2, .int x3, .int x4])).length) Slot.unset).toArray = ls at hl ⊢
  have hl : lv_has ls 5 [(0, .ref h0), (1, .int x1), (2, .int x2), (3, .int x3), (4, .int x4)] := hl
  refine lv_iload_n hx hb dX10_addMachine_0 rfl (lv_at hl 1 rfl) ?_
  refine lv_iconst (v := 0) hx hb dX10_addMachine_1 (by decide) ?_
  refine lv_bipush (v := 20) hx hb dX10_addMachine_2 (by decide) ?_
  refine vp_callSi (W.runS (As := [.int x1, .int 0, .int 20]) (rest := []) ⟨hx, hb, hml, hown, hta⟩ (c_X10_isFrom l x1 0 20) (va_cwS 3 hta (gWS mw57 mw58 mw10 mw56) rfl rfl rfl (by decide +kernel) ⟨Nat.le_of_ble_eq_true rfl, Nat.le_of_ble_eq_true rfl⟩) ⟨fun a U g mk q => ⟨q.1, trivial⟩, fun U hU hW => ⟨rfl, trivial⟩⟩ rfl rfl hl.1 rfl (lv_room (Nat.le_of_ble_eq_true rfl)) dX10_addMachine_4 ⟨Nat.zero_le _, Nat.zero_le _⟩) (fun r1 h2 => ?_)
  obtain rfl : r1 = 1 := h2.trans (by rw [g91]; rfl)
  refine lv_if_eq (tgt := 42) hx hb dX10_addMachine_7 (by decide) (fun c3 => ?_) (fun c3 => ?_)
  · exact absurd c3 (by decide)
  · skip
    refine lv_iload_n hx hb dX10_addMachine_10 rfl (lv_at hl 2 rfl) ?_
    refine lv_iconst (v := 0) hx hb dX10_addMachine_11 (by decide) ?_
    refine lv_bipush (v := 50) hx hb dX10_addMachine_12 (by decide) ?_
    refine vp_callSi (W.runS (As := [.int x2, .int 0, .int 50]) (rest := []) ⟨hx, hb, hml, hown, hta⟩ (c_X10_isFrom l x2 0 50) (va_cwS 3 hta (gWS mw57 mw58 mw10 mw56) rfl rfl rfl (by decide +kernel) ⟨Nat.le_of_ble_eq_true rfl, Nat.le_of_ble_eq_true rfl⟩) ⟨fun a U g mk q => ⟨q.1, trivial⟩, fun U hU hW => ⟨rfl, trivial⟩⟩ rfl rfl hl.1 rfl (lv_room (Nat.le_of_ble_eq_true rfl)) dX10_addMachine_14 ⟨Nat.zero_le _, Nat.zero_le _⟩) (fun r4 h5 => ?_)
    obtain rfl : r4 = 1 := h5.trans (by rw [g92]; rfl)
    refine lv_if_eq (tgt := 42) hx hb dX10_addMachine_17 (by decide) (fun c6 => ?_) (fun c6 => ?_)
    · exact absurd c6 (by decide)
    · skip
      refine lv_iload_n hx hb dX10_addMachine_20 rfl (lv_at hl 3 rfl) ?_
      refine lv_iconst (v := 5) hx hb dX10_addMachine_21 (by decide) ?_
      refine lv_sipush (v := 500) hx hb dX10_addMachine_22 (by decide) ?_
      refine vp_callSi (W.runS (As := [.int x3, .int 5, .int 500]) (rest := []) ⟨hx, hb, hml, hown, hta⟩ (c_X10_isFrom l x3 5 500) (va_cwS 3 hta (gWS mw57 mw58 mw10 mw56) rfl rfl rfl (by decide +kernel) ⟨Nat.le_of_ble_eq_true rfl, Nat.le_of_ble_eq_true rfl⟩) ⟨fun a U g mk q => ⟨q.1, trivial⟩, fun U hU hW => ⟨rfl, trivial⟩⟩ rfl rfl hl.1 rfl (lv_room (Nat.le_of_ble_eq_true rfl)) dX10_addMachine_25 ⟨Nat.zero_le _, Nat.zero_le _⟩) (fun r7 h8 => ?_)
      obtain rfl : r7 = 1 := h8.trans (by rw [g93]; rfl)
      refine lv_if_eq (tgt := 42) hx hb dX10_addMachine_28 (by decide) (fun c9 => ?_) (fun c9 => ?_)
      · exact absurd c9 (by decide)
      · skip
        refine lv_iload hx hb dX10_addMachine_31 (lv_at hl 4 rfl) ?_
        refine lv_iconst (v := 1) hx hb dX10_addMachine_33 (by decide) ?_
        refine lv_bipush (v := 99) hx hb dX10_addMachine_34 (by decide) ?_
        refine vp_callSi (W.runS (As := [.int x4, .int 1, .int 99]) (rest := []) ⟨hx, hb, hml, hown, hta⟩ (c_X10_isFrom l x4 1 99) (va_cwS 3 hta (gWS mw57 mw58 mw10 mw56) rfl rfl rfl (by decide +kernel) ⟨Nat.le_of_ble_eq_true rfl, Nat.le_of_ble_eq_true rfl⟩) ⟨fun a U g mk q => ⟨q.1, trivial⟩, fun U hU hW => ⟨rfl, trivial⟩⟩ rfl rfl hl.1 rfl (lv_room (Nat.le_of_ble_eq_true rfl)) dX10_addMachine_36 ⟨Nat.zero_le _, Nat.zero_le _⟩) (fun r10 h11 => ?_)
        obtain rfl : r10 = 1 := h11.trans (by rw [g94]; rfl)
        refine lv_if_ne (tgt := 52) hx hb dX10_addMachine_39 (by decide) (fun c12 => ?_) (fun c12 => ?_)
        · skip
          refine lv_aload_n hx hb dX10_addMachine_52 rfl (lv_at hl 0 rfl) ?_
          refine va_get (D := D) (ci := 15) (v := .int 0) (C := RX10) (T := TX10) (N := 14) hx hb hta iwX10 hown hK hP 0 rfl rfl 6 (by decide) (hta _ mw54) (fun _ h9 => h9) rfl dX10_addMachine_53 ?_
          refine lv_aload_n hx hb dX10_addMachine_56 rfl (lv_at hl 0 rfl) ?_
          refine va_get (D := D) (ci := 15) (v := .ref a1) (C := RX10) (T := TX10) (N := 14) hx hb hta iwX10 hown hK hP 0 rfl rfl 0 (by decide) (hta _ mw2) (fun _ h9 => h9) rfl dX10_addMachine_57 ?_
          refine va_alen hx hb hK hP 1 0 rfl rfl (v := 5) rfl dX10_addMachine_60 ?_
          refine lv_icmp_lt (tgt := 74) hx hb dX10_addMachine_61 (by decide) (fun c13 => ?_) (fun c13 => ?_)
          · skip
            refine lv_aload_n hx hb dX10_addMachine_74 rfl (lv_at hl 0 rfl) ?_
            refine va_get (D := D) (ci := 15) (v := .ref a1) (C := RX10) (T := TX10) (N := 14) hx hb hta iwX10 hown hK hP 0 rfl rfl 0 (by decide) (hta _ mw2) (fun _ h9 => h9) rfl dX10_addMachine_75 ?_
            refine lv_aload_n hx hb dX10_addMachine_78 rfl (lv_at hl 0 rfl) ?_
            refine va_get (D := D) (ci := 15) (v := .int 0) (C := RX10) (T := TX10) (N := 14) hx hb hta iwX10 hown hK hP 0 rfl rfl 6 (by decide) (hta _ mw54) (fun _ h9 => h9) rfl dX10_addMachine_79 ?_
            refine va_new (ci := 9) (fs := [.int 0, .int 0, .int 0, .int 0, .int 0, .int 0, .int 0, .int 0, .int 0, .int 0, .null]) (C := RX4) (T := TX4) (N := 11) hx hb hta iwX4 tyX4 tyX4_ok hown (hta _ mw95) (hta _ mw96) (hta _ mw97) hK hP hD hS hA rfl (fun j hj => by rcases (show j = 0 ∨ j = 1 ∨ j = 2 ∨ j = 3 ∨ j = 4 ∨ j = 5 ∨ j = 6 ∨ j = 7 ∨ j = 8 ∨ j = 9 ∨ j = 10 by omega) with rfl | rfl | rfl | rfl | rfl | rfl | rfl | rfl | rfl | rfl | rfl <;> rfl) (Nat.le_of_ble_eq_true rfl) (Nat.le_of_ble_eq_true rfl) dX10_addMachine_82 (fun q14 H hP hD hS => ?_)
            have hP : va_P D vwCl [(h0, .inr (15, [.ref a1, .ref a2, .ref a3, .ref a4, .ref a5, .ref h6, .int 0, .int 0, .int 0, .int 0, .int 0, .int 0, .long 0, .long 0])), (a1, .inl (t1, 5, .inr (.inr (.inr (.inr (fun _ => none)))))), (a2, .inl (t2, 12, .inr (.inr (.inr (.inr (fun _ => none)))))), (a3, .inl (t3, 4, .inr (.inr (.inr (.inr (va_up (va_up (va_up (va_up (fun _ => none) 0 (some s0)) 1 (some s1)) 2 (some s2)) 3 (some s3))))))), (a4, .inl (t4, 90, .inr (.inr (.inr (.inr (fun _ => none)))))), (a5, .inl (t5, 30, .inr (.inr (.inr (.inr (fun _ => none)))))), (h6, .inr (10, [.long 0, .long 0])), (s0, .inr (14, [.int 110, .int 0, .int 0])), (s1, .inr (14, [.int 110, .int 0, .int 0])), (s2, .inr (14, [.int 110, .int 0, .int 0])), (s3, .inr (14, [.int 110, .int 0, .int 0])), (q14, .inr (9, [.int 0, .int 0, .int 0, .int 0, .int 0, .int 0, .int 0, .int 0, .int 0, .int 0, .null]))] H := hP
            have hD : va_D A [(h0, .inr (15, [.ref a1, .ref a2, .ref a3, .ref a4, .ref a5, .ref h6, .int 0, .int 0, .int 0, .int 0, .int 0, .int 0, .long 0, .long 0])), (a1, .inl (t1, 5, .inr (.inr (.inr (.inr (fun _ => none)))))), (a2, .inl (t2, 12, .inr (.inr (.inr (.inr (fun _ => none)))))), (a3, .inl (t3, 4, .inr (.inr (.inr (.inr (va_up (va_up (va_up (va_up (fun _ => none) 0 (some s0)) 1 (some s1)) 2 (some s2)) 3 (some s3))))))), (a4, .inl (t4, 90, .inr (.inr (.inr (.inr (fun _ => none)))))), (a5, .inl (t5, 30, .inr (.inr (.inr (.inr (fun _ => none)))))), (h6, .inr (10, [.long 0, .long 0])), (s0, .inr (14, [.int 110, .int 0, .int 0])), (s1, .inr (14, [.int 110, .int 0, .int 0])), (s2, .inr (14, [.int 110, .int 0, .int 0])), (s3, .inr (14, [.int 110, .int 0, .int 0])), (q14, .inr (9, [.int 0, .int 0, .int 0, .int 0, .int 0, .int 0, .int 0, .int 0, .int 0, .int 0, .null]))] := hD
            refine lv_dup hx hb dX10_addMachine_85 rfl ?_
            refine lv_iload_n hx hb dX10_addMachine_86 rfl (lv_at hl 1 rfl) ?_
            refine lv_iload_n hx hb dX10_addMachine_87 rfl (lv_at hl 2 rfl) ?_
            refine lv_iload_n hx hb dX10_addMachine_88 rfl (lv_at hl 3 rfl) ?_
            refine lv_iload hx hb dX10_addMachine_89 (lv_at hl 4 rfl) ?_
            have hPc := hP.sub (ws' := [(q14, .inr (9, [.int 0, .int 0, .int 0, .int 0, .int 0, .int 0, .int 0, .int 0, .int 0, .int 0, .null]))]) [11] rfl
            have hKc := hK.sub (tys' := []) [] rfl
            have hDc := hD.sub (ws' := [(q14, .inr (9, [.int 0, .int 0, .int 0, .int 0, .int 0, .int 0, .int 0, .int 0, .int 0, .int 0, .null]))]) [11] (by decide) rfl
            have hFc := va_free (wc := [(q14, .inr (9, [.int 0, .int 0, .int 0, .int 0, .int 0, .int 0, .int 0, .int 0, .int 0, .int 0, .null]))]) hD hS hA [11] rfl
            refine gJ_v (isC := [11]) (isR := [0, 1, 2, 3, 4, 5, 6, 7, 8, 9, 10]) (wr := (wX h0 a1 a2 a3 a4 a5 h6 s0 s1 s2 s3 t1 t2 t3 t4 t5)) (va_runI (As := [.int x1, .int x2, .int x3, .int x4]) (rest := [.ref q14, .int 0, .ref a1]) ⟨hx, hb, hml, hown, hta⟩ (c_X4_init l ) (cwI 4 hta (gWI mw98) rfl rfl rfl (hta _ mw97) (hta _ mw99) (hta _ mw100) rfl (by decide +kernel) ⟨Nat.le_of_ble_eq_true rfl, Nat.le_of_ble_eq_true rfl⟩) ⟨gS_blind, fun U hU hW => ⟨rfl, by rw [hU], by rw [hU]; exact hPc, va_K.moved hW.alike hKc, hDc.weaken (fun _ _ _ _ => trivial), hG.call hS hU hW hFc⟩⟩ rfl rfl hl.1 rfl (lv_room (Nat.le_of_ble_eq_true rfl)) dX10_addMachine_91 ⟨Nat.le_of_ble_eq_true rfl, Nat.le_of_ble_eq_true rfl⟩) hP hD hS hK hFc rfl rfl (by decide) (by decide) (fun u16 H locs h17 hP hD hS hK => ?_)
            have hK : va_K D vwCl (tX t1 t2 t3 t4 t5) s := hK
            have hP : va_P D vwCl [(h0, .inr (15, [.ref a1, .ref a2, .ref a3, .ref a4, .ref a5, .ref h6, .int 0, .int 0, .int 0, .int 0, .int 0, .int 0, .long 0, .long 0])), (a1, .inl (t1, 5, .inr (.inr (.inr (.inr (fun _ => none)))))), (a2, .inl (t2, 12, .inr (.inr (.inr (.inr (fun _ => none)))))), (a3, .inl (t3, 4, .inr (.inr (.inr (.inr (va_up (va_up (va_up (va_up (fun _ => none) 0 (some s0)) 1 (some s1)) 2 (some s2)) 3 (some s3))))))), (a4, .inl (t4, 90, .inr (.inr (.inr (.inr (fun _ => none)))))), (a5, .inl (t5, 30, .inr (.inr (.inr (.inr (fun _ => none)))))), (h6, .inr (10, [.long 0, .long 0])), (s0, .inr (14, [.int 110, .int 0, .int 0])), (s1, .inr (14, [.int 110, .int 0, .int 0])), (s2, .inr (14, [.int 110, .int 0, .int 0])), (s3, .inr (14, [.int 110, .int 0, .int 0])), (q14, .inr (9, [.int x1, .int x2, .int x3, .int x4, .int 45, .int (-1), .int 0, .int 0, .int (-1), .int 0, .null]))] H := hP
            have hD : va_D A [(h0, .inr (15, [.ref a1, .ref a2, .ref a3, .ref a4, .ref a5, .ref h6, .int 0, .int 0, .int 0, .int 0, .int 0, .int 0, .long 0, .long 0])), (a1, .inl (t1, 5, .inr (.inr (.inr (.inr (fun _ => none)))))), (a2, .inl (t2, 12, .inr (.inr (.inr (.inr (fun _ => none)))))), (a3, .inl (t3, 4, .inr (.inr (.inr (.inr (va_up (va_up (va_up (va_up (fun _ => none) 0 (some s0)) 1 (some s1)) 2 (some s2)) 3 (some s3))))))), (a4, .inl (t4, 90, .inr (.inr (.inr (.inr (fun _ => none)))))), (a5, .inl (t5, 30, .inr (.inr (.inr (.inr (fun _ => none)))))), (h6, .inr (10, [.long 0, .long 0])), (s0, .inr (14, [.int 110, .int 0, .int 0])), (s1, .inr (14, [.int 110, .int 0, .int 0])), (s2, .inr (14, [.int 110, .int 0, .int 0])), (s3, .inr (14, [.int 110, .int 0, .int 0])), (q14, .inr (9, [.int x1, .int x2, .int x3, .int x4, .int 45, .int (-1), .int 0, .int 0, .int (-1), .int 0, .null]))] := hD
            refine va_astq (r := (RX4, TX4, 11)) hx hb hK hP hD hS 1 0 11 9 rfl rfl rfl rfl (i := 0) (by unfold vp_in; decide) dX10_addMachine_94 (fun H locs hP hD hS => ?_)
            have hP : va_P D vwCl [(h0, .inr (15, [.ref a1, .ref a2, .ref a3, .ref a4, .ref a5, .ref h6, .int 0, .int 0, .int 0, .int 0, .int 0, .int 0, .long 0, .long 0])), (a1, .inl (t1, 5, .inr (.inr (.inr (.inr (va_up (fun _ => none) 0 (some q14))))))), (a2, .inl (t2, 12, .inr (.inr (.inr (.inr (fun _ => none)))))), (a3, .inl (t3, 4, .inr (.inr (.inr (.inr (va_up (va_up (va_up (va_up (fun _ => none) 0 (some s0)) 1 (some s1)) 2 (some s2)) 3 (some s3))))))), (a4, .inl (t4, 90, .inr (.inr (.inr (.inr (fun _ => none)))))), (a5, .inl (t5, 30, .inr (.inr (.inr (.inr (fun _ => none)))))), (h6, .inr (10, [.long 0, .long 0])), (s0, .inr (14, [.int 110, .int 0, .int 0])), (s1, .inr (14, [.int 110, .int 0, .int 0])), (s2, .inr (14, [.int 110, .int 0, .int 0])), (s3, .inr (14, [.int 110, .int 0, .int 0])), (q14, .inr (9, [.int x1, .int x2, .int x3, .int x4, .int 45, .int (-1), .int 0, .int 0, .int (-1), .int 0, .null]))] H := hP
            have hD : va_D A [(h0, .inr (15, [.ref a1, .ref a2, .ref a3, .ref a4, .ref a5, .ref h6, .int 0, .int 0, .int 0, .int 0, .int 0, .int 0, .long 0, .long 0])), (a1, .inl (t1, 5, .inr (.inr (.inr (.inr (va_up (fun _ => none) 0 (some q14))))))), (a2, .inl (t2, 12, .inr (.inr (.inr (.inr (fun _ => none)))))), (a3, .inl (t3, 4, .inr (.inr (.inr (.inr (va_up (va_up (va_up (va_up (fun _ => none) 0 (some s0)) 1 (some s1)) 2 (some s2)) 3 (some s3))))))), (a4, .inl (t4, 90, .inr (.inr (.inr (.inr (fun _ => none)))))), (a5, .inl (t5, 30, .inr (.inr (.inr (.inr (fun _ => none)))))), (h6, .inr (10, [.long 0, .long 0])), (s0, .inr (14, [.int 110, .int 0, .int 0])), (s1, .inr (14, [.int 110, .int 0, .int 0])), (s2, .inr (14, [.int 110, .int 0, .int 0])), (s3, .inr (14, [.int 110, .int 0, .int 0])), (q14, .inr (9, [.int x1, .int x2, .int x3, .int x4, .int 45, .int (-1), .int 0, .int 0, .int (-1), .int 0, .null]))] := hD
            refine lv_aload_n hx hb dX10_addMachine_95 rfl (lv_at hl 0 rfl) ?_
            refine lv_dup hx hb dX10_addMachine_96 rfl ?_
            refine va_get (D := D) (ci := 15) (v := .int 0) (C := RX10) (T := TX10) (N := 14) hx hb hta iwX10 hown hK hP 0 rfl rfl 6 (by decide) (hta _ mw54) (fun _ h9 => h9) rfl dX10_addMachine_97 ?_
            refine lv_iconst (v := 1) hx hb dX10_addMachine_100 (by decide) ?_
            refine lv_iadd hx hb dX10_addMachine_101 ?_
            refine lv_topi (fun x18 ex18 => ?_)
            obtain rfl : x18 = 1 := ex18.trans (by decide)
            refine va_put (D := D) (ci := 15) (v := .int 1) (ty := .int) (C := RX10) (T := TX10) (N := 14) hx hb hta iwX10 tyX10 tyX10_ok nmX10 hown hK hP hD hS 0 rfl rfl 6 (by decide) (hta _ mw54) (fun _ h9 => h9) rfl (by decide +kernel) rfl rfl (Nat.le_of_ble_eq_true rfl) dX10_addMachine_102 (fun H locs hP hD hS => ?_)
            have hP : va_P D vwCl [(h0, .inr (15, [.ref a1, .ref a2, .ref a3, .ref a4, .ref a5, .ref h6, .int 1, .int 0, .int 0, .int 0, .int 0, .int 0, .long 0, .long 0])), (a1, .inl (t1, 5, .inr (.inr (.inr (.inr (va_up (fun _ => none) 0 (some q14))))))), (a2, .inl (t2, 12, .inr (.inr (.inr (.inr (fun _ => none)))))), (a3, .inl (t3, 4, .inr (.inr (.inr (.inr (va_up (va_up (va_up (va_up (fun _ => none) 0 (some s0)) 1 (some s1)) 2 (some s2)) 3 (some s3))))))), (a4, .inl (t4, 90, .inr (.inr (.inr (.inr (fun _ => none)))))), (a5, .inl (t5, 30, .inr (.inr (.inr (.inr (fun _ => none)))))), (h6, .inr (10, [.long 0, .long 0])), (s0, .inr (14, [.int 110, .int 0, .int 0])), (s1, .inr (14, [.int 110, .int 0, .int 0])), (s2, .inr (14, [.int 110, .int 0, .int 0])), (s3, .inr (14, [.int 110, .int 0, .int 0])), (q14, .inr (9, [.int x1, .int x2, .int x3, .int x4, .int 45, .int (-1), .int 0, .int 0, .int (-1), .int 0, .null]))] H := hP
            have hD : va_D A [(h0, .inr (15, [.ref a1, .ref a2, .ref a3, .ref a4, .ref a5, .ref h6, .int 1, .int 0, .int 0, .int 0, .int 0, .int 0, .long 0, .long 0])), (a1, .inl (t1, 5, .inr (.inr (.inr (.inr (va_up (fun _ => none) 0 (some q14))))))), (a2, .inl (t2, 12, .inr (.inr (.inr (.inr (fun _ => none)))))), (a3, .inl (t3, 4, .inr (.inr (.inr (.inr (va_up (va_up (va_up (va_up (fun _ => none) 0 (some s0)) 1 (some s1)) 2 (some s2)) 3 (some s3))))))), (a4, .inl (t4, 90, .inr (.inr (.inr (.inr (fun _ => none)))))), (a5, .inl (t5, 30, .inr (.inr (.inr (.inr (fun _ => none)))))), (h6, .inr (10, [.long 0, .long 0])), (s0, .inr (14, [.int 110, .int 0, .int 0])), (s1, .inr (14, [.int 110, .int 0, .int 0])), (s2, .inr (14, [.int 110, .int 0, .int 0])), (s3, .inr (14, [.int 110, .int 0, .int 0])), (q14, .inr (9, [.int x1, .int x2, .int x3, .int x4, .int 45, .int (-1), .int 0, .int 0, .int (-1), .int 0, .null]))] := hD
            refine lv_aload_n hx hb dX10_addMachine_105 rfl (lv_at hl 0 rfl) ?_
            refine va_get (D := D) (ci := 15) (v := .int 1) (C := RX10) (T := TX10) (N := 14) hx hb hta iwX10 hown hK hP 0 rfl rfl 6 (by decide) (hta _ mw54) (fun _ h9 => h9) rfl dX10_addMachine_106 ?_
            refine lv_iconst (v := 1) hx hb dX10_addMachine_109 (by decide) ?_
            refine lv_isub hx hb dX10_addMachine_110 ?_
            refine lv_topi (fun x19 ex19 => ?_)
            obtain rfl : x19 = 0 := ex19.trans (by decide)
            have hP9 := hP.sub (ws' := []) [] rfl
            have hD9 := hD.sub (ws' := []) [] (by decide) rfl
            have hK9 := hK.sub (tys' := []) [] rfl
            refine W.widen (k := 1) (n := 11) (Nat.le_of_ble_eq_true rfl) (Nat.le_of_ble_eq_true rfl) ?_
            exact W.iret (v := 0) hx hb hr (fun t ht hWm => ⟨⟨_, (), rfl, rfl, ⟨by rw [ht]; exact hP9, va_K.moved hWm.alike hK9, hD9⟩⟩, hS.F ht⟩) hS.2.2 dX10_addMachine_111
          · exact absurd (by decide) c13
        · exact absurd c12 (by decide)

set_option maxHeartbeats 4000000 in
set_option maxRecDepth 100000 in
theorem c_X10_addMachine_f (l : Launch) (hl0 : l.stackTraces = false) {D : va_G} {tE sz : Nat} {h0 a1 a2 a3 a4 a5 h6 s0 s1 s2 s3 : Nat} {t1 t2 t3 t4 t5 : ClassId} {x1 x2 x3 x4 : Int32} (hf : fitM x1 x2 x3 x4 = false) : vx_Met l ⟨"Foundrymark", "addMachine", "(IIII)I"⟩ (wsC ⟨"Foundrymark", "addMachine", "(IIII)I"⟩ cX10_addMachine 5 (some .int)) ({ frames := 6, cells := 1, slots := 6, locals := 98 }) (va_Pc [.ref h0, .int x1, .int x2, .int x3, .int x4] (gS tE D (wX h0 a1 a2 a3 a4 a5 h6 s0 s1 s2 s3 t1 t2 t3 t4 t5) (tX t1 t2 t3 t4 t5) sz)) (fun _ _ _ _ => False) (vx_X (fun _ : Unit => True) (fun E9 _ _ => E9 = "java/lang/IllegalArgumentException") (va_A (wX h0 a1 a2 a3 a4 a5 h6 s0 s1 s2 s3 t1 t2 t3 t4 t5) sz)) 1 6 (va_A (wX h0 a1 a2 a3 a4 a5 h6 s0 s1 s2 s3 t1 t2 t3 t4 t5) sz) := by
  refine vx_ofW (cc := cX10_addMachine) (maxL := 5) (ret := (some .int)) (by decide) rfl ?_
  intro p e s m args below meth c s₁ B hml hout hv
  obtain ⟨rfl, hsz, hP, hK, hD0, hG⟩ := hv
  have hx := B.exec
  have hb := B.bytes
  have hr := B.returns
  have hlocks := B.notSynchronized
  have hts := atoms_spec (ws := wsC ⟨"Foundrymark", "addMachine", "(IIII)I"⟩ cX10_addMachine 5 (some .int)) B.pre
  have hta : ∀ w ∈ WA, w.before _ s = true := fun w h => hts w (List.mem_cons_of_mem _ h)
  have hown : s.vm.findClass "Foundrymark" = some m.cls := findClass_of_methodNamed B.named
  subst hsz
  have hD : va_D (va_A (wX h0 a1 a2 a3 a4 a5 h6 s0 s1 s2 s3 t1 t2 t3 t4 t5) s.heap.size) (wX h0 a1 a2 a3 a4 a5 h6 s0 s1 s2 s3 t1 t2 t3 t4 t5) := hD0.self (sz := s.heap.size)
  generalize hAe : va_A (wX h0 a1 a2 a3 a4 a5 h6 s0 s1 s2 s3 t1 t2 t3 t4 t5) s.heap.size = A at hD hG ⊢
  have hA : ∀ q : Nat, s.heap.size ≤ q → A q := fun q h => by rw [← hAe]; exact Or.inr h
  have hS : va_S A s.heap s.heap [] := va_S.rf
  have hP : va_P D vwCl (wX h0 a1 a2 a3 a4 a5 h6 s0 s1 s2 s3 t1 t2 t3 t4 t5) s.heap := hP
  have hl := lv_entry ([.ref h0, .int x1, .int x2, .int x3, .int x4]) (n := 5) (Nat.le_of_ble_eq_true rfl)
  rw [lg_entry_eq]
  generalize (lg_sl ([.ref h0, .int x1, .int x2, .int x3, .int x4]) ++ List.replicate (5 - (lg_sl ([.ref h0, .int x1, .int x2, .int x3, .int x4])).length) Slot.unset).toArray = ls at hl ⊢
  have hl : lv_has ls 5 [(0, .ref h0), (1, .int x1), (2, .int x2), (3, .int x3), (4, .int x4)] := hl
  refine lv_iload_n hx hb dX10_addMachine_0 rfl (lv_at hl 1 rfl) ?_
  refine lv_iconst (v := 0) hx hb dX10_addMachine_1 (by decide) ?_
  refine lv_bipush (v := 20) hx hb dX10_addMachine_2 (by decide) ?_
  refine vp_callSi (W.runS (As := [.int x1, .int 0, .int 20]) (rest := []) ⟨hx, hb, hml, hown, hta⟩ (c_X10_isFrom l x1 0 20) (va_cwS 3 hta (gWS mw57 mw58 mw10 mw56) rfl rfl rfl (by decide +kernel) ⟨Nat.le_of_ble_eq_true rfl, Nat.le_of_ble_eq_true rfl⟩) ⟨fun a U g mk q => ⟨q.1, trivial⟩, fun U hU hW => ⟨rfl, trivial⟩⟩ rfl rfl hl.1 rfl (lv_room (Nat.le_of_ble_eq_true rfl)) dX10_addMachine_4 ⟨Nat.zero_le _, Nat.zero_le _⟩) (fun r1 h2 => ?_)
  rcases g3 : inR x1 0 20 with _ | _
  · skip
    obtain rfl : r1 = 0 := h2.trans (by rw [g3]; rfl)
    refine lv_if_eq (tgt := 42) hx hb dX10_addMachine_7 (by decide) (fun c4 => ?_) (fun c4 => ?_)
    · skip
      obtain ⟨sa, hsa⟩ := hG.S (53, "a number of the machine is out of range") (by decide)
      exact vx_throwS (names := xnms) (mc := 1) (ms := 6) (text := "a number of the machine is out of range") (own := "Foundrymark") hx hb hl0 hown (by decide +kernel) (by decide +kernel) (hta _ mw59) (hta _ mw60) hsa (vx_hat (B := exB) (fun w hw => hta w (wx_55 w hw)) (by decide +kernel) (fun w hw => hG.B w hw)) (by decide +kernel) hG.U hG.N hS (hl.1.trans hml.symm) dX10_addMachine_42 dX10_addMachine_45 dX10_addMachine_46 dX10_addMachine_48 dX10_addMachine_51 (fun x hx9 => (hout x hx9).elim) (Nat.le_of_ble_eq_true rfl) (Nat.le_of_ble_eq_true rfl) (Nat.le_of_ble_eq_true rfl) (Nat.le_of_ble_eq_true rfl) hlocks (fun t hv hz hk => ⟨(), trivial, rfl, gF9 hS hz hk⟩) hS.2.2 (Nat.le_of_ble_eq_true rfl) (Nat.le_of_ble_eq_true rfl)
    · exact absurd (by decide) c4
  · skip
    obtain rfl : r1 = 1 := h2.trans (by rw [g3]; rfl)
    refine lv_if_eq (tgt := 42) hx hb dX10_addMachine_7 (by decide) (fun c5 => ?_) (fun c5 => ?_)
    · exact absurd c5 (by decide)
    · skip
      refine lv_iload_n hx hb dX10_addMachine_10 rfl (lv_at hl 2 rfl) ?_
      refine lv_iconst (v := 0) hx hb dX10_addMachine_11 (by decide) ?_
      refine lv_bipush (v := 50) hx hb dX10_addMachine_12 (by decide) ?_
      refine vp_callSi (W.runS (As := [.int x2, .int 0, .int 50]) (rest := []) ⟨hx, hb, hml, hown, hta⟩ (c_X10_isFrom l x2 0 50) (va_cwS 3 hta (gWS mw57 mw58 mw10 mw56) rfl rfl rfl (by decide +kernel) ⟨Nat.le_of_ble_eq_true rfl, Nat.le_of_ble_eq_true rfl⟩) ⟨fun a U g mk q => ⟨q.1, trivial⟩, fun U hU hW => ⟨rfl, trivial⟩⟩ rfl rfl hl.1 rfl (lv_room (Nat.le_of_ble_eq_true rfl)) dX10_addMachine_14 ⟨Nat.zero_le _, Nat.zero_le _⟩) (fun r6 h7 => ?_)
      rcases g8 : inR x2 0 50 with _ | _
      · skip
        obtain rfl : r6 = 0 := h7.trans (by rw [g8]; rfl)
        refine lv_if_eq (tgt := 42) hx hb dX10_addMachine_17 (by decide) (fun c9 => ?_) (fun c9 => ?_)
        · skip
          obtain ⟨sa, hsa⟩ := hG.S (53, "a number of the machine is out of range") (by decide)
          exact vx_throwS (names := xnms) (mc := 1) (ms := 6) (text := "a number of the machine is out of range") (own := "Foundrymark") hx hb hl0 hown (by decide +kernel) (by decide +kernel) (hta _ mw59) (hta _ mw60) hsa (vx_hat (B := exB) (fun w hw => hta w (wx_55 w hw)) (by decide +kernel) (fun w hw => hG.B w hw)) (by decide +kernel) hG.U hG.N hS (hl.1.trans hml.symm) dX10_addMachine_42 dX10_addMachine_45 dX10_addMachine_46 dX10_addMachine_48 dX10_addMachine_51 (fun x hx9 => (hout x hx9).elim) (Nat.le_of_ble_eq_true rfl) (Nat.le_of_ble_eq_true rfl) (Nat.le_of_ble_eq_true rfl) (Nat.le_of_ble_eq_true rfl) hlocks (fun t hv hz hk => ⟨(), trivial, rfl, gF9 hS hz hk⟩) hS.2.2 (Nat.le_of_ble_eq_true rfl) (Nat.le_of_ble_eq_true rfl)
        · exact absurd (by decide) c9
      · skip
        obtain rfl : r6 = 1 := h7.trans (by rw [g8]; rfl)
        refine lv_if_eq (tgt := 42) hx hb dX10_addMachine_17 (by decide) (fun c10 => ?_) (fun c10 => ?_)
        · exact absurd c10 (by decide)
        · skip
          refine lv_iload_n hx hb dX10_addMachine_20 rfl (lv_at hl 3 rfl) ?_
          refine lv_iconst (v := 5) hx hb dX10_addMachine_21 (by decide) ?_
          refine lv_sipush (v := 500) hx hb dX10_addMachine_22 (by decide) ?_
          refine vp_callSi (W.runS (As := [.int x3, .int 5, .int 500]) (rest := []) ⟨hx, hb, hml, hown, hta⟩ (c_X10_isFrom l x3 5 500) (va_cwS 3 hta (gWS mw57 mw58 mw10 mw56) rfl rfl rfl (by decide +kernel) ⟨Nat.le_of_ble_eq_true rfl, Nat.le_of_ble_eq_true rfl⟩) ⟨fun a U g mk q => ⟨q.1, trivial⟩, fun U hU hW => ⟨rfl, trivial⟩⟩ rfl rfl hl.1 rfl (lv_room (Nat.le_of_ble_eq_true rfl)) dX10_addMachine_25 ⟨Nat.zero_le _, Nat.zero_le _⟩) (fun r11 h12 => ?_)
          rcases g13 : inR x3 5 500 with _ | _
          · skip
            obtain rfl : r11 = 0 := h12.trans (by rw [g13]; rfl)
            refine lv_if_eq (tgt := 42) hx hb dX10_addMachine_28 (by decide) (fun c14 => ?_) (fun c14 => ?_)
            · skip
              obtain ⟨sa, hsa⟩ := hG.S (53, "a number of the machine is out of range") (by decide)
              exact vx_throwS (names := xnms) (mc := 1) (ms := 6) (text := "a number of the machine is out of range") (own := "Foundrymark") hx hb hl0 hown (by decide +kernel) (by decide +kernel) (hta _ mw59) (hta _ mw60) hsa (vx_hat (B := exB) (fun w hw => hta w (wx_55 w hw)) (by decide +kernel) (fun w hw => hG.B w hw)) (by decide +kernel) hG.U hG.N hS (hl.1.trans hml.symm) dX10_addMachine_42 dX10_addMachine_45 dX10_addMachine_46 dX10_addMachine_48 dX10_addMachine_51 (fun x hx9 => (hout x hx9).elim) (Nat.le_of_ble_eq_true rfl) (Nat.le_of_ble_eq_true rfl) (Nat.le_of_ble_eq_true rfl) (Nat.le_of_ble_eq_true rfl) hlocks (fun t hv hz hk => ⟨(), trivial, rfl, gF9 hS hz hk⟩) hS.2.2 (Nat.le_of_ble_eq_true rfl) (Nat.le_of_ble_eq_true rfl)
            · exact absurd (by decide) c14
          · skip
            obtain rfl : r11 = 1 := h12.trans (by rw [g13]; rfl)
            refine lv_if_eq (tgt := 42) hx hb dX10_addMachine_28 (by decide) (fun c15 => ?_) (fun c15 => ?_)
            · exact absurd c15 (by decide)
            · skip
              refine lv_iload hx hb dX10_addMachine_31 (lv_at hl 4 rfl) ?_
              refine lv_iconst (v := 1) hx hb dX10_addMachine_33 (by decide) ?_
              refine lv_bipush (v := 99) hx hb dX10_addMachine_34 (by decide) ?_
              refine vp_callSi (W.runS (As := [.int x4, .int 1, .int 99]) (rest := []) ⟨hx, hb, hml, hown, hta⟩ (c_X10_isFrom l x4 1 99) (va_cwS 3 hta (gWS mw57 mw58 mw10 mw56) rfl rfl rfl (by decide +kernel) ⟨Nat.le_of_ble_eq_true rfl, Nat.le_of_ble_eq_true rfl⟩) ⟨fun a U g mk q => ⟨q.1, trivial⟩, fun U hU hW => ⟨rfl, trivial⟩⟩ rfl rfl hl.1 rfl (lv_room (Nat.le_of_ble_eq_true rfl)) dX10_addMachine_36 ⟨Nat.zero_le _, Nat.zero_le _⟩) (fun r16 h17 => ?_)
              rcases g18 : inR x4 1 99 with _ | _
              · skip
                obtain rfl : r16 = 0 := h17.trans (by rw [g18]; rfl)
                refine lv_if_ne (tgt := 52) hx hb dX10_addMachine_39 (by decide) (fun c19 => ?_) (fun c19 => ?_)
                · exact absurd c19 (by decide)
                · skip
                  obtain ⟨sa, hsa⟩ := hG.S (53, "a number of the machine is out of range") (by decide)
                  exact vx_throwS (names := xnms) (mc := 1) (ms := 6) (text := "a number of the machine is out of range") (own := "Foundrymark") hx hb hl0 hown (by decide +kernel) (by decide +kernel) (hta _ mw59) (hta _ mw60) hsa (vx_hat (B := exB) (fun w hw => hta w (wx_55 w hw)) (by decide +kernel) (fun w hw => hG.B w hw)) (by decide +kernel) hG.U hG.N hS (hl.1.trans hml.symm) dX10_addMachine_42 dX10_addMachine_45 dX10_addMachine_46 dX10_addMachine_48 dX10_addMachine_51 (fun x hx9 => (hout x hx9).elim) (Nat.le_of_ble_eq_true rfl) (Nat.le_of_ble_eq_true rfl) (Nat.le_of_ble_eq_true rfl) (Nat.le_of_ble_eq_true rfl) hlocks (fun t hv hz hk => ⟨(), trivial, rfl, gF9 hS hz hk⟩) hS.2.2 (Nat.le_of_ble_eq_true rfl) (Nat.le_of_ble_eq_true rfl)
              · skip
                obtain rfl : r16 = 1 := h17.trans (by rw [g18]; rfl)
                exact absurd hf (by simp [fitM, g3, g8, g13, g18])

set_option maxHeartbeats 4000000 in
set_option maxRecDepth 100000 in
theorem c_X10_addPart_t0 (l : Launch) {D : va_G} {tE sz : Nat} {h0 a1 a2 a3 a4 a5 h6 s0 s1 s2 s3 : Nat} {t1 t2 t3 t4 t5 : ClassId} {f : Int32} (g91 : inR f 0 3 = true) : Met l ⟨"Foundrymark", "addPart", "(ZI)I"⟩ (wsC ⟨"Foundrymark", "addPart", "(ZI)I"⟩ cX10_addPart 3 (some .int)) ({ frames := 3, cells := 4, slots := 20, locals := 63 }) (va_Pc [.ref h0, .int 0, .int f] (gS tE D (wX h0 a1 a2 a3 a4 a5 h6 s0 s1 s2 s3 t1 t2 t3 t4 t5) (tX t1 t2 t3 t4 t5) sz)) (va_Qi (fun (r : Int32) (_ : Unit) => r = 0) (gO D (fun _ => []) (fun _ => []) (va_A (wX h0 a1 a2 a3 a4 a5 h6 s0 s1 s2 s3 t1 t2 t3 t4 t5) sz)) (va_A (wX h0 a1 a2 a3 a4 a5 h6 s0 s1 s2 s3 t1 t2 t3 t4 t5) sz)) 4 20 (va_A (wX h0 a1 a2 a3 a4 a5 h6 s0 s1 s2 s3 t1 t2 t3 t4 t5) sz) := by
  refine Met.ofW (cc := cX10_addPart) (maxL := 3) (ret := (some .int)) (by decide) rfl ?_
  intro p e s m args below meth c s₁ B hml hv
  obtain ⟨rfl, hsz, hP, hK, hD0, hG⟩ := hv
  have hx := B.exec
  have hb := B.bytes
  have hr := B.returns
  have hlocks := B.notSynchronized
  have hts := atoms_spec (ws := wsC ⟨"Foundrymark", "addPart", "(ZI)I"⟩ cX10_addPart 3 (some .int)) B.pre
  have hta : ∀ w ∈ WA, w.before _ s = true := fun w h => hts w (List.mem_cons_of_mem _ h)
  have hown : s.vm.findClass "Foundrymark" = some m.cls := findClass_of_methodNamed B.named
  subst hsz
  have hD : va_D (va_A (wX h0 a1 a2 a3 a4 a5 h6 s0 s1 s2 s3 t1 t2 t3 t4 t5) s.heap.size) (wX h0 a1 a2 a3 a4 a5 h6 s0 s1 s2 s3 t1 t2 t3 t4 t5) := hD0.self (sz := s.heap.size)
  generalize hAe : va_A (wX h0 a1 a2 a3 a4 a5 h6 s0 s1 s2 s3 t1 t2 t3 t4 t5) s.heap.size = A at hD hG ⊢
  have hA : ∀ q : Nat, s.heap.size ≤ q → A q := fun q h => by rw [← hAe]; exact Or.inr h
  have hS : va_S A s.heap s.heap [] := va_S.rf
  have hP : va_P D vwCl (wX h0 a1 a2 a3 a4 a5 h6 s0 s1 s2 s3 t1 t2 t3 t4 t5) s.heap := hP
  have hl := lv_entry ([.ref h0, .int 0, .int f]) (n := 3) (Nat.le_of_ble_eq_true rfl)
  rw [lg_entry_eq]
  generalize (lg_sl ([.ref h0, .int 0, .int f]) ++ List.replicate (3 - (lg_sl ([.ref h0, .int 0, .int f])).length) Slot.unset).toArray = ls at hl ⊢
  have hl : lv_has ls 3 [(0, .ref h0), (1, .int 0), (2, .int f)] := hl
  refine lv_iload_n hx hb dX10_addPart_0 rfl (lv_at hl 2 rfl) ?_
  refine lv_iconst (v := 0) hx hb dX10_addPart_1 (by decide) ?_
  refine lv_iconst (v := 3) hx hb dX10_addPart_2 (by decide) ?_
  refine vp_callSi (W.runS (As := [.int f, .int 0, .int 3]) (rest := []) ⟨hx, hb, hml, hown, hta⟩ (c_X10_isFrom l f 0 3) (va_cwS 3 hta (gWS mw57 mw58 mw10 mw56) rfl rfl rfl (by decide +kernel) ⟨Nat.le_of_ble_eq_true rfl, Nat.le_of_ble_eq_true rfl⟩) ⟨fun a U g mk q => ⟨q.1, trivial⟩, fun U hU hW => ⟨rfl, trivial⟩⟩ rfl rfl hl.1 rfl (lv_room (Nat.le_of_ble_eq_true rfl)) dX10_addPart_3 ⟨Nat.zero_le _, Nat.zero_le _⟩) (fun r1 h2 => ?_)
  obtain rfl : r1 = 1 := h2.trans (by rw [g91]; rfl)
  refine lv_if_ne (tgt := 19) hx hb dX10_addPart_6 (by decide) (fun c3 => ?_) (fun c3 => ?_)
  · skip
    refine lv_aload_n hx hb dX10_addPart_19 rfl (lv_at hl 0 rfl) ?_
    refine va_get (D := D) (ci := 15) (v := .int 0) (C := RX10) (T := TX10) (N := 14) hx hb hta iwX10 hown hK hP 0 rfl rfl 7 (by decide) (hta _ mw101) (fun _ h9 => h9) rfl dX10_addPart_20 ?_
    refine lv_aload_n hx hb dX10_addPart_23 rfl (lv_at hl 0 rfl) ?_
    refine va_get (D := D) (ci := 15) (v := .ref a2) (C := RX10) (T := TX10) (N := 14) hx hb hta iwX10 hown hK hP 0 rfl rfl 1 (by decide) (hta _ mw3) (fun _ h9 => h9) rfl dX10_addPart_24 ?_
    refine va_alen hx hb hK hP 2 1 rfl rfl (v := 12) rfl dX10_addPart_27 ?_
    refine lv_icmp_lt (tgt := 41) hx hb dX10_addPart_28 (by decide) (fun c4 => ?_) (fun c4 => ?_)
    · skip
      refine lv_aload_n hx hb dX10_addPart_41 rfl (lv_at hl 0 rfl) ?_
      refine va_get (D := D) (ci := 15) (v := .ref a2) (C := RX10) (T := TX10) (N := 14) hx hb hta iwX10 hown hK hP 0 rfl rfl 1 (by decide) (hta _ mw3) (fun _ h9 => h9) rfl dX10_addPart_42 ?_
      refine lv_aload_n hx hb dX10_addPart_45 rfl (lv_at hl 0 rfl) ?_
      refine va_get (D := D) (ci := 15) (v := .int 0) (C := RX10) (T := TX10) (N := 14) hx hb hta iwX10 hown hK hP 0 rfl rfl 7 (by decide) (hta _ mw101) (fun _ h9 => h9) rfl dX10_addPart_46 ?_
      refine va_new (ci := 13) (fs := [.int 0, .int 0, .int 0, .null, .null, .null, .int 0, .int 0]) (C := RX8) (T := TX8) (N := 8) hx hb hta iwX8 tyX8 tyX8_ok hown (hta _ mw102) (hta _ mw103) (hta _ mw104) hK hP hD hS hA rfl (fun j hj => by rcases (show j = 0 ∨ j = 1 ∨ j = 2 ∨ j = 3 ∨ j = 4 ∨ j = 5 ∨ j = 6 ∨ j = 7 by omega) with rfl | rfl | rfl | rfl | rfl | rfl | rfl | rfl <;> rfl) (Nat.le_of_ble_eq_true rfl) (Nat.le_of_ble_eq_true rfl) dX10_addPart_49 (fun q5 H hP hD hS => ?_)
      have hP : va_P D vwCl [(h0, .inr (15, [.ref a1, .ref a2, .ref a3, .ref a4, .ref a5, .ref h6, .int 0, .int 0, .int 0, .int 0, .int 0, .int 0, .long 0, .long 0])), (a1, .inl (t1, 5, .inr (.inr (.inr (.inr (fun _ => none)))))), (a2, .inl (t2, 12, .inr (.inr (.inr (.inr (fun _ => none)))))), (a3, .inl (t3, 4, .inr (.inr (.inr (.inr (va_up (va_up (va_up (va_up (fun _ => none) 0 (some s0)) 1 (some s1)) 2 (some s2)) 3 (some s3))))))), (a4, .inl (t4, 90, .inr (.inr (.inr (.inr (fun _ => none)))))), (a5, .inl (t5, 30, .inr (.inr (.inr (.inr (fun _ => none)))))), (h6, .inr (10, [.long 0, .long 0])), (s0, .inr (14, [.int 110, .int 0, .int 0])), (s1, .inr (14, [.int 110, .int 0, .int 0])), (s2, .inr (14, [.int 110, .int 0, .int 0])), (s3, .inr (14, [.int 110, .int 0, .int 0])), (q5, .inr (13, [.int 0, .int 0, .int 0, .null, .null, .null, .int 0, .int 0]))] H := hP
      have hD : va_D A [(h0, .inr (15, [.ref a1, .ref a2, .ref a3, .ref a4, .ref a5, .ref h6, .int 0, .int 0, .int 0, .int 0, .int 0, .int 0, .long 0, .long 0])), (a1, .inl (t1, 5, .inr (.inr (.inr (.inr (fun _ => none)))))), (a2, .inl (t2, 12, .inr (.inr (.inr (.inr (fun _ => none)))))), (a3, .inl (t3, 4, .inr (.inr (.inr (.inr (va_up (va_up (va_up (va_up (fun _ => none) 0 (some s0)) 1 (some s1)) 2 (some s2)) 3 (some s3))))))), (a4, .inl (t4, 90, .inr (.inr (.inr (.inr (fun _ => none)))))), (a5, .inl (t5, 30, .inr (.inr (.inr (.inr (fun _ => none)))))), (h6, .inr (10, [.long 0, .long 0])), (s0, .inr (14, [.int 110, .int 0, .int 0])), (s1, .inr (14, [.int 110, .int 0, .int 0])), (s2, .inr (14, [.int 110, .int 0, .int 0])), (s3, .inr (14, [.int 110, .int 0, .int 0])), (q5, .inr (13, [.int 0, .int 0, .int 0, .null, .null, .null, .int 0, .int 0]))] := hD
      refine lv_dup hx hb dX10_addPart_52 rfl ?_
      refine lv_aload_n hx hb dX10_addPart_53 rfl (lv_at hl 0 rfl) ?_
      refine va_get (D := D) (ci := 15) (v := .int 0) (C := RX10) (T := TX10) (N := 14) hx hb hta iwX10 hown hK hP 0 rfl rfl 7 (by decide) (hta _ mw101) (fun _ h9 => h9) rfl dX10_addPart_54 ?_
      refine lv_iload_n hx hb dX10_addPart_57 rfl (lv_at hl 1 rfl) ?_
      refine lv_iload_n hx hb dX10_addPart_58 rfl (lv_at hl 2 rfl) ?_
      have hPc := hP.sub (ws' := [(q5, .inr (13, [.int 0, .int 0, .int 0, .null, .null, .null, .int 0, .int 0]))]) [11] rfl
      have hKc := hK.sub (tys' := []) [] rfl
      have hDc := hD.sub (ws' := [(q5, .inr (13, [.int 0, .int 0, .int 0, .null, .null, .null, .int 0, .int 0]))]) [11] (by decide) rfl
      have hFc := va_free (wc := [(q5, .inr (13, [.int 0, .int 0, .int 0, .null, .null, .null, .int 0, .int 0]))]) hD hS hA [11] rfl
      refine gJ_v (isC := [11]) (isR := [0, 1, 2, 3, 4, 5, 6, 7, 8, 9, 10]) (wr := (wX h0 a1 a2 a3 a4 a5 h6 s0 s1 s2 s3 t1 t2 t3 t4 t5)) (va_runI (As := [.int 0, .int 0, .int f]) (rest := [.ref q5, .int 0, .ref a2]) ⟨hx, hb, hml, hown, hta⟩ (c_X8_init_0 l ) (cwI 3 hta (gWI mw105) rfl rfl rfl (hta _ mw104) (hta _ mw106) (hta _ mw107) rfl (by decide +kernel) ⟨Nat.le_of_ble_eq_true rfl, Nat.le_of_ble_eq_true rfl⟩) ⟨gS_blind, fun U hU hW => ⟨rfl, by rw [hU], by rw [hU]; exact hPc, va_K.moved hW.alike hKc, hDc.weaken (fun _ _ _ _ => trivial), hG.call hS hU hW hFc⟩⟩ rfl rfl hl.1 rfl (lv_room (Nat.le_of_ble_eq_true rfl)) dX10_addPart_59 ⟨Nat.le_of_ble_eq_true rfl, Nat.le_of_ble_eq_true rfl⟩) hP hD hS hK hFc rfl rfl (by decide) (by decide) (fun u7 H locs h8 hP hD hS hK => ?_)
      have hK : va_K D vwCl (tX t1 t2 t3 t4 t5) s := hK
      have hP : va_P D vwCl [(h0, .inr (15, [.ref a1, .ref a2, .ref a3, .ref a4, .ref a5, .ref h6, .int 0, .int 0, .int 0, .int 0, .int 0, .int 0, .long 0, .long 0])), (a1, .inl (t1, 5, .inr (.inr (.inr (.inr (fun _ => none)))))), (a2, .inl (t2, 12, .inr (.inr (.inr (.inr (fun _ => none)))))), (a3, .inl (t3, 4, .inr (.inr (.inr (.inr (va_up (va_up (va_up (va_up (fun _ => none) 0 (some s0)) 1 (some s1)) 2 (some s2)) 3 (some s3))))))), (a4, .inl (t4, 90, .inr (.inr (.inr (.inr (fun _ => none)))))), (a5, .inl (t5, 30, .inr (.inr (.inr (.inr (fun _ => none)))))), (h6, .inr (10, [.long 0, .long 0])), (s0, .inr (14, [.int 110, .int 0, .int 0])), (s1, .inr (14, [.int 110, .int 0, .int 0])), (s2, .inr (14, [.int 110, .int 0, .int 0])), (s3, .inr (14, [.int 110, .int 0, .int 0])), (q5, .inr (13, u7))] H := hP
      have hD : va_D A [(h0, .inr (15, [.ref a1, .ref a2, .ref a3, .ref a4, .ref a5, .ref h6, .int 0, .int 0, .int 0, .int 0, .int 0, .int 0, .long 0, .long 0])), (a1, .inl (t1, 5, .inr (.inr (.inr (.inr (fun _ => none)))))), (a2, .inl (t2, 12, .inr (.inr (.inr (.inr (fun _ => none)))))), (a3, .inl (t3, 4, .inr (.inr (.inr (.inr (va_up (va_up (va_up (va_up (fun _ => none) 0 (some s0)) 1 (some s1)) 2 (some s2)) 3 (some s3))))))), (a4, .inl (t4, 90, .inr (.inr (.inr (.inr (fun _ => none)))))), (a5, .inl (t5, 30, .inr (.inr (.inr (.inr (fun _ => none)))))), (h6, .inr (10, [.long 0, .long 0])), (s0, .inr (14, [.int 110, .int 0, .int 0])), (s1, .inr (14, [.int 110, .int 0, .int 0])), (s2, .inr (14, [.int 110, .int 0, .int 0])), (s3, .inr (14, [.int 110, .int 0, .int 0])), (q5, .inr (13, u7))] := hD
      refine va_astq (r := (RX8, TX8, 8)) hx hb hK hP hD hS 2 1 11 13 rfl rfl rfl rfl (i := 0) (by unfold vp_in; decide) dX10_addPart_62 (fun H locs hP hD hS => ?_)
      have hP : va_P D vwCl [(h0, .inr (15, [.ref a1, .ref a2, .ref a3, .ref a4, .ref a5, .ref h6, .int 0, .int 0, .int 0, .int 0, .int 0, .int 0, .long 0, .long 0])), (a1, .inl (t1, 5, .inr (.inr (.inr (.inr (fun _ => none)))))), (a2, .inl (t2, 12, .inr (.inr (.inr (.inr (va_up (fun _ => none) 0 (some q5))))))), (a3, .inl (t3, 4, .inr (.inr (.inr (.inr (va_up (va_up (va_up (va_up (fun _ => none) 0 (some s0)) 1 (some s1)) 2 (some s2)) 3 (some s3))))))), (a4, .inl (t4, 90, .inr (.inr (.inr (.inr (fun _ => none)))))), (a5, .inl (t5, 30, .inr (.inr (.inr (.inr (fun _ => none)))))), (h6, .inr (10, [.long 0, .long 0])), (s0, .inr (14, [.int 110, .int 0, .int 0])), (s1, .inr (14, [.int 110, .int 0, .int 0])), (s2, .inr (14, [.int 110, .int 0, .int 0])), (s3, .inr (14, [.int 110, .int 0, .int 0])), (q5, .inr (13, u7))] H := hP
      have hD : va_D A [(h0, .inr (15, [.ref a1, .ref a2, .ref a3, .ref a4, .ref a5, .ref h6, .int 0, .int 0, .int 0, .int 0, .int 0, .int 0, .long 0, .long 0])), (a1, .inl (t1, 5, .inr (.inr (.inr (.inr (fun _ => none)))))), (a2, .inl (t2, 12, .inr (.inr (.inr (.inr (va_up (fun _ => none) 0 (some q5))))))), (a3, .inl (t3, 4, .inr (.inr (.inr (.inr (va_up (va_up (va_up (va_up (fun _ => none) 0 (some s0)) 1 (some s1)) 2 (some s2)) 3 (some s3))))))), (a4, .inl (t4, 90, .inr (.inr (.inr (.inr (fun _ => none)))))), (a5, .inl (t5, 30, .inr (.inr (.inr (.inr (fun _ => none)))))), (h6, .inr (10, [.long 0, .long 0])), (s0, .inr (14, [.int 110, .int 0, .int 0])), (s1, .inr (14, [.int 110, .int 0, .int 0])), (s2, .inr (14, [.int 110, .int 0, .int 0])), (s3, .inr (14, [.int 110, .int 0, .int 0])), (q5, .inr (13, u7))] := hD
      refine lv_aload_n hx hb dX10_addPart_63 rfl (lv_at hl 0 rfl) ?_
      refine lv_dup hx hb dX10_addPart_64 rfl ?_
      refine va_get (D := D) (ci := 15) (v := .int 0) (C := RX10) (T := TX10) (N := 14) hx hb hta iwX10 hown hK hP 0 rfl rfl 7 (by decide) (hta _ mw101) (fun _ h9 => h9) rfl dX10_addPart_65 ?_
      refine lv_iconst (v := 1) hx hb dX10_addPart_68 (by decide) ?_
      refine lv_iadd hx hb dX10_addPart_69 ?_
      refine lv_topi (fun x9 ex9 => ?_)
      obtain rfl : x9 = 1 := ex9.trans (by decide)
      refine va_put (D := D) (ci := 15) (v := .int 1) (ty := .int) (C := RX10) (T := TX10) (N := 14) hx hb hta iwX10 tyX10 tyX10_ok nmX10 hown hK hP hD hS 0 rfl rfl 7 (by decide) (hta _ mw101) (fun _ h9 => h9) rfl (by decide +kernel) rfl rfl (Nat.le_of_ble_eq_true rfl) dX10_addPart_70 (fun H locs hP hD hS => ?_)
      have hP : va_P D vwCl [(h0, .inr (15, [.ref a1, .ref a2, .ref a3, .ref a4, .ref a5, .ref h6, .int 0, .int 1, .int 0, .int 0, .int 0, .int 0, .long 0, .long 0])), (a1, .inl (t1, 5, .inr (.inr (.inr (.inr (fun _ => none)))))), (a2, .inl (t2, 12, .inr (.inr (.inr (.inr (va_up (fun _ => none) 0 (some q5))))))), (a3, .inl (t3, 4, .inr (.inr (.inr (.inr (va_up (va_up (va_up (va_up (fun _ => none) 0 (some s0)) 1 (some s1)) 2 (some s2)) 3 (some s3))))))), (a4, .inl (t4, 90, .inr (.inr (.inr (.inr (fun _ => none)))))), (a5, .inl (t5, 30, .inr (.inr (.inr (.inr (fun _ => none)))))), (h6, .inr (10, [.long 0, .long 0])), (s0, .inr (14, [.int 110, .int 0, .int 0])), (s1, .inr (14, [.int 110, .int 0, .int 0])), (s2, .inr (14, [.int 110, .int 0, .int 0])), (s3, .inr (14, [.int 110, .int 0, .int 0])), (q5, .inr (13, u7))] H := hP
      have hD : va_D A [(h0, .inr (15, [.ref a1, .ref a2, .ref a3, .ref a4, .ref a5, .ref h6, .int 0, .int 1, .int 0, .int 0, .int 0, .int 0, .long 0, .long 0])), (a1, .inl (t1, 5, .inr (.inr (.inr (.inr (fun _ => none)))))), (a2, .inl (t2, 12, .inr (.inr (.inr (.inr (va_up (fun _ => none) 0 (some q5))))))), (a3, .inl (t3, 4, .inr (.inr (.inr (.inr (va_up (va_up (va_up (va_up (fun _ => none) 0 (some s0)) 1 (some s1)) 2 (some s2)) 3 (some s3))))))), (a4, .inl (t4, 90, .inr (.inr (.inr (.inr (fun _ => none)))))), (a5, .inl (t5, 30, .inr (.inr (.inr (.inr (fun _ => none)))))), (h6, .inr (10, [.long 0, .long 0])), (s0, .inr (14, [.int 110, .int 0, .int 0])), (s1, .inr (14, [.int 110, .int 0, .int 0])), (s2, .inr (14, [.int 110, .int 0, .int 0])), (s3, .inr (14, [.int 110, .int 0, .int 0])), (q5, .inr (13, u7))] := hD
      refine lv_aload_n hx hb dX10_addPart_73 rfl (lv_at hl 0 rfl) ?_
      refine va_get (D := D) (ci := 15) (v := .int 1) (C := RX10) (T := TX10) (N := 14) hx hb hta iwX10 hown hK hP 0 rfl rfl 7 (by decide) (hta _ mw101) (fun _ h9 => h9) rfl dX10_addPart_74 ?_
      refine lv_iconst (v := 1) hx hb dX10_addPart_77 (by decide) ?_
      refine lv_isub hx hb dX10_addPart_78 ?_
      refine lv_topi (fun x10 ex10 => ?_)
      obtain rfl : x10 = 0 := ex10.trans (by decide)
      have hP9 := hP.sub (ws' := []) [] rfl
      have hD9 := hD.sub (ws' := []) [] (by decide) rfl
      have hK9 := hK.sub (tys' := []) [] rfl
      refine W.widen (k := 4) (n := 20) (Nat.le_of_ble_eq_true rfl) (Nat.le_of_ble_eq_true rfl) ?_
      exact W.iret (v := 0) hx hb hr (fun t ht hWm => ⟨⟨_, (), rfl, rfl, ⟨by rw [ht]; exact hP9, va_K.moved hWm.alike hK9, hD9⟩⟩, hS.F ht⟩) hS.2.2 dX10_addPart_79
    · exact absurd (by decide) c4
  · exact absurd c3 (by decide)

set_option maxHeartbeats 4000000 in
set_option maxRecDepth 100000 in
theorem c_X10_addPart_t1 (l : Launch) {D : va_G} {tE sz : Nat} {h0 a1 a2 a3 a4 a5 h6 s0 s1 s2 s3 : Nat} {t1 t2 t3 t4 t5 : ClassId} {f : Int32} (g91 : inR f 0 3 = true) : Met l ⟨"Foundrymark", "addPart", "(ZI)I"⟩ (wsC ⟨"Foundrymark", "addPart", "(ZI)I"⟩ cX10_addPart 3 (some .int)) ({ frames := 3, cells := 4, slots := 20, locals := 63 }) (va_Pc [.ref h0, .int 1, .int f] (gS tE D (wX h0 a1 a2 a3 a4 a5 h6 s0 s1 s2 s3 t1 t2 t3 t4 t5) (tX t1 t2 t3 t4 t5) sz)) (va_Qi (fun (r : Int32) (_ : Unit) => r = 0) (gO D (fun _ => []) (fun _ => []) (va_A (wX h0 a1 a2 a3 a4 a5 h6 s0 s1 s2 s3 t1 t2 t3 t4 t5) sz)) (va_A (wX h0 a1 a2 a3 a4 a5 h6 s0 s1 s2 s3 t1 t2 t3 t4 t5) sz)) 4 20 (va_A (wX h0 a1 a2 a3 a4 a5 h6 s0 s1 s2 s3 t1 t2 t3 t4 t5) sz) := by
  refine Met.ofW (cc := cX10_addPart) (maxL := 3) (ret := (some .int)) (by decide) rfl ?_
  intro p e s m args below meth c s₁ B hml hv
  obtain ⟨rfl, hsz, hP, hK, hD0, hG⟩ := hv
  have hx := B.exec
  have hb := B.bytes
  have hr := B.returns
  have hlocks := B.notSynchronized
  have hts := atoms_spec (ws := wsC ⟨"Foundrymark", "addPart", "(ZI)I"⟩ cX10_addPart 3 (some .int)) B.pre
  have hta : ∀ w ∈ WA, w.before _ s = true := fun w h => hts w (List.mem_cons_of_mem _ h)
  have hown : s.vm.findClass "Foundrymark" = some m.cls := findClass_of_methodNamed B.named
  subst hsz
  have hD : va_D (va_A (wX h0 a1 a2 a3 a4 a5 h6 s0 s1 s2 s3 t1 t2 t3 t4 t5) s.heap.size) (wX h0 a1 a2 a3 a4 a5 h6 s0 s1 s2 s3 t1 t2 t3 t4 t5) := hD0.self (sz := s.heap.size)
  generalize hAe : va_A (wX h0 a1 a2 a3 a4 a5 h6 s0 s1 s2 s3 t1 t2 t3 t4 t5) s.heap.size = A at hD hG ⊢
  have hA : ∀ q : Nat, s.heap.size ≤ q → A q := fun q h => by rw [← hAe]; exact Or.inr h
  have hS : va_S A s.heap s.heap [] := va_S.rf
  have hP : va_P D vwCl (wX h0 a1 a2 a3 a4 a5 h6 s0 s1 s2 s3 t1 t2 t3 t4 t5) s.heap := hP
  have hl := lv_entry ([.ref h0, .int 1, .int f]) (n := 3) (Nat.le_of_ble_eq_true rfl)
  rw [lg_entry_eq]
  generalize (lg_sl ([.ref h0, .int 1, .int f]) ++ List.replicate (3 - (lg_sl ([.ref h0, .int 1, .int f])).length) Slot.unset).toArray = ls at hl ⊢
  have hl : lv_has ls 3 [(0, .ref h0), (1, .int 1), (2, .int f)] := hl
  refine lv_iload_n hx hb dX10_addPart_0 rfl (lv_at hl 2 rfl) ?_
  refine lv_iconst (v := 0) hx hb dX10_addPart_1 (by decide) ?_
  refine lv_iconst (v := 3) hx hb dX10_addPart_2 (by decide) ?_
  refine vp_callSi (W.runS (As := [.int f, .int 0, .int 3]) (rest := []) ⟨hx, hb, hml, hown, hta⟩ (c_X10_isFrom l f 0 3) (va_cwS 3 hta (gWS mw57 mw58 mw10 mw56) rfl rfl rfl (by decide +kernel) ⟨Nat.le_of_ble_eq_true rfl, Nat.le_of_ble_eq_true rfl⟩) ⟨fun a U g mk q => ⟨q.1, trivial⟩, fun U hU hW => ⟨rfl, trivial⟩⟩ rfl rfl hl.1 rfl (lv_room (Nat.le_of_ble_eq_true rfl)) dX10_addPart_3 ⟨Nat.zero_le _, Nat.zero_le _⟩) (fun r1 h2 => ?_)
  obtain rfl : r1 = 1 := h2.trans (by rw [g91]; rfl)
  refine lv_if_ne (tgt := 19) hx hb dX10_addPart_6 (by decide) (fun c3 => ?_) (fun c3 => ?_)
  · skip
    refine lv_aload_n hx hb dX10_addPart_19 rfl (lv_at hl 0 rfl) ?_
    refine va_get (D := D) (ci := 15) (v := .int 0) (C := RX10) (T := TX10) (N := 14) hx hb hta iwX10 hown hK hP 0 rfl rfl 7 (by decide) (hta _ mw101) (fun _ h9 => h9) rfl dX10_addPart_20 ?_
    refine lv_aload_n hx hb dX10_addPart_23 rfl (lv_at hl 0 rfl) ?_
    refine va_get (D := D) (ci := 15) (v := .ref a2) (C := RX10) (T := TX10) (N := 14) hx hb hta iwX10 hown hK hP 0 rfl rfl 1 (by decide) (hta _ mw3) (fun _ h9 => h9) rfl dX10_addPart_24 ?_
    refine va_alen hx hb hK hP 2 1 rfl rfl (v := 12) rfl dX10_addPart_27 ?_
    refine lv_icmp_lt (tgt := 41) hx hb dX10_addPart_28 (by decide) (fun c4 => ?_) (fun c4 => ?_)
    · skip
      refine lv_aload_n hx hb dX10_addPart_41 rfl (lv_at hl 0 rfl) ?_
      refine va_get (D := D) (ci := 15) (v := .ref a2) (C := RX10) (T := TX10) (N := 14) hx hb hta iwX10 hown hK hP 0 rfl rfl 1 (by decide) (hta _ mw3) (fun _ h9 => h9) rfl dX10_addPart_42 ?_
      refine lv_aload_n hx hb dX10_addPart_45 rfl (lv_at hl 0 rfl) ?_
      refine va_get (D := D) (ci := 15) (v := .int 0) (C := RX10) (T := TX10) (N := 14) hx hb hta iwX10 hown hK hP 0 rfl rfl 7 (by decide) (hta _ mw101) (fun _ h9 => h9) rfl dX10_addPart_46 ?_
      refine va_new (ci := 13) (fs := [.int 0, .int 0, .int 0, .null, .null, .null, .int 0, .int 0]) (C := RX8) (T := TX8) (N := 8) hx hb hta iwX8 tyX8 tyX8_ok hown (hta _ mw102) (hta _ mw103) (hta _ mw104) hK hP hD hS hA rfl (fun j hj => by rcases (show j = 0 ∨ j = 1 ∨ j = 2 ∨ j = 3 ∨ j = 4 ∨ j = 5 ∨ j = 6 ∨ j = 7 by omega) with rfl | rfl | rfl | rfl | rfl | rfl | rfl | rfl <;> rfl) (Nat.le_of_ble_eq_true rfl) (Nat.le_of_ble_eq_true rfl) dX10_addPart_49 (fun q5 H hP hD hS => ?_)
      have hP : va_P D vwCl [(h0, .inr (15, [.ref a1, .ref a2, .ref a3, .ref a4, .ref a5, .ref h6, .int 0, .int 0, .int 0, .int 0, .int 0, .int 0, .long 0, .long 0])), (a1, .inl (t1, 5, .inr (.inr (.inr (.inr (fun _ => none)))))), (a2, .inl (t2, 12, .inr (.inr (.inr (.inr (fun _ => none)))))), (a3, .inl (t3, 4, .inr (.inr (.inr (.inr (va_up (va_up (va_up (va_up (fun _ => none) 0 (some s0)) 1 (some s1)) 2 (some s2)) 3 (some s3))))))), (a4, .inl (t4, 90, .inr (.inr (.inr (.inr (fun _ => none)))))), (a5, .inl (t5, 30, .inr (.inr (.inr (.inr (fun _ => none)))))), (h6, .inr (10, [.long 0, .long 0])), (s0, .inr (14, [.int 110, .int 0, .int 0])), (s1, .inr (14, [.int 110, .int 0, .int 0])), (s2, .inr (14, [.int 110, .int 0, .int 0])), (s3, .inr (14, [.int 110, .int 0, .int 0])), (q5, .inr (13, [.int 0, .int 0, .int 0, .null, .null, .null, .int 0, .int 0]))] H := hP
      have hD : va_D A [(h0, .inr (15, [.ref a1, .ref a2, .ref a3, .ref a4, .ref a5, .ref h6, .int 0, .int 0, .int 0, .int 0, .int 0, .int 0, .long 0, .long 0])), (a1, .inl (t1, 5, .inr (.inr (.inr (.inr (fun _ => none)))))), (a2, .inl (t2, 12, .inr (.inr (.inr (.inr (fun _ => none)))))), (a3, .inl (t3, 4, .inr (.inr (.inr (.inr (va_up (va_up (va_up (va_up (fun _ => none) 0 (some s0)) 1 (some s1)) 2 (some s2)) 3 (some s3))))))), (a4, .inl (t4, 90, .inr (.inr (.inr (.inr (fun _ => none)))))), (a5, .inl (t5, 30, .inr (.inr (.inr (.inr (fun _ => none)))))), (h6, .inr (10, [.long 0, .long 0])), (s0, .inr (14, [.int 110, .int 0, .int 0])), (s1, .inr (14, [.int 110, .int 0, .int 0])), (s2, .inr (14, [.int 110, .int 0, .int 0])), (s3, .inr (14, [.int 110, .int 0, .int 0])), (q5, .inr (13, [.int 0, .int 0, .int 0, .null, .null, .null, .int 0, .int 0]))] := hD
      refine lv_dup hx hb dX10_addPart_52 rfl ?_
      refine lv_aload_n hx hb dX10_addPart_53 rfl (lv_at hl 0 rfl) ?_
      refine va_get (D := D) (ci := 15) (v := .int 0) (C := RX10) (T := TX10) (N := 14) hx hb hta iwX10 hown hK hP 0 rfl rfl 7 (by decide) (hta _ mw101) (fun _ h9 => h9) rfl dX10_addPart_54 ?_
      refine lv_iload_n hx hb dX10_addPart_57 rfl (lv_at hl 1 rfl) ?_
      refine lv_iload_n hx hb dX10_addPart_58 rfl (lv_at hl 2 rfl) ?_
      have hPc := hP.sub (ws' := [(q5, .inr (13, [.int 0, .int 0, .int 0, .null, .null, .null, .int 0, .int 0]))]) [11] rfl
      have hKc := hK.sub (tys' := []) [] rfl
      have hDc := hD.sub (ws' := [(q5, .inr (13, [.int 0, .int 0, .int 0, .null, .null, .null, .int 0, .int 0]))]) [11] (by decide) rfl
      have hFc := va_free (wc := [(q5, .inr (13, [.int 0, .int 0, .int 0, .null, .null, .null, .int 0, .int 0]))]) hD hS hA [11] rfl
      refine gJ_v (isC := [11]) (isR := [0, 1, 2, 3, 4, 5, 6, 7, 8, 9, 10]) (wr := (wX h0 a1 a2 a3 a4 a5 h6 s0 s1 s2 s3 t1 t2 t3 t4 t5)) (va_runI (As := [.int 0, .int 1, .int f]) (rest := [.ref q5, .int 0, .ref a2]) ⟨hx, hb, hml, hown, hta⟩ (c_X8_init_1 l ) (cwI 3 hta (gWI mw105) rfl rfl rfl (hta _ mw104) (hta _ mw106) (hta _ mw107) rfl (by decide +kernel) ⟨Nat.le_of_ble_eq_true rfl, Nat.le_of_ble_eq_true rfl⟩) ⟨gS_blind, fun U hU hW => ⟨rfl, by rw [hU], by rw [hU]; exact hPc, va_K.moved hW.alike hKc, hDc.weaken (fun _ _ _ _ => trivial), hG.call hS hU hW hFc⟩⟩ rfl rfl hl.1 rfl (lv_room (Nat.le_of_ble_eq_true rfl)) dX10_addPart_59 ⟨Nat.le_of_ble_eq_true rfl, Nat.le_of_ble_eq_true rfl⟩) hP hD hS hK hFc rfl rfl (by decide) (by decide) (fun u7 H locs h8 hP hD hS hK => ?_)
      have hK : va_K D vwCl (tX t1 t2 t3 t4 t5) s := hK
      have hP : va_P D vwCl [(h0, .inr (15, [.ref a1, .ref a2, .ref a3, .ref a4, .ref a5, .ref h6, .int 0, .int 0, .int 0, .int 0, .int 0, .int 0, .long 0, .long 0])), (a1, .inl (t1, 5, .inr (.inr (.inr (.inr (fun _ => none)))))), (a2, .inl (t2, 12, .inr (.inr (.inr (.inr (fun _ => none)))))), (a3, .inl (t3, 4, .inr (.inr (.inr (.inr (va_up (va_up (va_up (va_up (fun _ => none) 0 (some s0)) 1 (some s1)) 2 (some s2)) 3 (some s3))))))), (a4, .inl (t4, 90, .inr (.inr (.inr (.inr (fun _ => none)))))), (a5, .inl (t5, 30, .inr (.inr (.inr (.inr (fun _ => none)))))), (h6, .inr (10, [.long 0, .long 0])), (s0, .inr (14, [.int 110, .int 0, .int 0])), (s1, .inr (14, [.int 110, .int 0, .int 0])), (s2, .inr (14, [.int 110, .int 0, .int 0])), (s3, .inr (14, [.int 110, .int 0, .int 0])), (q5, .inr (13, u7))] H := hP
      have hD : va_D A [(h0, .inr (15, [.ref a1, .ref a2, .ref a3, .ref a4, .ref a5, .ref h6, .int 0, .int 0, .int 0, .int 0, .int 0, .int 0, .long 0, .long 0])), (a1, .inl (t1, 5, .inr (.inr (.inr (.inr (fun _ => none)))))), (a2, .inl (t2, 12, .inr (.inr (.inr (.inr (fun _ => none)))))), (a3, .inl (t3, 4, .inr (.inr (.inr (.inr (va_up (va_up (va_up (va_up (fun _ => none) 0 (some s0)) 1 (some s1)) 2 (some s2)) 3 (some s3))))))), (a4, .inl (t4, 90, .inr (.inr (.inr (.inr (fun _ => none)))))), (a5, .inl (t5, 30, .inr (.inr (.inr (.inr (fun _ => none)))))), (h6, .inr (10, [.long 0, .long 0])), (s0, .inr (14, [.int 110, .int 0, .int 0])), (s1, .inr (14, [.int 110, .int 0, .int 0])), (s2, .inr (14, [.int 110, .int 0, .int 0])), (s3, .inr (14, [.int 110, .int 0, .int 0])), (q5, .inr (13, u7))] := hD
      refine va_astq (r := (RX8, TX8, 8)) hx hb hK hP hD hS 2 1 11 13 rfl rfl rfl rfl (i := 0) (by unfold vp_in; decide) dX10_addPart_62 (fun H locs hP hD hS => ?_)
      have hP : va_P D vwCl [(h0, .inr (15, [.ref a1, .ref a2, .ref a3, .ref a4, .ref a5, .ref h6, .int 0, .int 0, .int 0, .int 0, .int 0, .int 0, .long 0, .long 0])), (a1, .inl (t1, 5, .inr (.inr (.inr (.inr (fun _ => none)))))), (a2, .inl (t2, 12, .inr (.inr (.inr (.inr (va_up (fun _ => none) 0 (some q5))))))), (a3, .inl (t3, 4, .inr (.inr (.inr (.inr (va_up (va_up (va_up (va_up (fun _ => none) 0 (some s0)) 1 (some s1)) 2 (some s2)) 3 (some s3))))))), (a4, .inl (t4, 90, .inr (.inr (.inr (.inr (fun _ => none)))))), (a5, .inl (t5, 30, .inr (.inr (.inr (.inr (fun _ => none)))))), (h6, .inr (10, [.long 0, .long 0])), (s0, .inr (14, [.int 110, .int 0, .int 0])), (s1, .inr (14, [.int 110, .int 0, .int 0])), (s2, .inr (14, [.int 110, .int 0, .int 0])), (s3, .inr (14, [.int 110, .int 0, .int 0])), (q5, .inr (13, u7))] H := hP
      have hD : va_D A [(h0, .inr (15, [.ref a1, .ref a2, .ref a3, .ref a4, .ref a5, .ref h6, .int 0, .int 0, .int 0, .int 0, .int 0, .int 0, .long 0, .long 0])), (a1, .inl (t1, 5, .inr (.inr (.inr (.inr (fun _ => none)))))), (a2, .inl (t2, 12, .inr (.inr (.inr (.inr (va_up (fun _ => none) 0 (some q5))))))), (a3, .inl (t3, 4, .inr (.inr (.inr (.inr (va_up (va_up (va_up (va_up (fun _ => none) 0 (some s0)) 1 (some s1)) 2 (some s2)) 3 (some s3))))))), (a4, .inl (t4, 90, .inr (.inr (.inr (.inr (fun _ => none)))))), (a5, .inl (t5, 30, .inr (.inr (.inr (.inr (fun _ => none)))))), (h6, .inr (10, [.long 0, .long 0])), (s0, .inr (14, [.int 110, .int 0, .int 0])), (s1, .inr (14, [.int 110, .int 0, .int 0])), (s2, .inr (14, [.int 110, .int 0, .int 0])), (s3, .inr (14, [.int 110, .int 0, .int 0])), (q5, .inr (13, u7))] := hD
      refine lv_aload_n hx hb dX10_addPart_63 rfl (lv_at hl 0 rfl) ?_
      refine lv_dup hx hb dX10_addPart_64 rfl ?_
      refine va_get (D := D) (ci := 15) (v := .int 0) (C := RX10) (T := TX10) (N := 14) hx hb hta iwX10 hown hK hP 0 rfl rfl 7 (by decide) (hta _ mw101) (fun _ h9 => h9) rfl dX10_addPart_65 ?_
      refine lv_iconst (v := 1) hx hb dX10_addPart_68 (by decide) ?_
      refine lv_iadd hx hb dX10_addPart_69 ?_
      refine lv_topi (fun x9 ex9 => ?_)
      obtain rfl : x9 = 1 := ex9.trans (by decide)
      refine va_put (D := D) (ci := 15) (v := .int 1) (ty := .int) (C := RX10) (T := TX10) (N := 14) hx hb hta iwX10 tyX10 tyX10_ok nmX10 hown hK hP hD hS 0 rfl rfl 7 (by decide) (hta _ mw101) (fun _ h9 => h9) rfl (by decide +kernel) rfl rfl (Nat.le_of_ble_eq_true rfl) dX10_addPart_70 (fun H locs hP hD hS => ?_)
      have hP : va_P D vwCl [(h0, .inr (15, [.ref a1, .ref a2, .ref a3, .ref a4, .ref a5, .ref h6, .int 0, .int 1, .int 0, .int 0, .int 0, .int 0, .long 0, .long 0])), (a1, .inl (t1, 5, .inr (.inr (.inr (.inr (fun _ => none)))))), (a2, .inl (t2, 12, .inr (.inr (.inr (.inr (va_up (fun _ => none) 0 (some q5))))))), (a3, .inl (t3, 4, .inr (.inr (.inr (.inr (va_up (va_up (va_up (va_up (fun _ => none) 0 (some s0)) 1 (some s1)) 2 (some s2)) 3 (some s3))))))), (a4, .inl (t4, 90, .inr (.inr (.inr (.inr (fun _ => none)))))), (a5, .inl (t5, 30, .inr (.inr (.inr (.inr (fun _ => none)))))), (h6, .inr (10, [.long 0, .long 0])), (s0, .inr (14, [.int 110, .int 0, .int 0])), (s1, .inr (14, [.int 110, .int 0, .int 0])), (s2, .inr (14, [.int 110, .int 0, .int 0])), (s3, .inr (14, [.int 110, .int 0, .int 0])), (q5, .inr (13, u7))] H := hP
      have hD : va_D A [(h0, .inr (15, [.ref a1, .ref a2, .ref a3, .ref a4, .ref a5, .ref h6, .int 0, .int 1, .int 0, .int 0, .int 0, .int 0, .long 0, .long 0])), (a1, .inl (t1, 5, .inr (.inr (.inr (.inr (fun _ => none)))))), (a2, .inl (t2, 12, .inr (.inr (.inr (.inr (va_up (fun _ => none) 0 (some q5))))))), (a3, .inl (t3, 4, .inr (.inr (.inr (.inr (va_up (va_up (va_up (va_up (fun _ => none) 0 (some s0)) 1 (some s1)) 2 (some s2)) 3 (some s3))))))), (a4, .inl (t4, 90, .inr (.inr (.inr (.inr (fun _ => none)))))), (a5, .inl (t5, 30, .inr (.inr (.inr (.inr (fun _ => none)))))), (h6, .inr (10, [.long 0, .long 0])), (s0, .inr (14, [.int 110, .int 0, .int 0])), (s1, .inr (14, [.int 110, .int 0, .int 0])), (s2, .inr (14, [.int 110, .int 0, .int 0])), (s3, .inr (14, [.int 110, .int 0, .int 0])), (q5, .inr (13, u7))] := hD
      refine lv_aload_n hx hb dX10_addPart_73 rfl (lv_at hl 0 rfl) ?_
      refine va_get (D := D) (ci := 15) (v := .int 1) (C := RX10) (T := TX10) (N := 14) hx hb hta iwX10 hown hK hP 0 rfl rfl 7 (by decide) (hta _ mw101) (fun _ h9 => h9) rfl dX10_addPart_74 ?_
      refine lv_iconst (v := 1) hx hb dX10_addPart_77 (by decide) ?_
      refine lv_isub hx hb dX10_addPart_78 ?_
      refine lv_topi (fun x10 ex10 => ?_)
      obtain rfl : x10 = 0 := ex10.trans (by decide)
      have hP9 := hP.sub (ws' := []) [] rfl
      have hD9 := hD.sub (ws' := []) [] (by decide) rfl
      have hK9 := hK.sub (tys' := []) [] rfl
      refine W.widen (k := 4) (n := 20) (Nat.le_of_ble_eq_true rfl) (Nat.le_of_ble_eq_true rfl) ?_
      exact W.iret (v := 0) hx hb hr (fun t ht hWm => ⟨⟨_, (), rfl, rfl, ⟨by rw [ht]; exact hP9, va_K.moved hWm.alike hK9, hD9⟩⟩, hS.F ht⟩) hS.2.2 dX10_addPart_79
    · exact absurd (by decide) c4
  · exact absurd c3 (by decide)

set_option maxHeartbeats 4000000 in
set_option maxRecDepth 100000 in
theorem c_X10_addPart_f (l : Launch) (hl0 : l.stackTraces = false) {D : va_G} {tE sz : Nat} {h0 a1 a2 a3 a4 a5 h6 s0 s1 s2 s3 : Nat} {t1 t2 t3 t4 t5 : ClassId} {z f : Int32} (hf : inR f 0 3 = false) : vx_Met l ⟨"Foundrymark", "addPart", "(ZI)I"⟩ (wsC ⟨"Foundrymark", "addPart", "(ZI)I"⟩ cX10_addPart 3 (some .int)) ({ frames := 6, cells := 1, slots := 6, locals := 98 }) (va_Pc [.ref h0, .int z, .int f] (gS tE D (wX h0 a1 a2 a3 a4 a5 h6 s0 s1 s2 s3 t1 t2 t3 t4 t5) (tX t1 t2 t3 t4 t5) sz)) (fun _ _ _ _ => False) (vx_X (fun _ : Unit => True) (fun E9 _ _ => E9 = "java/lang/IllegalArgumentException") (va_A (wX h0 a1 a2 a3 a4 a5 h6 s0 s1 s2 s3 t1 t2 t3 t4 t5) sz)) 1 6 (va_A (wX h0 a1 a2 a3 a4 a5 h6 s0 s1 s2 s3 t1 t2 t3 t4 t5) sz) := by
  refine vx_ofW (cc := cX10_addPart) (maxL := 3) (ret := (some .int)) (by decide) rfl ?_
  intro p e s m args below meth c s₁ B hml hout hv
  obtain ⟨rfl, hsz, hP, hK, hD0, hG⟩ := hv
  have hx := B.exec
  have hb := B.bytes
  have hr := B.returns
  have hlocks := B.notSynchronized
  have hts := atoms_spec (ws := wsC ⟨"Foundrymark", "addPart", "(ZI)I"⟩ cX10_addPart 3 (some .int)) B.pre
  have hta : ∀ w ∈ WA, w.before _ s = true := fun w h => hts w (List.mem_cons_of_mem _ h)
  have hown : s.vm.findClass "Foundrymark" = some m.cls := findClass_of_methodNamed B.named
  subst hsz
  have hD : va_D (va_A (wX h0 a1 a2 a3 a4 a5 h6 s0 s1 s2 s3 t1 t2 t3 t4 t5) s.heap.size) (wX h0 a1 a2 a3 a4 a5 h6 s0 s1 s2 s3 t1 t2 t3 t4 t5) := hD0.self (sz := s.heap.size)
  generalize hAe : va_A (wX h0 a1 a2 a3 a4 a5 h6 s0 s1 s2 s3 t1 t2 t3 t4 t5) s.heap.size = A at hD hG ⊢
  have hA : ∀ q : Nat, s.heap.size ≤ q → A q := fun q h => by rw [← hAe]; exact Or.inr h
  have hS : va_S A s.heap s.heap [] := va_S.rf
  have hP : va_P D vwCl (wX h0 a1 a2 a3 a4 a5 h6 s0 s1 s2 s3 t1 t2 t3 t4 t5) s.heap := hP
  have hl := lv_entry ([.ref h0, .int z, .int f]) (n := 3) (Nat.le_of_ble_eq_true rfl)
  rw [lg_entry_eq]
  generalize (lg_sl ([.ref h0, .int z, .int f]) ++ List.replicate (3 - (lg_sl ([.ref h0, .int z, .int f])).length) Slot.unset).toArray = ls at hl ⊢
  have hl : lv_has ls 3 [(0, .ref h0), (1, .int z), (2, .int f)] := hl
  refine lv_iload_n hx hb dX10_addPart_0 rfl (lv_at hl 2 rfl) ?_
  refine lv_iconst (v := 0) hx hb dX10_addPart_1 (by decide) ?_
  refine lv_iconst (v := 3) hx hb dX10_addPart_2 (by decide) ?_
  refine vp_callSi (W.runS (As := [.int f, .int 0, .int 3]) (rest := []) ⟨hx, hb, hml, hown, hta⟩ (c_X10_isFrom l f 0 3) (va_cwS 3 hta (gWS mw57 mw58 mw10 mw56) rfl rfl rfl (by decide +kernel) ⟨Nat.le_of_ble_eq_true rfl, Nat.le_of_ble_eq_true rfl⟩) ⟨fun a U g mk q => ⟨q.1, trivial⟩, fun U hU hW => ⟨rfl, trivial⟩⟩ rfl rfl hl.1 rfl (lv_room (Nat.le_of_ble_eq_true rfl)) dX10_addPart_3 ⟨Nat.zero_le _, Nat.zero_le _⟩) (fun r1 h2 => ?_)
  obtain rfl : r1 = 0 := h2.trans (by rw [hf]; rfl)
  refine lv_if_ne (tgt := 19) hx hb dX10_addPart_6 (by decide) (fun c3 => ?_) (fun c3 => ?_)
  · exact absurd c3 (by decide)
  · skip
    obtain ⟨sa, hsa⟩ := hG.S (70, "there is no such family") (by decide)
    exact vx_throwS (names := xnms) (mc := 1) (ms := 6) (text := "there is no such family") (own := "Foundrymark") hx hb hl0 hown (by decide +kernel) (by decide +kernel) (hta _ mw59) (hta _ mw60) hsa (vx_hat (B := exB) (fun w hw => hta w (wx_55 w hw)) (by decide +kernel) (fun w hw => hG.B w hw)) (by decide +kernel) hG.U hG.N hS (hl.1.trans hml.symm) dX10_addPart_9 dX10_addPart_12 dX10_addPart_13 dX10_addPart_15 dX10_addPart_18 (fun x hx9 => (hout x hx9).elim) (Nat.le_of_ble_eq_true rfl) (Nat.le_of_ble_eq_true rfl) (Nat.le_of_ble_eq_true rfl) (Nat.le_of_ble_eq_true rfl) hlocks (fun t hv hz hk => ⟨(), trivial, rfl, gF9 hS hz hk⟩) hS.2.2 (Nat.le_of_ble_eq_true rfl) (Nat.le_of_ble_eq_true rfl)
end
section
set_option maxHeartbeats 4000000 in
set_option maxRecDepth 100000 in
theorem c_X10_init (l : Launch) {D : va_G} {tE sz : Nat} {q : Nat} : Met l ⟨"Foundrymark", "<init>", "()V"⟩ (wsC ⟨"Foundrymark", "<init>", "()V"⟩ cX10_init 2 none) ({ frames := 2, cells := 10, slots := 155, locals := 40 }) (va_Pc [.ref q] (gS tE D [(q, .inr (15, [.null, .null, .null, .null, .null, .null, .int 0, .int 0, .int 0, .int 0, .int 0, .int 0, .long 0, .long 0]))] [] sz)) (va_Qv (fun _ : (Nat → Nat) × (Nat → ClassId) => True) (gO D (fun u => wX q (u.1 1) (u.1 2) (u.1 3) (u.1 4) (u.1 5) (u.1 6) (u.1 7) (u.1 8) (u.1 9) (u.1 10) (u.2 0) (u.2 1) (u.2 2) (u.2 3) (u.2 4)) (fun u => tX (u.2 0) (u.2 1) (u.2 2) (u.2 3) (u.2 4)) (va_A [(q, .inr (15, [.null, .null, .null, .null, .null, .null, .int 0, .int 0, .int 0, .int 0, .int 0, .int 0, .long 0, .long 0]))] sz)) (va_A [(q, .inr (15, [.null, .null, .null, .null, .null, .null, .int 0, .int 0, .int 0, .int 0, .int 0, .int 0, .long 0, .long 0]))] sz)) 10 155 (va_A [(q, .inr (15, [.null, .null, .null, .null, .null, .null, .int 0, .int 0, .int 0, .int 0, .int 0, .int 0, .long 0, .long 0]))] sz) := by
  refine Met.ofW (cc := cX10_init) (maxL := 2) (ret := none) (by decide) rfl ?_
  intro p e s m args below meth c s₁ B hml hv
  obtain ⟨rfl, hsz, hP, hK, hD0, hG⟩ := hv
  have hx := B.exec
  have hb := B.bytes
  have hr := B.returns
  have hlocks := B.notSynchronized
  have hts := atoms_spec (ws := wsC ⟨"Foundrymark", "<init>", "()V"⟩ cX10_init 2 none) B.pre
  have hta : ∀ w ∈ WA, w.before _ s = true := fun w h => hts w (List.mem_cons_of_mem _ h)
  have hown : s.vm.findClass "Foundrymark" = some m.cls := findClass_of_methodNamed B.named
  have hin : meth.name = "<init>" := (name_of_methodNamed B.named B.method).1
  subst hsz
  have hD : va_D (va_A [(q, .inr (15, [.null, .null, .null, .null, .null, .null, .int 0, .int 0, .int 0, .int 0, .int 0, .int 0, .long 0, .long 0]))] s.heap.size) [(q, .inr (15, [.null, .null, .null, .null, .null, .null, .int 0, .int 0, .int 0, .int 0, .int 0, .int 0, .long 0, .long 0]))] := hD0.self (sz := s.heap.size)
  generalize hAe : va_A [(q, .inr (15, [.null, .null, .null, .null, .null, .null, .int 0, .int 0, .int 0, .int 0, .int 0, .int 0, .long 0, .long 0]))] s.heap.size = A at hD hG ⊢
  have hA : ∀ q : Nat, s.heap.size ≤ q → A q := fun q h => by rw [← hAe]; exact Or.inr h
  have hS : va_S A s.heap s.heap [] := va_S.rf
  have hP : va_P D vwCl [(q, .inr (15, [.null, .null, .null, .null, .null, .null, .int 0, .int 0, .int 0, .int 0, .int 0, .int 0, .long 0, .long 0]))] s.heap := hP
  have hl := lv_entry ([.ref q]) (n := 2) (Nat.le_of_ble_eq_true rfl)
  rw [lg_entry_eq]
  generalize (lg_sl ([.ref q]) ++ List.replicate (2 - (lg_sl ([.ref q])).length) Slot.unset).toArray = ls at hl ⊢
  have hl : lv_has ls 2 [(0, .ref q)] := hl
  refine lv_aload_n hx hb dX10_init_0 rfl (lv_at hl 0 rfl) ?_
  refine W.objInit hx hb hown (hta _ mw108) (hta _ mw66) (hta _ mw67) rfl (by rw [hml]; exact hl.1) rfl dX10_init_1 (Nat.le_of_ble_eq_true rfl) (Nat.le_of_ble_eq_true rfl) ?_
  refine W.eq (g2 := F0 m 4 ls []) rfl ?_
  refine lv_aload_n hx hb dX10_init_4 rfl (lv_at hl 0 rfl) ?_
  refine lv_iconst (v := 5) hx hb dX10_init_5 (by decide) ?_
  refine va_newq (N' := 5) (C := "Foundrymark$Machine") hx hb hown (hta _ mw95) (hG.O "Foundrymark$Machine" (by decide)) hK hP hD hS hA (by decide) (by decide) (by decide) (Nat.le_of_ble_eq_true rfl) (Nat.le_of_ble_eq_true rfl) dX10_init_6 (fun q1 t2 H hK hP hD hS => ?_)
  have hK : va_K D vwCl [(t2, .object "Foundrymark$Machine")] s := hK
  have hP : va_P D vwCl [(q, .inr (15, [.null, .null, .null, .null, .null, .null, .int 0, .int 0, .int 0, .int 0, .int 0, .int 0, .long 0, .long 0])), (q1, .inl (t2, 5, .inr (.inr (.inr (.inr (fun _ => none))))))] H := hP
  have hD : va_D A [(q, .inr (15, [.null, .null, .null, .null, .null, .null, .int 0, .int 0, .int 0, .int 0, .int 0, .int 0, .long 0, .long 0])), (q1, .inl (t2, 5, .inr (.inr (.inr (.inr (fun _ => none))))))] := hD
  refine va_putF (D := D) (ci := 15) (v := .ref q1) (ty := .array (.object "Foundrymark$Machine")) (C := RX10) (T := TX10) (N := 14) hx hb hta iwX10 tyX10 tyX10_ok nmX10 hown hK hP hD hS 0 rfl rfl 0 (by decide) (hta _ mw2) (fun _ h9 => h9) rfl hin rfl (by decide +kernel) rfl rfl (Nat.le_of_ble_eq_true rfl) dX10_init_9 (fun H locs hP hD hS => ?_)
  have hP : va_P D vwCl [(q, .inr (15, [.ref q1, .null, .null, .null, .null, .null, .int 0, .int 0, .int 0, .int 0, .int 0, .int 0, .long 0, .long 0])), (q1, .inl (t2, 5, .inr (.inr (.inr (.inr (fun _ => none))))))] H := hP
  have hD : va_D A [(q, .inr (15, [.ref q1, .null, .null, .null, .null, .null, .int 0, .int 0, .int 0, .int 0, .int 0, .int 0, .long 0, .long 0])), (q1, .inl (t2, 5, .inr (.inr (.inr (.inr (fun _ => none))))))] := hD
  refine lv_aload_n hx hb dX10_init_12 rfl (lv_at hl 0 rfl) ?_
  refine lv_bipush (v := 12) hx hb dX10_init_13 (by decide) ?_
  refine va_newq (N' := 12) (C := "Foundrymark$Part") hx hb hown (hta _ mw102) (hG.O "Foundrymark$Part" (by decide)) hK hP hD hS hA (by decide) (by decide) (by decide) (Nat.le_of_ble_eq_true rfl) (Nat.le_of_ble_eq_true rfl) dX10_init_15 (fun q3 t4 H hK hP hD hS => ?_)
  have hK : va_K D vwCl [(t2, .object "Foundrymark$Machine"), (t4, .object "Foundrymark$Part")] s := hK
  have hP : va_P D vwCl [(q, .inr (15, [.ref q1, .null, .null, .null, .null, .null, .int 0, .int 0, .int 0, .int 0, .int 0, .int 0, .long 0, .long 0])), (q1, .inl (t2, 5, .inr (.inr (.inr (.inr (fun _ => none)))))), (q3, .inl (t4, 12, .inr (.inr (.inr (.inr (fun _ => none))))))] H := hP
  have hD : va_D A [(q, .inr (15, [.ref q1, .null, .null, .null, .null, .null, .int 0, .int 0, .int 0, .int 0, .int 0, .int 0, .long 0, .long 0])), (q1, .inl (t2, 5, .inr (.inr (.inr (.inr (fun _ => none)))))), (q3, .inl (t4, 12, .inr (.inr (.inr (.inr (fun _ => none))))))] := hD
  refine va_putF (D := D) (ci := 15) (v := .ref q3) (ty := .array (.object "Foundrymark$Part")) (C := RX10) (T := TX10) (N := 14) hx hb hta iwX10 tyX10 tyX10_ok nmX10 hown hK hP hD hS 0 rfl rfl 1 (by decide) (hta _ mw3) (fun _ h9 => h9) rfl hin rfl (by decide +kernel) rfl rfl (Nat.le_of_ble_eq_true rfl) dX10_init_18 (fun H locs hP hD hS => ?_)
  have hP : va_P D vwCl [(q, .inr (15, [.ref q1, .ref q3, .null, .null, .null, .null, .int 0, .int 0, .int 0, .int 0, .int 0, .int 0, .long 0, .long 0])), (q1, .inl (t2, 5, .inr (.inr (.inr (.inr (fun _ => none)))))), (q3, .inl (t4, 12, .inr (.inr (.inr (.inr (fun _ => none))))))] H := hP
  have hD : va_D A [(q, .inr (15, [.ref q1, .ref q3, .null, .null, .null, .null, .int 0, .int 0, .int 0, .int 0, .int 0, .int 0, .long 0, .long 0])), (q1, .inl (t2, 5, .inr (.inr (.inr (.inr (fun _ => none)))))), (q3, .inl (t4, 12, .inr (.inr (.inr (.inr (fun _ => none))))))] := hD
  refine lv_aload_n hx hb dX10_init_21 rfl (lv_at hl 0 rfl) ?_
  refine lv_iconst (v := 4) hx hb dX10_init_22 (by decide) ?_
  refine va_newq (N' := 4) (C := "Foundrymark$Supplier") hx hb hown (hta _ mw109) (hG.O "Foundrymark$Supplier" (by decide)) hK hP hD hS hA (by decide) (by decide) (by decide) (Nat.le_of_ble_eq_true rfl) (Nat.le_of_ble_eq_true rfl) dX10_init_23 (fun q5 t6 H hK hP hD hS => ?_)
  have hK : va_K D vwCl [(t2, .object "Foundrymark$Machine"), (t4, .object "Foundrymark$Part"), (t6, .object "Foundrymark$Supplier")] s := hK
  have hP : va_P D vwCl [(q, .inr (15, [.ref q1, .ref q3, .null, .null, .null, .null, .int 0, .int 0, .int 0, .int 0, .int 0, .int 0, .long 0, .long 0])), (q1, .inl (t2, 5, .inr (.inr (.inr (.inr (fun _ => none)))))), (q3, .inl (t4, 12, .inr (.inr (.inr (.inr (fun _ => none)))))), (q5, .inl (t6, 4, .inr (.inr (.inr (.inr (fun _ => none))))))] H := hP
  have hD : va_D A [(q, .inr (15, [.ref q1, .ref q3, .null, .null, .null, .null, .int 0, .int 0, .int 0, .int 0, .int 0, .int 0, .long 0, .long 0])), (q1, .inl (t2, 5, .inr (.inr (.inr (.inr (fun _ => none)))))), (q3, .inl (t4, 12, .inr (.inr (.inr (.inr (fun _ => none)))))), (q5, .inl (t6, 4, .inr (.inr (.inr (.inr (fun _ => none))))))] := hD
  refine va_putF (D := D) (ci := 15) (v := .ref q5) (ty := .array (.object "Foundrymark$Supplier")) (C := RX10) (T := TX10) (N := 14) hx hb hta iwX10 tyX10 tyX10_ok nmX10 hown hK hP hD hS 0 rfl rfl 2 (by decide) (hta _ mw23) (fun _ h9 => h9) rfl hin rfl (by decide +kernel) rfl rfl (Nat.le_of_ble_eq_true rfl) dX10_init_26 (fun H locs hP hD hS => ?_)
  have hP : va_P D vwCl [(q, .inr (15, [.ref q1, .ref q3, .ref q5, .null, .null, .null, .int 0, .int 0, .int 0, .int 0, .int 0, .int 0, .long 0, .long 0])), (q1, .inl (t2, 5, .inr (.inr (.inr (.inr (fun _ => none)))))), (q3, .inl (t4, 12, .inr (.inr (.inr (.inr (fun _ => none)))))), (q5, .inl (t6, 4, .inr (.inr (.inr (.inr (fun _ => none))))))] H := hP
  have hD : va_D A [(q, .inr (15, [.ref q1, .ref q3, .ref q5, .null, .null, .null, .int 0, .int 0, .int 0, .int 0, .int 0, .int 0, .long 0, .long 0])), (q1, .inl (t2, 5, .inr (.inr (.inr (.inr (fun _ => none)))))), (q3, .inl (t4, 12, .inr (.inr (.inr (.inr (fun _ => none)))))), (q5, .inl (t6, 4, .inr (.inr (.inr (.inr (fun _ => none))))))] := hD
  refine lv_aload_n hx hb dX10_init_29 rfl (lv_at hl 0 rfl) ?_
  refine lv_bipush (v := 90) hx hb dX10_init_30 (by decide) ?_
  refine va_newq (N' := 90) (C := "Foundrymark$Lot") hx hb hown (hta _ mw110) (hG.O "Foundrymark$Lot" (by decide)) hK hP hD hS hA (by decide) (by decide) (by decide) (Nat.le_of_ble_eq_true rfl) (Nat.le_of_ble_eq_true rfl) dX10_init_32 (fun q7 t8 H hK hP hD hS => ?_)
  have hK : va_K D vwCl [(t2, .object "Foundrymark$Machine"), (t4, .object "Foundrymark$Part"), (t6, .object "Foundrymark$Supplier"), (t8, .object "Foundrymark$Lot")] s := hK
  have hP : va_P D vwCl [(q, .inr (15, [.ref q1, .ref q3, .ref q5, .null, .null, .null, .int 0, .int 0, .int 0, .int 0, .int 0, .int 0, .long 0, .long 0])), (q1, .inl (t2, 5, .inr (.inr (.inr (.inr (fun _ => none)))))), (q3, .inl (t4, 12, .inr (.inr (.inr (.inr (fun _ => none)))))), (q5, .inl (t6, 4, .inr (.inr (.inr (.inr (fun _ => none)))))), (q7, .inl (t8, 90, .inr (.inr (.inr (.inr (fun _ => none))))))] H := hP
  have hD : va_D A [(q, .inr (15, [.ref q1, .ref q3, .ref q5, .null, .null, .null, .int 0, .int 0, .int 0, .int 0, .int 0, .int 0, .long 0, .long 0])), (q1, .inl (t2, 5, .inr (.inr (.inr (.inr (fun _ => none)))))), (q3, .inl (t4, 12, .inr (.inr (.inr (.inr (fun _ => none)))))), (q5, .inl (t6, 4, .inr (.inr (.inr (.inr (fun _ => none)))))), (q7, .inl (t8, 90, .inr (.inr (.inr (.inr (fun _ => none))))))] := hD
  refine va_putF (D := D) (ci := 15) (v := .ref q7) (ty := .array (.object "Foundrymark$Lot")) (C := RX10) (T := TX10) (N := 14) hx hb hta iwX10 tyX10 tyX10_ok nmX10 hown hK hP hD hS 0 rfl rfl 3 (by decide) (hta _ mw4) (fun _ h9 => h9) rfl hin rfl (by decide +kernel) rfl rfl (Nat.le_of_ble_eq_true rfl) dX10_init_35 (fun H locs hP hD hS => ?_)
  have hP : va_P D vwCl [(q, .inr (15, [.ref q1, .ref q3, .ref q5, .ref q7, .null, .null, .int 0, .int 0, .int 0, .int 0, .int 0, .int 0, .long 0, .long 0])), (q1, .inl (t2, 5, .inr (.inr (.inr (.inr (fun _ => none)))))), (q3, .inl (t4, 12, .inr (.inr (.inr (.inr (fun _ => none)))))), (q5, .inl (t6, 4, .inr (.inr (.inr (.inr (fun _ => none)))))), (q7, .inl (t8, 90, .inr (.inr (.inr (.inr (fun _ => none))))))] H := hP
  have hD : va_D A [(q, .inr (15, [.ref q1, .ref q3, .ref q5, .ref q7, .null, .null, .int 0, .int 0, .int 0, .int 0, .int 0, .int 0, .long 0, .long 0])), (q1, .inl (t2, 5, .inr (.inr (.inr (.inr (fun _ => none)))))), (q3, .inl (t4, 12, .inr (.inr (.inr (.inr (fun _ => none)))))), (q5, .inl (t6, 4, .inr (.inr (.inr (.inr (fun _ => none)))))), (q7, .inl (t8, 90, .inr (.inr (.inr (.inr (fun _ => none))))))] := hD
  refine lv_aload_n hx hb dX10_init_38 rfl (lv_at hl 0 rfl) ?_
  refine lv_bipush (v := 30) hx hb dX10_init_39 (by decide) ?_
  refine va_newq (N' := 30) (C := "Foundrymark$Order") hx hb hown (hta _ mw111) (hG.O "Foundrymark$Order" (by decide)) hK hP hD hS hA (by decide) (by decide) (by decide) (Nat.le_of_ble_eq_true rfl) (Nat.le_of_ble_eq_true rfl) dX10_init_41 (fun q9 t10 H hK hP hD hS => ?_)
  have hK : va_K D vwCl [(t2, .object "Foundrymark$Machine"), (t4, .object "Foundrymark$Part"), (t6, .object "Foundrymark$Supplier"), (t8, .object "Foundrymark$Lot"), (t10, .object "Foundrymark$Order")] s := hK
  have hP : va_P D vwCl [(q, .inr (15, [.ref q1, .ref q3, .ref q5, .ref q7, .null, .null, .int 0, .int 0, .int 0, .int 0, .int 0, .int 0, .long 0, .long 0])), (q1, .inl (t2, 5, .inr (.inr (.inr (.inr (fun _ => none)))))), (q3, .inl (t4, 12, .inr (.inr (.inr (.inr (fun _ => none)))))), (q5, .inl (t6, 4, .inr (.inr (.inr (.inr (fun _ => none)))))), (q7, .inl (t8, 90, .inr (.inr (.inr (.inr (fun _ => none)))))), (q9, .inl (t10, 30, .inr (.inr (.inr (.inr (fun _ => none))))))] H := hP
  have hD : va_D A [(q, .inr (15, [.ref q1, .ref q3, .ref q5, .ref q7, .null, .null, .int 0, .int 0, .int 0, .int 0, .int 0, .int 0, .long 0, .long 0])), (q1, .inl (t2, 5, .inr (.inr (.inr (.inr (fun _ => none)))))), (q3, .inl (t4, 12, .inr (.inr (.inr (.inr (fun _ => none)))))), (q5, .inl (t6, 4, .inr (.inr (.inr (.inr (fun _ => none)))))), (q7, .inl (t8, 90, .inr (.inr (.inr (.inr (fun _ => none)))))), (q9, .inl (t10, 30, .inr (.inr (.inr (.inr (fun _ => none))))))] := hD
  refine va_putF (D := D) (ci := 15) (v := .ref q9) (ty := .array (.object "Foundrymark$Order")) (C := RX10) (T := TX10) (N := 14) hx hb hta iwX10 tyX10 tyX10_ok nmX10 hown hK hP hD hS 0 rfl rfl 4 (by decide) (hta _ mw5) (fun _ h9 => h9) rfl hin rfl (by decide +kernel) rfl rfl (Nat.le_of_ble_eq_true rfl) dX10_init_44 (fun H locs hP hD hS => ?_)
  have hP : va_P D vwCl [(q, .inr (15, [.ref q1, .ref q3, .ref q5, .ref q7, .ref q9, .null, .int 0, .int 0, .int 0, .int 0, .int 0, .int 0, .long 0, .long 0])), (q1, .inl (t2, 5, .inr (.inr (.inr (.inr (fun _ => none)))))), (q3, .inl (t4, 12, .inr (.inr (.inr (.inr (fun _ => none)))))), (q5, .inl (t6, 4, .inr (.inr (.inr (.inr (fun _ => none)))))), (q7, .inl (t8, 90, .inr (.inr (.inr (.inr (fun _ => none)))))), (q9, .inl (t10, 30, .inr (.inr (.inr (.inr (fun _ => none))))))] H := hP
  have hD : va_D A [(q, .inr (15, [.ref q1, .ref q3, .ref q5, .ref q7, .ref q9, .null, .int 0, .int 0, .int 0, .int 0, .int 0, .int 0, .long 0, .long 0])), (q1, .inl (t2, 5, .inr (.inr (.inr (.inr (fun _ => none)))))), (q3, .inl (t4, 12, .inr (.inr (.inr (.inr (fun _ => none)))))), (q5, .inl (t6, 4, .inr (.inr (.inr (.inr (fun _ => none)))))), (q7, .inl (t8, 90, .inr (.inr (.inr (.inr (fun _ => none)))))), (q9, .inl (t10, 30, .inr (.inr (.inr (.inr (fun _ => none))))))] := hD
  refine lv_aload_n hx hb dX10_init_47 rfl (lv_at hl 0 rfl) ?_
  refine va_new (ci := 10) (fs := [.long 0, .long 0]) (C := RX5) (T := TX5) (N := 2) hx hb hta iwX5 tyX5 tyX5_ok hown (hta _ mw112) (hta _ mw113) (hta _ mw114) hK hP hD hS hA rfl (fun j hj => by rcases (show j = 0 ∨ j = 1 by omega) with rfl | rfl <;> rfl) (Nat.le_of_ble_eq_true rfl) (Nat.le_of_ble_eq_true rfl) dX10_init_48 (fun q11 H hP hD hS => ?_)
  have hP : va_P D vwCl [(q, .inr (15, [.ref q1, .ref q3, .ref q5, .ref q7, .ref q9, .null, .int 0, .int 0, .int 0, .int 0, .int 0, .int 0, .long 0, .long 0])), (q1, .inl (t2, 5, .inr (.inr (.inr (.inr (fun _ => none)))))), (q3, .inl (t4, 12, .inr (.inr (.inr (.inr (fun _ => none)))))), (q5, .inl (t6, 4, .inr (.inr (.inr (.inr (fun _ => none)))))), (q7, .inl (t8, 90, .inr (.inr (.inr (.inr (fun _ => none)))))), (q9, .inl (t10, 30, .inr (.inr (.inr (.inr (fun _ => none)))))), (q11, .inr (10, [.long 0, .long 0]))] H := hP
  have hD : va_D A [(q, .inr (15, [.ref q1, .ref q3, .ref q5, .ref q7, .ref q9, .null, .int 0, .int 0, .int 0, .int 0, .int 0, .int 0, .long 0, .long 0])), (q1, .inl (t2, 5, .inr (.inr (.inr (.inr (fun _ => none)))))), (q3, .inl (t4, 12, .inr (.inr (.inr (.inr (fun _ => none)))))), (q5, .inl (t6, 4, .inr (.inr (.inr (.inr (fun _ => none)))))), (q7, .inl (t8, 90, .inr (.inr (.inr (.inr (fun _ => none)))))), (q9, .inl (t10, 30, .inr (.inr (.inr (.inr (fun _ => none)))))), (q11, .inr (10, [.long 0, .long 0]))] := hD
  refine lv_dup hx hb dX10_init_51 rfl ?_
  have hPc := hP.sub (ws' := [(q11, .inr (10, [.long 0, .long 0]))]) [6] rfl
  have hKc := hK.sub (tys' := []) [] rfl
  have hDc := hD.sub (ws' := [(q11, .inr (10, [.long 0, .long 0]))]) [6] (by decide) rfl
  have hFc := va_free (wc := [(q11, .inr (10, [.long 0, .long 0]))]) hD hS hA [6] rfl
  refine gJ_v (isC := [6]) (isR := [0, 1, 2, 3, 4, 5]) (wr := [(q, .inr (15, [.ref q1, .ref q3, .ref q5, .ref q7, .ref q9, .null, .int 0, .int 0, .int 0, .int 0, .int 0, .int 0, .long 0, .long 0])), (q1, .inl (t2, 5, .inr (.inr (.inr (.inr (fun _ => none)))))), (q3, .inl (t4, 12, .inr (.inr (.inr (.inr (fun _ => none)))))), (q5, .inl (t6, 4, .inr (.inr (.inr (.inr (fun _ => none)))))), (q7, .inl (t8, 90, .inr (.inr (.inr (.inr (fun _ => none)))))), (q9, .inl (t10, 30, .inr (.inr (.inr (.inr (fun _ => none))))))]) (va_runIN (As := []) (rest := [.ref q11, .ref q]) ⟨hx, hb, hml, hown, hta⟩ (c_X5_init l ) ⟨va_cnB 0 hta (gWI mw115) rfl rfl rfl (hG.M ("Foundrymark", 41, ⟨"Foundrymark$NumberSet", "<init>", "()V"⟩) (by decide)) (hta _ mw114) (by decide +kernel) ⟨Nat.le_of_ble_eq_true rfl, Nat.le_of_ble_eq_true rfl⟩, rfl, (hta _ mw116)⟩ ⟨gS_blind, fun U hU hW => ⟨rfl, by rw [hU], by rw [hU]; exact hPc, va_K.moved hW.alike hKc, hDc.weaken (fun _ _ _ _ => trivial), hG.call hS hU hW hFc⟩⟩ rfl rfl hl.1 rfl (lv_room (Nat.le_of_ble_eq_true rfl)) dX10_init_52 ⟨Nat.le_of_ble_eq_true rfl, Nat.le_of_ble_eq_true rfl⟩) hP hD hS hK hFc rfl rfl (by decide) (by decide) (fun u13 H locs h14 hP hD hS hK => ?_)
  have hK : va_K D vwCl [(t2, .object "Foundrymark$Machine"), (t4, .object "Foundrymark$Part"), (t6, .object "Foundrymark$Supplier"), (t8, .object "Foundrymark$Lot"), (t10, .object "Foundrymark$Order")] s := hK
  have hP : va_P D vwCl [(q, .inr (15, [.ref q1, .ref q3, .ref q5, .ref q7, .ref q9, .null, .int 0, .int 0, .int 0, .int 0, .int 0, .int 0, .long 0, .long 0])), (q1, .inl (t2, 5, .inr (.inr (.inr (.inr (fun _ => none)))))), (q3, .inl (t4, 12, .inr (.inr (.inr (.inr (fun _ => none)))))), (q5, .inl (t6, 4, .inr (.inr (.inr (.inr (fun _ => none)))))), (q7, .inl (t8, 90, .inr (.inr (.inr (.inr (fun _ => none)))))), (q9, .inl (t10, 30, .inr (.inr (.inr (.inr (fun _ => none)))))), (q11, .inr (10, [.long 0, .long 0]))] H := hP
  have hD : va_D A [(q, .inr (15, [.ref q1, .ref q3, .ref q5, .ref q7, .ref q9, .null, .int 0, .int 0, .int 0, .int 0, .int 0, .int 0, .long 0, .long 0])), (q1, .inl (t2, 5, .inr (.inr (.inr (.inr (fun _ => none)))))), (q3, .inl (t4, 12, .inr (.inr (.inr (.inr (fun _ => none)))))), (q5, .inl (t6, 4, .inr (.inr (.inr (.inr (fun _ => none)))))), (q7, .inl (t8, 90, .inr (.inr (.inr (.inr (fun _ => none)))))), (q9, .inl (t10, 30, .inr (.inr (.inr (.inr (fun _ => none)))))), (q11, .inr (10, [.long 0, .long 0]))] := hD
  refine va_putF (D := D) (ci := 15) (v := .ref q11) (ty := .object "Foundrymark$NumberSet") (C := RX10) (T := TX10) (N := 14) hx hb hta iwX10 tyX10 tyX10_ok nmX10 hown hK hP hD hS 0 rfl rfl 5 (by decide) (hta _ mw117) (fun _ h9 => h9) rfl hin rfl (by decide +kernel) rfl rfl (Nat.le_of_ble_eq_true rfl) dX10_init_55 (fun H locs hP hD hS => ?_)
  have hP : va_P D vwCl [(q, .inr (15, [.ref q1, .ref q3, .ref q5, .ref q7, .ref q9, .ref q11, .int 0, .int 0, .int 0, .int 0, .int 0, .int 0, .long 0, .long 0])), (q1, .inl (t2, 5, .inr (.inr (.inr (.inr (fun _ => none)))))), (q3, .inl (t4, 12, .inr (.inr (.inr (.inr (fun _ => none)))))), (q5, .inl (t6, 4, .inr (.inr (.inr (.inr (fun _ => none)))))), (q7, .inl (t8, 90, .inr (.inr (.inr (.inr (fun _ => none)))))), (q9, .inl (t10, 30, .inr (.inr (.inr (.inr (fun _ => none)))))), (q11, .inr (10, [.long 0, .long 0]))] H := hP
  have hD : va_D A [(q, .inr (15, [.ref q1, .ref q3, .ref q5, .ref q7, .ref q9, .ref q11, .int 0, .int 0, .int 0, .int 0, .int 0, .int 0, .long 0, .long 0])), (q1, .inl (t2, 5, .inr (.inr (.inr (.inr (fun _ => none)))))), (q3, .inl (t4, 12, .inr (.inr (.inr (.inr (fun _ => none)))))), (q5, .inl (t6, 4, .inr (.inr (.inr (.inr (fun _ => none)))))), (q7, .inl (t8, 90, .inr (.inr (.inr (.inr (fun _ => none)))))), (q9, .inl (t10, 30, .inr (.inr (.inr (.inr (fun _ => none)))))), (q11, .inr (10, [.long 0, .long 0]))] := hD
  refine lv_iconst (v := 0) hx hb dX10_init_58 (by decide) ?_
  refine lv_istore_n (lv' := [(1, .int 0), (0, .ref q)]) hx hb dX10_init_59 rfl hl (by decide) rfl (fun ls hl => ?_)
  refine lv_iload_n hx hb dX10_init_60 rfl (lv_at hl 0 rfl) ?_
  refine lv_aload_n hx hb dX10_init_61 rfl (lv_at hl 1 rfl) ?_
  refine va_get (D := D) (ci := 15) (v := .ref q5) (C := RX10) (T := TX10) (N := 14) hx hb hta iwX10 hown hK hP 0 rfl rfl 2 (by decide) (hta _ mw23) (fun _ h9 => h9) rfl dX10_init_62 ?_
  refine va_alen hx hb hK hP 3 2 rfl rfl (v := 4) rfl dX10_init_65 ?_
  refine lv_icmp_ge (tgt := 88) hx hb dX10_init_66 (by decide) (fun c15 => ?_) (fun c15 => ?_)
  · exact absurd c15 (by decide)
  · skip
    refine lv_aload_n hx hb dX10_init_69 rfl (lv_at hl 1 rfl) ?_
    refine va_get (D := D) (ci := 15) (v := .ref q5) (C := RX10) (T := TX10) (N := 14) hx hb hta iwX10 hown hK hP 0 rfl rfl 2 (by decide) (hta _ mw23) (fun _ h9 => h9) rfl dX10_init_70 ?_
    refine lv_iload_n hx hb dX10_init_73 rfl (lv_at hl 0 rfl) ?_
    refine va_new (ci := 14) (fs := [.int 0, .int 0, .int 0]) (C := RX9) (T := TX9) (N := 3) hx hb hta iwX9 tyX9 tyX9_ok hown (hta _ mw109) (hta _ mw118) (hta _ mw119) hK hP hD hS hA rfl (fun j hj => by rcases (show j = 0 ∨ j = 1 ∨ j = 2 by omega) with rfl | rfl | rfl <;> rfl) (Nat.le_of_ble_eq_true rfl) (Nat.le_of_ble_eq_true rfl) dX10_init_74 (fun q16 H hP hD hS => ?_)
    have hP : va_P D vwCl [(q, .inr (15, [.ref q1, .ref q3, .ref q5, .ref q7, .ref q9, .ref q11, .int 0, .int 0, .int 0, .int 0, .int 0, .int 0, .long 0, .long 0])), (q1, .inl (t2, 5, .inr (.inr (.inr (.inr (fun _ => none)))))), (q3, .inl (t4, 12, .inr (.inr (.inr (.inr (fun _ => none)))))), (q5, .inl (t6, 4, .inr (.inr (.inr (.inr (fun _ => none)))))), (q7, .inl (t8, 90, .inr (.inr (.inr (.inr (fun _ => none)))))), (q9, .inl (t10, 30, .inr (.inr (.inr (.inr (fun _ => none)))))), (q11, .inr (10, [.long 0, .long 0])), (q16, .inr (14, [.int 0, .int 0, .int 0]))] H := hP
    have hD : va_D A [(q, .inr (15, [.ref q1, .ref q3, .ref q5, .ref q7, .ref q9, .ref q11, .int 0, .int 0, .int 0, .int 0, .int 0, .int 0, .long 0, .long 0])), (q1, .inl (t2, 5, .inr (.inr (.inr (.inr (fun _ => none)))))), (q3, .inl (t4, 12, .inr (.inr (.inr (.inr (fun _ => none)))))), (q5, .inl (t6, 4, .inr (.inr (.inr (.inr (fun _ => none)))))), (q7, .inl (t8, 90, .inr (.inr (.inr (.inr (fun _ => none)))))), (q9, .inl (t10, 30, .inr (.inr (.inr (.inr (fun _ => none)))))), (q11, .inr (10, [.long 0, .long 0])), (q16, .inr (14, [.int 0, .int 0, .int 0]))] := hD
    refine lv_dup hx hb dX10_init_77 rfl ?_
    have hPc := hP.sub (ws' := [(q16, .inr (14, [.int 0, .int 0, .int 0]))]) [7] rfl
    have hKc := hK.sub (tys' := []) [] rfl
    have hDc := hD.sub (ws' := [(q16, .inr (14, [.int 0, .int 0, .int 0]))]) [7] (by decide) rfl
    have hFc := va_free (wc := [(q16, .inr (14, [.int 0, .int 0, .int 0]))]) hD hS hA [7] rfl
    refine gJ_v (isC := [7]) (isR := [0, 1, 2, 3, 4, 5, 6]) (wr := [(q, .inr (15, [.ref q1, .ref q3, .ref q5, .ref q7, .ref q9, .ref q11, .int 0, .int 0, .int 0, .int 0, .int 0, .int 0, .long 0, .long 0])), (q1, .inl (t2, 5, .inr (.inr (.inr (.inr (fun _ => none)))))), (q3, .inl (t4, 12, .inr (.inr (.inr (.inr (fun _ => none)))))), (q5, .inl (t6, 4, .inr (.inr (.inr (.inr (fun _ => none)))))), (q7, .inl (t8, 90, .inr (.inr (.inr (.inr (fun _ => none)))))), (q9, .inl (t10, 30, .inr (.inr (.inr (.inr (fun _ => none)))))), (q11, .inr (10, [.long 0, .long 0]))]) (va_runIN (As := []) (rest := [.ref q16, .int 0, .ref q5]) ⟨hx, hb, hml, hown, hta⟩ (c_X9_init l ) ⟨va_cnB 0 hta (gWI mw120) rfl rfl rfl (hG.M ("Foundrymark", 46, ⟨"Foundrymark$Supplier", "<init>", "()V"⟩) (by decide)) (hta _ mw119) (by decide +kernel) ⟨Nat.le_of_ble_eq_true rfl, Nat.le_of_ble_eq_true rfl⟩, rfl, (hta _ mw121)⟩ ⟨gS_blind, fun U hU hW => ⟨rfl, by rw [hU], by rw [hU]; exact hPc, va_K.moved hW.alike hKc, hDc.weaken (fun _ _ _ _ => trivial), hG.call hS hU hW hFc⟩⟩ rfl rfl hl.1 rfl (lv_room (Nat.le_of_ble_eq_true rfl)) dX10_init_78 ⟨Nat.le_of_ble_eq_true rfl, Nat.le_of_ble_eq_true rfl⟩) hP hD hS hK hFc rfl rfl (by decide) (by decide) (fun u18 H locs h19 hP hD hS hK => ?_)
    have hK : va_K D vwCl [(t2, .object "Foundrymark$Machine"), (t4, .object "Foundrymark$Part"), (t6, .object "Foundrymark$Supplier"), (t8, .object "Foundrymark$Lot"), (t10, .object "Foundrymark$Order")] s := hK
    have hP : va_P D vwCl [(q, .inr (15, [.ref q1, .ref q3, .ref q5, .ref q7, .ref q9, .ref q11, .int 0, .int 0, .int 0, .int 0, .int 0, .int 0, .long 0, .long 0])), (q1, .inl (t2, 5, .inr (.inr (.inr (.inr (fun _ => none)))))), (q3, .inl (t4, 12, .inr (.inr (.inr (.inr (fun _ => none)))))), (q5, .inl (t6, 4, .inr (.inr (.inr (.inr (fun _ => none)))))), (q7, .inl (t8, 90, .inr (.inr (.inr (.inr (fun _ => none)))))), (q9, .inl (t10, 30, .inr (.inr (.inr (.inr (fun _ => none)))))), (q11, .inr (10, [.long 0, .long 0])), (q16, .inr (14, [.int 110, .int 0, .int 0]))] H := hP
    have hD : va_D A [(q, .inr (15, [.ref q1, .ref q3, .ref q5, .ref q7, .ref q9, .ref q11, .int 0, .int 0, .int 0, .int 0, .int 0, .int 0, .long 0, .long 0])), (q1, .inl (t2, 5, .inr (.inr (.inr (.inr (fun _ => none)))))), (q3, .inl (t4, 12, .inr (.inr (.inr (.inr (fun _ => none)))))), (q5, .inl (t6, 4, .inr (.inr (.inr (.inr (fun _ => none)))))), (q7, .inl (t8, 90, .inr (.inr (.inr (.inr (fun _ => none)))))), (q9, .inl (t10, 30, .inr (.inr (.inr (.inr (fun _ => none)))))), (q11, .inr (10, [.long 0, .long 0])), (q16, .inr (14, [.int 110, .int 0, .int 0]))] := hD
    refine va_astq (r := (RX9, TX9, 3)) hx hb hK hP hD hS 3 2 7 14 rfl rfl rfl rfl (i := 0) (by unfold vp_in; decide) dX10_init_81 (fun H locs hP hD hS => ?_)
    have hP : va_P D vwCl [(q, .inr (15, [.ref q1, .ref q3, .ref q5, .ref q7, .ref q9, .ref q11, .int 0, .int 0, .int 0, .int 0, .int 0, .int 0, .long 0, .long 0])), (q1, .inl (t2, 5, .inr (.inr (.inr (.inr (fun _ => none)))))), (q3, .inl (t4, 12, .inr (.inr (.inr (.inr (fun _ => none)))))), (q5, .inl (t6, 4, .inr (.inr (.inr (.inr (va_up (fun _ => none) 0 (some q16))))))), (q7, .inl (t8, 90, .inr (.inr (.inr (.inr (fun _ => none)))))), (q9, .inl (t10, 30, .inr (.inr (.inr (.inr (fun _ => none)))))), (q11, .inr (10, [.long 0, .long 0])), (q16, .inr (14, [.int 110, .int 0, .int 0]))] H := hP
    have hD : va_D A [(q, .inr (15, [.ref q1, .ref q3, .ref q5, .ref q7, .ref q9, .ref q11, .int 0, .int 0, .int 0, .int 0, .int 0, .int 0, .long 0, .long 0])), (q1, .inl (t2, 5, .inr (.inr (.inr (.inr (fun _ => none)))))), (q3, .inl (t4, 12, .inr (.inr (.inr (.inr (fun _ => none)))))), (q5, .inl (t6, 4, .inr (.inr (.inr (.inr (va_up (fun _ => none) 0 (some q16))))))), (q7, .inl (t8, 90, .inr (.inr (.inr (.inr (fun _ => none)))))), (q9, .inl (t10, 30, .inr (.inr (.inr (.inr (fun _ => none)))))), (q11, .inr (10, [.long 0, .long 0])), (q16, .inr (14, [.int 110, .int 0, .int 0]))] := hD
    refine lv_iinc (v := 1) (lv' := [(1, .int 1), (0, .ref q)]) hx hb dX10_init_82 hl (k := 0) rfl (by decide) (by decide) rfl (fun ls hl => ?_)
    refine lv_goto (tgt := 60) hx hb dX10_init_85 (by decide) ?_
    refine lv_iload_n hx hb dX10_init_60 rfl (lv_at hl 0 rfl) ?_
    refine lv_aload_n hx hb dX10_init_61 rfl (lv_at hl 1 rfl) ?_
    refine va_get (D := D) (ci := 15) (v := .ref q5) (C := RX10) (T := TX10) (N := 14) hx hb hta iwX10 hown hK hP 0 rfl rfl 2 (by decide) (hta _ mw23) (fun _ h9 => h9) rfl dX10_init_62 ?_
    refine va_alen hx hb hK hP 3 2 rfl rfl (v := 4) rfl dX10_init_65 ?_
    refine lv_icmp_ge (tgt := 88) hx hb dX10_init_66 (by decide) (fun c20 => ?_) (fun c20 => ?_)
    · exact absurd c20 (by decide)
    · skip
      refine lv_aload_n hx hb dX10_init_69 rfl (lv_at hl 1 rfl) ?_
      refine va_get (D := D) (ci := 15) (v := .ref q5) (C := RX10) (T := TX10) (N := 14) hx hb hta iwX10 hown hK hP 0 rfl rfl 2 (by decide) (hta _ mw23) (fun _ h9 => h9) rfl dX10_init_70 ?_
      refine lv_iload_n hx hb dX10_init_73 rfl (lv_at hl 0 rfl) ?_
      refine va_new (ci := 14) (fs := [.int 0, .int 0, .int 0]) (C := RX9) (T := TX9) (N := 3) hx hb hta iwX9 tyX9 tyX9_ok hown (hta _ mw109) (hta _ mw118) (hta _ mw119) hK hP hD hS hA rfl (fun j hj => by rcases (show j = 0 ∨ j = 1 ∨ j = 2 by omega) with rfl | rfl | rfl <;> rfl) (Nat.le_of_ble_eq_true rfl) (Nat.le_of_ble_eq_true rfl) dX10_init_74 (fun q21 H hP hD hS => ?_)
      have hP : va_P D vwCl [(q, .inr (15, [.ref q1, .ref q3, .ref q5, .ref q7, .ref q9, .ref q11, .int 0, .int 0, .int 0, .int 0, .int 0, .int 0, .long 0, .long 0])), (q1, .inl (t2, 5, .inr (.inr (.inr (.inr (fun _ => none)))))), (q3, .inl (t4, 12, .inr (.inr (.inr (.inr (fun _ => none)))))), (q5, .inl (t6, 4, .inr (.inr (.inr (.inr (va_up (fun _ => none) 0 (some q16))))))), (q7, .inl (t8, 90, .inr (.inr (.inr (.inr (fun _ => none)))))), (q9, .inl (t10, 30, .inr (.inr (.inr (.inr (fun _ => none)))))), (q11, .inr (10, [.long 0, .long 0])), (q16, .inr (14, [.int 110, .int 0, .int 0])), (q21, .inr (14, [.int 0, .int 0, .int 0]))] H := hP
      have hD : va_D A [(q, .inr (15, [.ref q1, .ref q3, .ref q5, .ref q7, .ref q9, .ref q11, .int 0, .int 0, .int 0, .int 0, .int 0, .int 0, .long 0, .long 0])), (q1, .inl (t2, 5, .inr (.inr (.inr (.inr (fun _ => none)))))), (q3, .inl (t4, 12, .inr (.inr (.inr (.inr (fun _ => none)))))), (q5, .inl (t6, 4, .inr (.inr (.inr (.inr (va_up (fun _ => none) 0 (some q16))))))), (q7, .inl (t8, 90, .inr (.inr (.inr (.inr (fun _ => none)))))), (q9, .inl (t10, 30, .inr (.inr (.inr (.inr (fun _ => none)))))), (q11, .inr (10, [.long 0, .long 0])), (q16, .inr (14, [.int 110, .int 0, .int 0])), (q21, .inr (14, [.int 0, .int 0, .int 0]))] := hD
      refine lv_dup hx hb dX10_init_77 rfl ?_
      have hPc := hP.sub (ws' := [(q21, .inr (14, [.int 0, .int 0, .int 0]))]) [8] rfl
      have hKc := hK.sub (tys' := []) [] rfl
      have hDc := hD.sub (ws' := [(q21, .inr (14, [.int 0, .int 0, .int 0]))]) [8] (by decide) rfl
      have hFc := va_free (wc := [(q21, .inr (14, [.int 0, .int 0, .int 0]))]) hD hS hA [8] rfl
      refine gJ_v (isC := [8]) (isR := [0, 1, 2, 3, 4, 5, 6, 7]) (wr := [(q, .inr (15, [.ref q1, .ref q3, .ref q5, .ref q7, .ref q9, .ref q11, .int 0, .int 0, .int 0, .int 0, .int 0, .int 0, .long 0, .long 0])), (q1, .inl (t2, 5, .inr (.inr (.inr (.inr (fun _ => none)))))), (q3, .inl (t4, 12, .inr (.inr (.inr (.inr (fun _ => none)))))), (q5, .inl (t6, 4, .inr (.inr (.inr (.inr (va_up (fun _ => none) 0 (some q16))))))), (q7, .inl (t8, 90, .inr (.inr (.inr (.inr (fun _ => none)))))), (q9, .inl (t10, 30, .inr (.inr (.inr (.inr (fun _ => none)))))), (q11, .inr (10, [.long 0, .long 0])), (q16, .inr (14, [.int 110, .int 0, .int 0]))]) (va_runIN (As := []) (rest := [.ref q21, .int 1, .ref q5]) ⟨hx, hb, hml, hown, hta⟩ (c_X9_init l ) ⟨va_cnB 0 hta (gWI mw120) rfl rfl rfl (hG.M ("Foundrymark", 46, ⟨"Foundrymark$Supplier", "<init>", "()V"⟩) (by decide)) (hta _ mw119) (by decide +kernel) ⟨Nat.le_of_ble_eq_true rfl, Nat.le_of_ble_eq_true rfl⟩, rfl, (hta _ mw121)⟩ ⟨gS_blind, fun U hU hW => ⟨rfl, by rw [hU], by rw [hU]; exact hPc, va_K.moved hW.alike hKc, hDc.weaken (fun _ _ _ _ => trivial), hG.call hS hU hW hFc⟩⟩ rfl rfl hl.1 rfl (lv_room (Nat.le_of_ble_eq_true rfl)) dX10_init_78 ⟨Nat.le_of_ble_eq_true rfl, Nat.le_of_ble_eq_true rfl⟩) hP hD hS hK hFc rfl rfl (by decide) (by decide) (fun u23 H locs h24 hP hD hS hK => ?_)
      have hK : va_K D vwCl [(t2, .object "Foundrymark$Machine"), (t4, .object "Foundrymark$Part"), (t6, .object "Foundrymark$Supplier"), (t8, .object "Foundrymark$Lot"), (t10, .object "Foundrymark$Order")] s := hK
      have hP : va_P D vwCl [(q, .inr (15, [.ref q1, .ref q3, .ref q5, .ref q7, .ref q9, .ref q11, .int 0, .int 0, .int 0, .int 0, .int 0, .int 0, .long 0, .long 0])), (q1, .inl (t2, 5, .inr (.inr (.inr (.inr (fun _ => none)))))), (q3, .inl (t4, 12, .inr (.inr (.inr (.inr (fun _ => none)))))), (q5, .inl (t6, 4, .inr (.inr (.inr (.inr (va_up (fun _ => none) 0 (some q16))))))), (q7, .inl (t8, 90, .inr (.inr (.inr (.inr (fun _ => none)))))), (q9, .inl (t10, 30, .inr (.inr (.inr (.inr (fun _ => none)))))), (q11, .inr (10, [.long 0, .long 0])), (q16, .inr (14, [.int 110, .int 0, .int 0])), (q21, .inr (14, [.int 110, .int 0, .int 0]))] H := hP
      have hD : va_D A [(q, .inr (15, [.ref q1, .ref q3, .ref q5, .ref q7, .ref q9, .ref q11, .int 0, .int 0, .int 0, .int 0, .int 0, .int 0, .long 0, .long 0])), (q1, .inl (t2, 5, .inr (.inr (.inr (.inr (fun _ => none)))))), (q3, .inl (t4, 12, .inr (.inr (.inr (.inr (fun _ => none)))))), (q5, .inl (t6, 4, .inr (.inr (.inr (.inr (va_up (fun _ => none) 0 (some q16))))))), (q7, .inl (t8, 90, .inr (.inr (.inr (.inr (fun _ => none)))))), (q9, .inl (t10, 30, .inr (.inr (.inr (.inr (fun _ => none)))))), (q11, .inr (10, [.long 0, .long 0])), (q16, .inr (14, [.int 110, .int 0, .int 0])), (q21, .inr (14, [.int 110, .int 0, .int 0]))] := hD
      refine va_astq (r := (RX9, TX9, 3)) hx hb hK hP hD hS 3 2 8 14 rfl rfl rfl rfl (i := 1) (by unfold vp_in; decide) dX10_init_81 (fun H locs hP hD hS => ?_)
      have hP : va_P D vwCl [(q, .inr (15, [.ref q1, .ref q3, .ref q5, .ref q7, .ref q9, .ref q11, .int 0, .int 0, .int 0, .int 0, .int 0, .int 0, .long 0, .long 0])), (q1, .inl (t2, 5, .inr (.inr (.inr (.inr (fun _ => none)))))), (q3, .inl (t4, 12, .inr (.inr (.inr (.inr (fun _ => none)))))), (q5, .inl (t6, 4, .inr (.inr (.inr (.inr (va_up (va_up (fun _ => none) 0 (some q16)) 1 (some q21))))))), (q7, .inl (t8, 90, .inr (.inr (.inr (.inr (fun _ => none)))))), (q9, .inl (t10, 30, .inr (.inr (.inr (.inr (fun _ => none)))))), (q11, .inr (10, [.long 0, .long 0])), (q16, .inr (14, [.int 110, .int 0, .int 0])), (q21, .inr (14, [.int 110, .int 0, .int 0]))] H := hP
      have hD : va_D A [(q, .inr (15, [.ref q1, .ref q3, .ref q5, .ref q7, .ref q9, .ref q11, .int 0, .int 0, .int 0, .int 0, .int 0, .int 0, .long 0, .long 0])), (q1, .inl (t2, 5, .inr (.inr (.inr (.inr (fun _ => none)))))), (q3, .inl (t4, 12, .inr (.inr (.inr (.inr (fun _ => none)))))), (q5, .inl (t6, 4, .inr (.inr (.inr (.inr (va_up (va_up (fun _ => none) 0 (some q16)) 1 (some q21))))))), (q7, .inl (t8, 90, .inr (.inr (.inr (.inr (fun _ => none)))))), (q9, .inl (t10, 30, .inr (.inr (.inr (.inr (fun _ => none)))))), (q11, .inr (10, [.long 0, .long 0])), (q16, .inr (14, [.int 110, .int 0, .int 0])), (q21, .inr (14, [.int 110, .int 0, .int 0]))] := hD
      refine lv_iinc (v := 2) (lv' := [(1, .int 2), (0, .ref q)]) hx hb dX10_init_82 hl (k := 0) rfl (by decide) (by decide) rfl (fun ls hl => ?_)
      refine lv_goto (tgt := 60) hx hb dX10_init_85 (by decide) ?_
      refine lv_iload_n hx hb dX10_init_60 rfl (lv_at hl 0 rfl) ?_
      refine lv_aload_n hx hb dX10_init_61 rfl (lv_at hl 1 rfl) ?_
      refine va_get (D := D) (ci := 15) (v := .ref q5) (C := RX10) (T := TX10) (N := 14) hx hb hta iwX10 hown hK hP 0 rfl rfl 2 (by decide) (hta _ mw23) (fun _ h9 => h9) rfl dX10_init_62 ?_
      refine va_alen hx hb hK hP 3 2 rfl rfl (v := 4) rfl dX10_init_65 ?_
      refine lv_icmp_ge (tgt := 88) hx hb dX10_init_66 (by decide) (fun c25 => ?_) (fun c25 => ?_)
      · exact absurd c25 (by decide)
      · skip
        refine lv_aload_n hx hb dX10_init_69 rfl (lv_at hl 1 rfl) ?_
        refine va_get (D := D) (ci := 15) (v := .ref q5) (C := RX10) (T := TX10) (N := 14) hx hb hta iwX10 hown hK hP 0 rfl rfl 2 (by decide) (hta _ mw23) (fun _ h9 => h9) rfl dX10_init_70 ?_
        refine lv_iload_n hx hb dX10_init_73 rfl (lv_at hl 0 rfl) ?_
        refine va_new (ci := 14) (fs := [.int 0, .int 0, .int 0]) (C := RX9) (T := TX9) (N := 3) hx hb hta iwX9 tyX9 tyX9_ok hown (hta _ mw109) (hta _ mw118) (hta _ mw119) hK hP hD hS hA rfl (fun j hj => by rcases (show j = 0 ∨ j = 1 ∨ j = 2 by omega) with rfl | rfl | rfl <;> rfl) (Nat.le_of_ble_eq_true rfl) (Nat.le_of_ble_eq_true rfl) dX10_init_74 (fun q26 H hP hD hS => ?_)
        have hP : va_P D vwCl [(q, .inr (15, [.ref q1, .ref q3, .ref q5, .ref q7, .ref q9, .ref q11, .int 0, .int 0, .int 0, .int 0, .int 0, .int 0, .long 0, .long 0])), (q1, .inl (t2, 5, .inr (.inr (.inr (.inr (fun _ => none)))))), (q3, .inl (t4, 12, .inr (.inr (.inr (.inr (fun _ => none)))))), (q5, .inl (t6, 4, .inr (.inr (.inr (.inr (va_up (va_up (fun _ => none) 0 (some q16)) 1 (some q21))))))), (q7, .inl (t8, 90, .inr (.inr (.inr (.inr (fun _ => none)))))), (q9, .inl (t10, 30, .inr (.inr (.inr (.inr (fun _ => none)))))), (q11, .inr (10, [.long 0, .long 0])), (q16, .inr (14, [.int 110, .int 0, .int 0])), (q21, .inr (14, [.int 110, .int 0, .int 0])), (q26, .inr (14, [.int 0, .int 0, .int 0]))] H := hP
        have hD : va_D A [(q, .inr (15, [.ref q1, .ref q3, .ref q5, .ref q7, .ref q9, .ref q11, .int 0, .int 0, .int 0, .int 0, .int 0, .int 0, .long 0, .long 0])), (q1, .inl (t2, 5, .inr (.inr (.inr (.inr (fun _ => none)))))), (q3, .inl (t4, 12, .inr (.inr (.inr (.inr (fun _ => none)))))), (q5, .inl (t6, 4, .inr (.inr (.inr (.inr (va_up (va_up (fun _ => none) 0 (some q16)) 1 (some q21))))))), (q7, .inl (t8, 90, .inr (.inr (.inr (.inr (fun _ => none)))))), (q9, .inl (t10, 30, .inr (.inr (.inr (.inr (fun _ => none)))))), (q11, .inr (10, [.long 0, .long 0])), (q16, .inr (14, [.int 110, .int 0, .int 0])), (q21, .inr (14, [.int 110, .int 0, .int 0])), (q26, .inr (14, [.int 0, .int 0, .int 0]))] := hD
        refine lv_dup hx hb dX10_init_77 rfl ?_
        have hPc := hP.sub (ws' := [(q26, .inr (14, [.int 0, .int 0, .int 0]))]) [9] rfl
        have hKc := hK.sub (tys' := []) [] rfl
        have hDc := hD.sub (ws' := [(q26, .inr (14, [.int 0, .int 0, .int 0]))]) [9] (by decide) rfl
        have hFc := va_free (wc := [(q26, .inr (14, [.int 0, .int 0, .int 0]))]) hD hS hA [9] rfl
        refine gJ_v (isC := [9]) (isR := [0, 1, 2, 3, 4, 5, 6, 7, 8]) (wr := [(q, .inr (15, [.ref q1, .ref q3, .ref q5, .ref q7, .ref q9, .ref q11, .int 0, .int 0, .int 0, .int 0, .int 0, .int 0, .long 0, .long 0])), (q1, .inl (t2, 5, .inr (.inr (.inr (.inr (fun _ => none)))))), (q3, .inl (t4, 12, .inr (.inr (.inr (.inr (fun _ => none)))))), (q5, .inl (t6, 4, .inr (.inr (.inr (.inr (va_up (va_up (fun _ => none) 0 (some q16)) 1 (some q21))))))), (q7, .inl (t8, 90, .inr (.inr (.inr (.inr (fun _ => none)))))), (q9, .inl (t10, 30, .inr (.inr (.inr (.inr (fun _ => none)))))), (q11, .inr (10, [.long 0, .long 0])), (q16, .inr (14, [.int 110, .int 0, .int 0])), (q21, .inr (14, [.int 110, .int 0, .int 0]))]) (va_runIN (As := []) (rest := [.ref q26, .int 2, .ref q5]) ⟨hx, hb, hml, hown, hta⟩ (c_X9_init l ) ⟨va_cnB 0 hta (gWI mw120) rfl rfl rfl (hG.M ("Foundrymark", 46, ⟨"Foundrymark$Supplier", "<init>", "()V"⟩) (by decide)) (hta _ mw119) (by decide +kernel) ⟨Nat.le_of_ble_eq_true rfl, Nat.le_of_ble_eq_true rfl⟩, rfl, (hta _ mw121)⟩ ⟨gS_blind, fun U hU hW => ⟨rfl, by rw [hU], by rw [hU]; exact hPc, va_K.moved hW.alike hKc, hDc.weaken (fun _ _ _ _ => trivial), hG.call hS hU hW hFc⟩⟩ rfl rfl hl.1 rfl (lv_room (Nat.le_of_ble_eq_true rfl)) dX10_init_78 ⟨Nat.le_of_ble_eq_true rfl, Nat.le_of_ble_eq_true rfl⟩) hP hD hS hK hFc rfl rfl (by decide) (by decide) (fun u28 H locs h29 hP hD hS hK => ?_)
        have hK : va_K D vwCl [(t2, .object "Foundrymark$Machine"), (t4, .object "Foundrymark$Part"), (t6, .object "Foundrymark$Supplier"), (t8, .object "Foundrymark$Lot"), (t10, .object "Foundrymark$Order")] s := hK
        have hP : va_P D vwCl [(q, .inr (15, [.ref q1, .ref q3, .ref q5, .ref q7, .ref q9, .ref q11, .int 0, .int 0, .int 0, .int 0, .int 0, .int 0, .long 0, .long 0])), (q1, .inl (t2, 5, .inr (.inr (.inr (.inr (fun _ => none)))))), (q3, .inl (t4, 12, .inr (.inr (.inr (.inr (fun _ => none)))))), (q5, .inl (t6, 4, .inr (.inr (.inr (.inr (va_up (va_up (fun _ => none) 0 (some q16)) 1 (some q21))))))), (q7, .inl (t8, 90, .inr (.inr (.inr (.inr (fun _ => none)))))), (q9, .inl (t10, 30, .inr (.inr (.inr (.inr (fun _ => none)))))), (q11, .inr (10, [.long 0, .long 0])), (q16, .inr (14, [.int 110, .int 0, .int 0])), (q21, .inr (14, [.int 110, .int 0, .int 0])), (q26, .inr (14, [.int 110, .int 0, .int 0]))] H := hP
        have hD : va_D A [(q, .inr (15, [.ref q1, .ref q3, .ref q5, .ref q7, .ref q9, .ref q11, .int 0, .int 0, .int 0, .int 0, .int 0, .int 0, .long 0, .long 0])), (q1, .inl (t2, 5, .inr (.inr (.inr (.inr (fun _ => none)))))), (q3, .inl (t4, 12, .inr (.inr (.inr (.inr (fun _ => none)))))), (q5, .inl (t6, 4, .inr (.inr (.inr (.inr (va_up (va_up (fun _ => none) 0 (some q16)) 1 (some q21))))))), (q7, .inl (t8, 90, .inr (.inr (.inr (.inr (fun _ => none)))))), (q9, .inl (t10, 30, .inr (.inr (.inr (.inr (fun _ => none)))))), (q11, .inr (10, [.long 0, .long 0])), (q16, .inr (14, [.int 110, .int 0, .int 0])), (q21, .inr (14, [.int 110, .int 0, .int 0])), (q26, .inr (14, [.int 110, .int 0, .int 0]))] := hD
        refine va_astq (r := (RX9, TX9, 3)) hx hb hK hP hD hS 3 2 9 14 rfl rfl rfl rfl (i := 2) (by unfold vp_in; decide) dX10_init_81 (fun H locs hP hD hS => ?_)
        have hP : va_P D vwCl [(q, .inr (15, [.ref q1, .ref q3, .ref q5, .ref q7, .ref q9, .ref q11, .int 0, .int 0, .int 0, .int 0, .int 0, .int 0, .long 0, .long 0])), (q1, .inl (t2, 5, .inr (.inr (.inr (.inr (fun _ => none)))))), (q3, .inl (t4, 12, .inr (.inr (.inr (.inr (fun _ => none)))))), (q5, .inl (t6, 4, .inr (.inr (.inr (.inr (va_up (va_up (va_up (fun _ => none) 0 (some q16)) 1 (some q21)) 2 (some q26))))))), (q7, .inl (t8, 90, .inr (.inr (.inr (.inr (fun _ => none)))))), (q9, .inl (t10, 30, .inr (.inr (.inr (.inr (fun _ => none)))))), (q11, .inr (10, [.long 0, .long 0])), (q16, .inr (14, [.int 110, .int 0, .int 0])), (q21, .inr (14, [.int 110, .int 0, .int 0])), (q26, .inr (14, [.int 110, .int 0, .int 0]))] H := hP
        have hD : va_D A [(q, .inr (15, [.ref q1, .ref q3, .ref q5, .ref q7, .ref q9, .ref q11, .int 0, .int 0, .int 0, .int 0, .int 0, .int 0, .long 0, .long 0])), (q1, .inl (t2, 5, .inr (.inr (.inr (.inr (fun _ => none)))))), (q3, .inl (t4, 12, .inr (.inr (.inr (.inr (fun _ => none)))))), (q5, .inl (t6, 4, .inr (.inr (.inr (.inr (va_up (va_up (va_up (fun _ => none) 0 (some q16)) 1 (some q21)) 2 (some q26))))))), (q7, .inl (t8, 90, .inr (.inr (.inr (.inr (fun _ => none)))))), (q9, .inl (t10, 30, .inr (.inr (.inr (.inr (fun _ => none)))))), (q11, .inr (10, [.long 0, .long 0])), (q16, .inr (14, [.int 110, .int 0, .int 0])), (q21, .inr (14, [.int 110, .int 0, .int 0])), (q26, .inr (14, [.int 110, .int 0, .int 0]))] := hD
        refine lv_iinc (v := 3) (lv' := [(1, .int 3), (0, .ref q)]) hx hb dX10_init_82 hl (k := 0) rfl (by decide) (by decide) rfl (fun ls hl => ?_)
        refine lv_goto (tgt := 60) hx hb dX10_init_85 (by decide) ?_
        refine lv_iload_n hx hb dX10_init_60 rfl (lv_at hl 0 rfl) ?_
        refine lv_aload_n hx hb dX10_init_61 rfl (lv_at hl 1 rfl) ?_
        refine va_get (D := D) (ci := 15) (v := .ref q5) (C := RX10) (T := TX10) (N := 14) hx hb hta iwX10 hown hK hP 0 rfl rfl 2 (by decide) (hta _ mw23) (fun _ h9 => h9) rfl dX10_init_62 ?_
        refine va_alen hx hb hK hP 3 2 rfl rfl (v := 4) rfl dX10_init_65 ?_
        refine lv_icmp_ge (tgt := 88) hx hb dX10_init_66 (by decide) (fun c30 => ?_) (fun c30 => ?_)
        · exact absurd c30 (by decide)
        · skip
          refine lv_aload_n hx hb dX10_init_69 rfl (lv_at hl 1 rfl) ?_
          refine va_get (D := D) (ci := 15) (v := .ref q5) (C := RX10) (T := TX10) (N := 14) hx hb hta iwX10 hown hK hP 0 rfl rfl 2 (by decide) (hta _ mw23) (fun _ h9 => h9) rfl dX10_init_70 ?_
          refine lv_iload_n hx hb dX10_init_73 rfl (lv_at hl 0 rfl) ?_
          refine va_new (ci := 14) (fs := [.int 0, .int 0, .int 0]) (C := RX9) (T := TX9) (N := 3) hx hb hta iwX9 tyX9 tyX9_ok hown (hta _ mw109) (hta _ mw118) (hta _ mw119) hK hP hD hS hA rfl (fun j hj => by rcases (show j = 0 ∨ j = 1 ∨ j = 2 by omega) with rfl | rfl | rfl <;> rfl) (Nat.le_of_ble_eq_true rfl) (Nat.le_of_ble_eq_true rfl) dX10_init_74 (fun q31 H hP hD hS => ?_)
          have hP : va_P D vwCl [(q, .inr (15, [.ref q1, .ref q3, .ref q5, .ref q7, .ref q9, .ref q11, .int 0, .int 0, .int 0, .int 0, .int 0, .int 0, .long 0, .long 0])), (q1, .inl (t2, 5, .inr (.inr (.inr (.inr (fun _ => none)))))), (q3, .inl (t4, 12, .inr (.inr (.inr (.inr (fun _ => none)))))), (q5, .inl (t6, 4, .inr (.inr (.inr (.inr (va_up (va_up (va_up (fun _ => none) 0 (some q16)) 1 (some q21)) 2 (some q26))))))), (q7, .inl (t8, 90, .inr (.inr (.inr (.inr (fun _ => none)))))), (q9, .inl (t10, 30, .inr (.inr (.inr (.inr (fun _ => none)))))), (q11, .inr (10, [.long 0, .long 0])), (q16, .inr (14, [.int 110, .int 0, .int 0])), (q21, .inr (14, [.int 110, .int 0, .int 0])), (q26, .inr (14, [.int 110, .int 0, .int 0])), (q31, .inr (14, [.int 0, .int 0, .int 0]))] H := hP
          have hD : va_D A [(q, .inr (15, [.ref q1, .ref q3, .ref q5, .ref q7, .ref q9, .ref q11, .int 0, .int 0, .int 0, .int 0, .int 0, .int 0, .long 0, .long 0])), (q1, .inl (t2, 5, .inr (.inr (.inr (.inr (fun _ => none)))))), (q3, .inl (t4, 12, .inr (.inr (.inr (.inr (fun _ => none)))))), (q5, .inl (t6, 4, .inr (.inr (.inr (.inr (va_up (va_up (va_up (fun _ => none) 0 (some q16)) 1 (some q21)) 2 (some q26))))))), (q7, .inl (t8, 90, .inr (.inr (.inr (.inr (fun _ => none)))))), (q9, .inl (t10, 30, .inr (.inr (.inr (.inr (fun _ => none)))))), (q11, .inr (10, [.long 0, .long 0])), (q16, .inr (14, [.int 110, .int 0, .int 0])), (q21, .inr (14, [.int 110, .int 0, .int 0])), (q26, .inr (14, [.int 110, .int 0, .int 0])), (q31, .inr (14, [.int 0, .int 0, .int 0]))] := hD
          refine lv_dup hx hb dX10_init_77 rfl ?_
          have hPc := hP.sub (ws' := [(q31, .inr (14, [.int 0, .int 0, .int 0]))]) [10] rfl
          have hKc := hK.sub (tys' := []) [] rfl
          have hDc := hD.sub (ws' := [(q31, .inr (14, [.int 0, .int 0, .int 0]))]) [10] (by decide) rfl
          have hFc := va_free (wc := [(q31, .inr (14, [.int 0, .int 0, .int 0]))]) hD hS hA [10] rfl
          refine gJ_v (isC := [10]) (isR := [0, 1, 2, 3, 4, 5, 6, 7, 8, 9]) (wr := [(q, .inr (15, [.ref q1, .ref q3, .ref q5, .ref q7, .ref q9, .ref q11, .int 0, .int 0, .int 0, .int 0, .int 0, .int 0, .long 0, .long 0])), (q1, .inl (t2, 5, .inr (.inr (.inr (.inr (fun _ => none)))))), (q3, .inl (t4, 12, .inr (.inr (.inr (.inr (fun _ => none)))))), (q5, .inl (t6, 4, .inr (.inr (.inr (.inr (va_up (va_up (va_up (fun _ => none) 0 (some q16)) 1 (some q21)) 2 (some q26))))))), (q7, .inl (t8, 90, .inr (.inr (.inr (.inr (fun _ => none)))))), (q9, .inl (t10, 30, .inr (.inr (.inr (.inr (fun _ => none)))))), (q11, .inr (10, [.long 0, .long 0])), (q16, .inr (14, [.int 110, .int 0, .int 0])), (q21, .inr (14, [.int 110, .int 0, .int 0])), (q26, .inr (14, [.int 110, .int 0, .int 0]))]) (va_runIN (As := []) (rest := [.ref q31, .int 3, .ref q5]) ⟨hx, hb, hml, hown, hta⟩ (c_X9_init l ) ⟨va_cnB 0 hta (gWI mw120) rfl rfl rfl (hG.M ("Foundrymark", 46, ⟨"Foundrymark$Supplier", "<init>", "()V"⟩) (by decide)) (hta _ mw119) (by decide +kernel) ⟨Nat.le_of_ble_eq_true rfl, Nat.le_of_ble_eq_true rfl⟩, rfl, (hta _ mw121)⟩ ⟨gS_blind, fun U hU hW => ⟨rfl, by rw [hU], by rw [hU]; exact hPc, va_K.moved hW.alike hKc, hDc.weaken (fun _ _ _ _ => trivial), hG.call hS hU hW hFc⟩⟩ rfl rfl hl.1 rfl (lv_room (Nat.le_of_ble_eq_true rfl)) dX10_init_78 ⟨Nat.le_of_ble_eq_true rfl, Nat.le_of_ble_eq_true rfl⟩) hP hD hS hK hFc rfl rfl (by decide) (by decide) (fun u33 H locs h34 hP hD hS hK => ?_)
          have hK : va_K D vwCl [(t2, .object "Foundrymark$Machine"), (t4, .object "Foundrymark$Part"), (t6, .object "Foundrymark$Supplier"), (t8, .object "Foundrymark$Lot"), (t10, .object "Foundrymark$Order")] s := hK
          have hP : va_P D vwCl [(q, .inr (15, [.ref q1, .ref q3, .ref q5, .ref q7, .ref q9, .ref q11, .int 0, .int 0, .int 0, .int 0, .int 0, .int 0, .long 0, .long 0])), (q1, .inl (t2, 5, .inr (.inr (.inr (.inr (fun _ => none)))))), (q3, .inl (t4, 12, .inr (.inr (.inr (.inr (fun _ => none)))))), (q5, .inl (t6, 4, .inr (.inr (.inr (.inr (va_up (va_up (va_up (fun _ => none) 0 (some q16)) 1 (some q21)) 2 (some q26))))))), (q7, .inl (t8, 90, .inr (.inr (.inr (.inr (fun _ => none)))))), (q9, .inl (t10, 30, .inr (.inr (.inr (.inr (fun _ => none)))))), (q11, .inr (10, [.long 0, .long 0])), (q16, .inr (14, [.int 110, .int 0, .int 0])), (q21, .inr (14, [.int 110, .int 0, .int 0])), (q26, .inr (14, [.int 110, .int 0, .int 0])), (q31, .inr (14, [.int 110, .int 0, .int 0]))] H := hP
          have hD : va_D A [(q, .inr (15, [.ref q1, .ref q3, .ref q5, .ref q7, .ref q9, .ref q11, .int 0, .int 0, .int 0, .int 0, .int 0, .int 0, .long 0, .long 0])), (q1, .inl (t2, 5, .inr (.inr (.inr (.inr (fun _ => none)))))), (q3, .inl (t4, 12, .inr (.inr (.inr (.inr (fun _ => none)))))), (q5, .inl (t6, 4, .inr (.inr (.inr (.inr (va_up (va_up (va_up (fun _ => none) 0 (some q16)) 1 (some q21)) 2 (some q26))))))), (q7, .inl (t8, 90, .inr (.inr (.inr (.inr (fun _ => none)))))), (q9, .inl (t10, 30, .inr (.inr (.inr (.inr (fun _ => none)))))), (q11, .inr (10, [.long 0, .long 0])), (q16, .inr (14, [.int 110, .int 0, .int 0])), (q21, .inr (14, [.int 110, .int 0, .int 0])), (q26, .inr (14, [.int 110, .int 0, .int 0])), (q31, .inr (14, [.int 110, .int 0, .int 0]))] := hD
          refine va_astq (r := (RX9, TX9, 3)) hx hb hK hP hD hS 3 2 10 14 rfl rfl rfl rfl (i := 3) (by unfold vp_in; decide) dX10_init_81 (fun H locs hP hD hS => ?_)
          have hP : va_P D vwCl [(q, .inr (15, [.ref q1, .ref q3, .ref q5, .ref q7, .ref q9, .ref q11, .int 0, .int 0, .int 0, .int 0, .int 0, .int 0, .long 0, .long 0])), (q1, .inl (t2, 5, .inr (.inr (.inr (.inr (fun _ => none)))))), (q3, .inl (t4, 12, .inr (.inr (.inr (.inr (fun _ => none)))))), (q5, .inl (t6, 4, .inr (.inr (.inr (.inr (va_up (va_up (va_up (va_up (fun _ => none) 0 (some q16)) 1 (some q21)) 2 (some q26)) 3 (some q31))))))), (q7, .inl (t8, 90, .inr (.inr (.inr (.inr (fun _ => none)))))), (q9, .inl (t10, 30, .inr (.inr (.inr (.inr (fun _ => none)))))), (q11, .inr (10, [.long 0, .long 0])), (q16, .inr (14, [.int 110, .int 0, .int 0])), (q21, .inr (14, [.int 110, .int 0, .int 0])), (q26, .inr (14, [.int 110, .int 0, .int 0])), (q31, .inr (14, [.int 110, .int 0, .int 0]))] H := hP
          have hD : va_D A [(q, .inr (15, [.ref q1, .ref q3, .ref q5, .ref q7, .ref q9, .ref q11, .int 0, .int 0, .int 0, .int 0, .int 0, .int 0, .long 0, .long 0])), (q1, .inl (t2, 5, .inr (.inr (.inr (.inr (fun _ => none)))))), (q3, .inl (t4, 12, .inr (.inr (.inr (.inr (fun _ => none)))))), (q5, .inl (t6, 4, .inr (.inr (.inr (.inr (va_up (va_up (va_up (va_up (fun _ => none) 0 (some q16)) 1 (some q21)) 2 (some q26)) 3 (some q31))))))), (q7, .inl (t8, 90, .inr (.inr (.inr (.inr (fun _ => none)))))), (q9, .inl (t10, 30, .inr (.inr (.inr (.inr (fun _ => none)))))), (q11, .inr (10, [.long 0, .long 0])), (q16, .inr (14, [.int 110, .int 0, .int 0])), (q21, .inr (14, [.int 110, .int 0, .int 0])), (q26, .inr (14, [.int 110, .int 0, .int 0])), (q31, .inr (14, [.int 110, .int 0, .int 0]))] := hD
          refine lv_iinc (v := 4) (lv' := [(1, .int 4), (0, .ref q)]) hx hb dX10_init_82 hl (k := 0) rfl (by decide) (by decide) rfl (fun ls hl => ?_)
          refine lv_goto (tgt := 60) hx hb dX10_init_85 (by decide) ?_
          refine lv_iload_n hx hb dX10_init_60 rfl (lv_at hl 0 rfl) ?_
          refine lv_aload_n hx hb dX10_init_61 rfl (lv_at hl 1 rfl) ?_
          refine va_get (D := D) (ci := 15) (v := .ref q5) (C := RX10) (T := TX10) (N := 14) hx hb hta iwX10 hown hK hP 0 rfl rfl 2 (by decide) (hta _ mw23) (fun _ h9 => h9) rfl dX10_init_62 ?_
          refine va_alen hx hb hK hP 3 2 rfl rfl (v := 4) rfl dX10_init_65 ?_
          refine lv_icmp_ge (tgt := 88) hx hb dX10_init_66 (by decide) (fun c35 => ?_) (fun c35 => ?_)
          · skip
            have hP9 := hP.sub (ws' := [(q, .inr (15, [.ref q1, .ref q3, .ref q5, .ref q7, .ref q9, .ref q11, .int 0, .int 0, .int 0, .int 0, .int 0, .int 0, .long 0, .long 0])), (q1, .inl (t2, 5, .inr (.inr (.inr (.inr (fun _ => none)))))), (q3, .inl (t4, 12, .inr (.inr (.inr (.inr (fun _ => none)))))), (q5, .inl (t6, 4, .inr (.inr (.inr (.inr (va_up (va_up (va_up (va_up (fun _ => none) 0 (some q16)) 1 (some q21)) 2 (some q26)) 3 (some q31))))))), (q7, .inl (t8, 90, .inr (.inr (.inr (.inr (fun _ => none)))))), (q9, .inl (t10, 30, .inr (.inr (.inr (.inr (fun _ => none)))))), (q11, .inr (10, [.long 0, .long 0])), (q16, .inr (14, [.int 110, .int 0, .int 0])), (q21, .inr (14, [.int 110, .int 0, .int 0])), (q26, .inr (14, [.int 110, .int 0, .int 0])), (q31, .inr (14, [.int 110, .int 0, .int 0]))]) [0, 1, 2, 3, 4, 5, 6, 7, 8, 9, 10] rfl
            have hD9 := hD.sub (ws' := [(q, .inr (15, [.ref q1, .ref q3, .ref q5, .ref q7, .ref q9, .ref q11, .int 0, .int 0, .int 0, .int 0, .int 0, .int 0, .long 0, .long 0])), (q1, .inl (t2, 5, .inr (.inr (.inr (.inr (fun _ => none)))))), (q3, .inl (t4, 12, .inr (.inr (.inr (.inr (fun _ => none)))))), (q5, .inl (t6, 4, .inr (.inr (.inr (.inr (va_up (va_up (va_up (va_up (fun _ => none) 0 (some q16)) 1 (some q21)) 2 (some q26)) 3 (some q31))))))), (q7, .inl (t8, 90, .inr (.inr (.inr (.inr (fun _ => none)))))), (q9, .inl (t10, 30, .inr (.inr (.inr (.inr (fun _ => none)))))), (q11, .inr (10, [.long 0, .long 0])), (q16, .inr (14, [.int 110, .int 0, .int 0])), (q21, .inr (14, [.int 110, .int 0, .int 0])), (q26, .inr (14, [.int 110, .int 0, .int 0])), (q31, .inr (14, [.int 110, .int 0, .int 0]))]) [0, 1, 2, 3, 4, 5, 6, 7, 8, 9, 10] (by decide) rfl
            have hK9 := hK.sub (tys' := [(t2, .object "Foundrymark$Machine"), (t4, .object "Foundrymark$Part"), (t6, .object "Foundrymark$Supplier"), (t8, .object "Foundrymark$Lot"), (t10, .object "Foundrymark$Order")]) [0, 1, 2, 3, 4] rfl
            refine W.widen (k := 10) (n := 155) (Nat.le_of_ble_eq_true rfl) (Nat.le_of_ble_eq_true rfl) ?_
            exact W.vret hx hb hr (fun t ht hWm => ⟨⟨(fun k => match k with | 0 => q | 1 => q1 | 2 => q3 | 3 => q5 | 4 => q7 | 5 => q9 | 6 => q11 | 7 => q16 | 8 => q21 | 9 => q26 | _ => q31, fun k => match k with | 0 => t2 | 1 => t4 | 2 => t6 | 3 => t8 | _ => t10), rfl, trivial, ⟨by rw [ht]; exact hP9, va_K.moved hWm.alike hK9, hD9⟩⟩, hS.F ht⟩) hS.2.2 dX10_init_88
          · exact absurd (by decide) c35
end
