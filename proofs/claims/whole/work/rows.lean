section
-- ===== PART A: goes FIRST, ahead of the names: the tables' words, and 'selects' of the private methods out of them =====
/-- a private method of a class that the tables say can be made, by its rows of tables_1 -/
def lw_okq (q : MethodName × Nat) : Prop := (q.1.cls ≠ "java/lang/invoke/MethodHandle" ∧ q.1.cls ≠ "java/lang/invoke/VarHandle") ∧ Cond.instantiable q.1.cls q.2 ∈ tables_1 ∧ Cond.privateMethod q.1 ∈ tables_1 ∧ Cond.instanceMethod q.1 ∈ tables_1
theorem lw_p0 : lw_okq (⟨"FormsOfTwo", "found", "(I)I"⟩, 9) := ⟨⟨by decide +kernel, by decide +kernel⟩, List.mem_of_getElem? (i := 10) (by decide +kernel), List.mem_of_getElem? (i := 90) (by decide +kernel), List.mem_of_getElem? (i := 91) (by decide +kernel)⟩
theorem lw_p1 : lw_okq (⟨"FormsOfTwo", "refuseSheets", "(II)I"⟩, 9) := ⟨⟨by decide +kernel, by decide +kernel⟩, List.mem_of_getElem? (i := 10) (by decide +kernel), List.mem_of_getElem? (i := 102) (by decide +kernel), List.mem_of_getElem? (i := 103) (by decide +kernel)⟩
theorem lw_p2 : lw_okq (⟨"FormsOfTwo", "refuseItem", "(III)I"⟩, 9) := ⟨⟨by decide +kernel, by decide +kernel⟩, List.mem_of_getElem? (i := 10) (by decide +kernel), List.mem_of_getElem? (i := 118) (by decide +kernel), List.mem_of_getElem? (i := 119) (by decide +kernel)⟩
theorem lw_p3 : lw_okq (⟨"FormsOfTwo", "refuseForms", "(II)I"⟩, 9) := ⟨⟨by decide +kernel, by decide +kernel⟩, List.mem_of_getElem? (i := 10) (by decide +kernel), List.mem_of_getElem? (i := 147) (by decide +kernel), List.mem_of_getElem? (i := 148) (by decide +kernel)⟩
theorem lw_p4 : lw_okq (⟨"FormsOfTwo", "load", "(I[I)I"⟩, 9) := ⟨⟨by decide +kernel, by decide +kernel⟩, List.mem_of_getElem? (i := 10) (by decide +kernel), List.mem_of_getElem? (i := 177) (by decide +kernel), List.mem_of_getElem? (i := 178) (by decide +kernel)⟩
theorem lw_p5 : lw_okq (⟨"FormsOfTwo", "makeJoined", "(III)V"⟩, 9) := ⟨⟨by decide +kernel, by decide +kernel⟩, List.mem_of_getElem? (i := 10) (by decide +kernel), List.mem_of_getElem? (i := 192) (by decide +kernel), List.mem_of_getElem? (i := 193) (by decide +kernel)⟩
theorem lw_p6 : lw_okq (⟨"FormsOfTwo", "keepForm", "(II)I"⟩, 9) := ⟨⟨by decide +kernel, by decide +kernel⟩, List.mem_of_getElem? (i := 10) (by decide +kernel), List.mem_of_getElem? (i := 205) (by decide +kernel), List.mem_of_getElem? (i := 206) (by decide +kernel)⟩
theorem lw_p7 : lw_okq (⟨"FormsOfTwo", "makeMixed", "(IIIII)V"⟩, 9) := ⟨⟨by decide +kernel, by decide +kernel⟩, List.mem_of_getElem? (i := 10) (by decide +kernel), List.mem_of_getElem? (i := 219) (by decide +kernel), List.mem_of_getElem? (i := 220) (by decide +kernel)⟩
theorem lw_p8 : lw_okq (⟨"FormsOfTwo", "makeOverlap", "(III)V"⟩, 9) := ⟨⟨by decide +kernel, by decide +kernel⟩, List.mem_of_getElem? (i := 10) (by decide +kernel), List.mem_of_getElem? (i := 243) (by decide +kernel), List.mem_of_getElem? (i := 244) (by decide +kernel)⟩
theorem lw_p9 : lw_okq (⟨"FormsOfTwo", "refuseRoots", "(II)I"⟩, 9) := ⟨⟨by decide +kernel, by decide +kernel⟩, List.mem_of_getElem? (i := 10) (by decide +kernel), List.mem_of_getElem? (i := 274) (by decide +kernel), List.mem_of_getElem? (i := 275) (by decide +kernel)⟩
theorem lw_p10 : lw_okq (⟨"FormsOfTwo", "findRoots", "(I)I"⟩, 9) := ⟨⟨by decide +kernel, by decide +kernel⟩, List.mem_of_getElem? (i := 10) (by decide +kernel), List.mem_of_getElem? (i := 283) (by decide +kernel), List.mem_of_getElem? (i := 284) (by decide +kernel)⟩
theorem lw_p11 : lw_okq (⟨"FormsOfTwo", "makeCommon", "(II)I"⟩, 9) := ⟨⟨by decide +kernel, by decide +kernel⟩, List.mem_of_getElem? (i := 10) (by decide +kernel), List.mem_of_getElem? (i := 298) (by decide +kernel), List.mem_of_getElem? (i := 299) (by decide +kernel)⟩
theorem lw_p12 : lw_okq (⟨"FormsOfTwo$Grid", "set", "(III)V"⟩, 2) := ⟨⟨by decide +kernel, by decide +kernel⟩, List.mem_of_getElem? (i := 20) (by decide +kernel), List.mem_of_getElem? (i := 328) (by decide +kernel), List.mem_of_getElem? (i := 329) (by decide +kernel)⟩
theorem lw_p13 : lw_okq (⟨"FormsOfTwo$Grid", "rowWith", "(III)I"⟩, 2) := ⟨⟨by decide +kernel, by decide +kernel⟩, List.mem_of_getElem? (i := 20) (by decide +kernel), List.mem_of_getElem? (i := 340) (by decide +kernel), List.mem_of_getElem? (i := 341) (by decide +kernel)⟩
theorem lw_p14 : lw_okq (⟨"FormsOfTwo$Grid", "bringUp", "(III)V"⟩, 2) := ⟨⟨by decide +kernel, by decide +kernel⟩, List.mem_of_getElem? (i := 20) (by decide +kernel), List.mem_of_getElem? (i := 348) (by decide +kernel), List.mem_of_getElem? (i := 349) (by decide +kernel)⟩
theorem lw_p15 : lw_okq (⟨"FormsOfTwo$Grid", "divideRow", "(III)V"⟩, 2) := ⟨⟨by decide +kernel, by decide +kernel⟩, List.mem_of_getElem? (i := 20) (by decide +kernel), List.mem_of_getElem? (i := 352) (by decide +kernel), List.mem_of_getElem? (i := 353) (by decide +kernel)⟩
def lw_privs_1 : List (MethodName × Nat) := [(⟨"FormsOfTwo", "found", "(I)I"⟩, 9), (⟨"FormsOfTwo", "refuseSheets", "(II)I"⟩, 9), (⟨"FormsOfTwo", "refuseItem", "(III)I"⟩, 9), (⟨"FormsOfTwo", "refuseForms", "(II)I"⟩, 9), (⟨"FormsOfTwo", "load", "(I[I)I"⟩, 9), (⟨"FormsOfTwo", "makeJoined", "(III)V"⟩, 9), (⟨"FormsOfTwo", "keepForm", "(II)I"⟩, 9), (⟨"FormsOfTwo", "makeMixed", "(IIIII)V"⟩, 9), (⟨"FormsOfTwo", "makeOverlap", "(III)V"⟩, 9), (⟨"FormsOfTwo", "refuseRoots", "(II)I"⟩, 9), (⟨"FormsOfTwo", "findRoots", "(I)I"⟩, 9), (⟨"FormsOfTwo", "makeCommon", "(II)I"⟩, 9), (⟨"FormsOfTwo$Grid", "set", "(III)V"⟩, 2), (⟨"FormsOfTwo$Grid", "rowWith", "(III)I"⟩, 2), (⟨"FormsOfTwo$Grid", "bringUp", "(III)V"⟩, 2), (⟨"FormsOfTwo$Grid", "divideRow", "(III)V"⟩, 2)]
theorem lw_r1 : ∀ q ∈ lw_privs_1, lw_okq q := List.forall_mem_cons.mpr ⟨lw_p0, List.forall_mem_cons.mpr ⟨lw_p1, List.forall_mem_cons.mpr ⟨lw_p2, List.forall_mem_cons.mpr ⟨lw_p3, List.forall_mem_cons.mpr ⟨lw_p4, List.forall_mem_cons.mpr ⟨lw_p5, List.forall_mem_cons.mpr ⟨lw_p6, List.forall_mem_cons.mpr ⟨lw_p7, List.forall_mem_cons.mpr ⟨lw_p8, List.forall_mem_cons.mpr ⟨lw_p9, List.forall_mem_cons.mpr ⟨lw_p10, List.forall_mem_cons.mpr ⟨lw_p11, List.forall_mem_cons.mpr ⟨lw_p12, List.forall_mem_cons.mpr ⟨lw_p13, List.forall_mem_cons.mpr ⟨lw_p14, List.forall_mem_cons.mpr ⟨lw_p15, fun _ h => absurd h List.not_mem_nil⟩⟩⟩⟩⟩⟩⟩⟩⟩⟩⟩⟩⟩⟩⟩⟩
theorem lw_p16 : lw_okq (⟨"FormsOfTwo$Grid", "clearPlace", "(IIII)V"⟩, 2) := ⟨⟨by decide +kernel, by decide +kernel⟩, List.mem_of_getElem? (i := 20) (by decide +kernel), List.mem_of_getElem? (i := 357) (by decide +kernel), List.mem_of_getElem? (i := 358) (by decide +kernel)⟩
theorem lw_p17 : lw_okq (⟨"FormsOfTwo", "makePowers", "(ILFormsOfTwo$Sheet;I)Z"⟩, 9) := ⟨⟨by decide +kernel, by decide +kernel⟩, List.mem_of_getElem? (i := 10) (by decide +kernel), List.mem_of_getElem? (i := 369) (by decide +kernel), List.mem_of_getElem? (i := 370) (by decide +kernel)⟩
theorem lw_p18 : lw_okq (⟨"FormsOfTwo", "refuseLeads", "(III)I"⟩, 9) := ⟨⟨by decide +kernel, by decide +kernel⟩, List.mem_of_getElem? (i := 10) (by decide +kernel), List.mem_of_getElem? (i := 403) (by decide +kernel), List.mem_of_getElem? (i := 404) (by decide +kernel)⟩
theorem lw_p19 : lw_okq (⟨"FormsOfTwo", "loadLeads", "(II)I"⟩, 9) := ⟨⟨by decide +kernel, by decide +kernel⟩, List.mem_of_getElem? (i := 10) (by decide +kernel), List.mem_of_getElem? (i := 407) (by decide +kernel), List.mem_of_getElem? (i := 408) (by decide +kernel)⟩
theorem lw_p20 : lw_okq (⟨"FormsOfTwo", "isLead", "(III)Z"⟩, 9) := ⟨⟨by decide +kernel, by decide +kernel⟩, List.mem_of_getElem? (i := 10) (by decide +kernel), List.mem_of_getElem? (i := 414) (by decide +kernel), List.mem_of_getElem? (i := 415) (by decide +kernel)⟩
theorem lw_p21 : lw_okq (⟨"FormsOfTwo", "countWays", "(III)V"⟩, 9) := ⟨⟨by decide +kernel, by decide +kernel⟩, List.mem_of_getElem? (i := 10) (by decide +kernel), List.mem_of_getElem? (i := 432) (by decide +kernel), List.mem_of_getElem? (i := 433) (by decide +kernel)⟩
theorem lw_p22 : lw_okq (⟨"FormsOfTwo", "countSheets", "(Z)I"⟩, 9) := ⟨⟨by decide +kernel, by decide +kernel⟩, List.mem_of_getElem? (i := 10) (by decide +kernel), List.mem_of_getElem? (i := 440) (by decide +kernel), List.mem_of_getElem? (i := 441) (by decide +kernel)⟩
theorem lw_p23 : lw_okq (⟨"FormsOfTwoModel", "met", "(I)I"⟩, 17) := ⟨⟨by decide +kernel, by decide +kernel⟩, List.mem_of_getElem? (i := 456) (by decide +kernel), List.mem_of_getElem? (i := 526) (by decide +kernel), List.mem_of_getElem? (i := 527) (by decide +kernel)⟩
theorem lw_p24 : lw_okq (⟨"FormsOfTwoModel", "lacks", "(III)I"⟩, 17) := ⟨⟨by decide +kernel, by decide +kernel⟩, List.mem_of_getElem? (i := 456) (by decide +kernel), List.mem_of_getElem? (i := 538) (by decide +kernel), List.mem_of_getElem? (i := 539) (by decide +kernel)⟩
theorem lw_p25 : lw_okq (⟨"FormsOfTwoModel", "lacksOne", "(I)I"⟩, 17) := ⟨⟨by decide +kernel, by decide +kernel⟩, List.mem_of_getElem? (i := 456) (by decide +kernel), List.mem_of_getElem? (i := 556) (by decide +kernel), List.mem_of_getElem? (i := 557) (by decide +kernel)⟩
theorem lw_p26 : lw_okq (⟨"FormsOfTwoModel", "isForm", "(I)Z"⟩, 17) := ⟨⟨by decide +kernel, by decide +kernel⟩, List.mem_of_getElem? (i := 456) (by decide +kernel), List.mem_of_getElem? (i := 560) (by decide +kernel), List.mem_of_getElem? (i := 561) (by decide +kernel)⟩
theorem lw_p27 : lw_okq (⟨"FormsOfTwoModel", "takeF", "(I)V"⟩, 17) := ⟨⟨by decide +kernel, by decide +kernel⟩, List.mem_of_getElem? (i := 456) (by decide +kernel), List.mem_of_getElem? (i := 564) (by decide +kernel), List.mem_of_getElem? (i := 565) (by decide +kernel)⟩
theorem lw_p28 : lw_okq (⟨"FormsOfTwoModel", "valueF", "(II)I"⟩, 17) := ⟨⟨by decide +kernel, by decide +kernel⟩, List.mem_of_getElem? (i := 456) (by decide +kernel), List.mem_of_getElem? (i := 580) (by decide +kernel), List.mem_of_getElem? (i := 581) (by decide +kernel)⟩
theorem lw_p29 : lw_okq (⟨"FormsOfTwoModel", "lacksTwo", "(II)I"⟩, 17) := ⟨⟨by decide +kernel, by decide +kernel⟩, List.mem_of_getElem? (i := 456) (by decide +kernel), List.mem_of_getElem? (i := 592) (by decide +kernel), List.mem_of_getElem? (i := 593) (by decide +kernel)⟩
theorem lw_p30 : lw_okq (⟨"FormsOfTwoModel", "takeG", "(I)V"⟩, 17) := ⟨⟨by decide +kernel, by decide +kernel⟩, List.mem_of_getElem? (i := 456) (by decide +kernel), List.mem_of_getElem? (i := 596) (by decide +kernel), List.mem_of_getElem? (i := 597) (by decide +kernel)⟩
theorem lw_p31 : lw_okq (⟨"FormsOfTwoModel", "noughtH", "(I)V"⟩, 17) := ⟨⟨by decide +kernel, by decide +kernel⟩, List.mem_of_getElem? (i := 456) (by decide +kernel), List.mem_of_getElem? (i := 600) (by decide +kernel), List.mem_of_getElem? (i := 601) (by decide +kernel)⟩
def lw_privs_2 : List (MethodName × Nat) := [(⟨"FormsOfTwo$Grid", "clearPlace", "(IIII)V"⟩, 2), (⟨"FormsOfTwo", "makePowers", "(ILFormsOfTwo$Sheet;I)Z"⟩, 9), (⟨"FormsOfTwo", "refuseLeads", "(III)I"⟩, 9), (⟨"FormsOfTwo", "loadLeads", "(II)I"⟩, 9), (⟨"FormsOfTwo", "isLead", "(III)Z"⟩, 9), (⟨"FormsOfTwo", "countWays", "(III)V"⟩, 9), (⟨"FormsOfTwo", "countSheets", "(Z)I"⟩, 9), (⟨"FormsOfTwoModel", "met", "(I)I"⟩, 17), (⟨"FormsOfTwoModel", "lacks", "(III)I"⟩, 17), (⟨"FormsOfTwoModel", "lacksOne", "(I)I"⟩, 17), (⟨"FormsOfTwoModel", "isForm", "(I)Z"⟩, 17), (⟨"FormsOfTwoModel", "takeF", "(I)V"⟩, 17), (⟨"FormsOfTwoModel", "valueF", "(II)I"⟩, 17), (⟨"FormsOfTwoModel", "lacksTwo", "(II)I"⟩, 17), (⟨"FormsOfTwoModel", "takeG", "(I)V"⟩, 17), (⟨"FormsOfTwoModel", "noughtH", "(I)V"⟩, 17)]
theorem lw_r2 : ∀ q ∈ lw_privs_2, lw_okq q := List.forall_mem_cons.mpr ⟨lw_p16, List.forall_mem_cons.mpr ⟨lw_p17, List.forall_mem_cons.mpr ⟨lw_p18, List.forall_mem_cons.mpr ⟨lw_p19, List.forall_mem_cons.mpr ⟨lw_p20, List.forall_mem_cons.mpr ⟨lw_p21, List.forall_mem_cons.mpr ⟨lw_p22, List.forall_mem_cons.mpr ⟨lw_p23, List.forall_mem_cons.mpr ⟨lw_p24, List.forall_mem_cons.mpr ⟨lw_p25, List.forall_mem_cons.mpr ⟨lw_p26, List.forall_mem_cons.mpr ⟨lw_p27, List.forall_mem_cons.mpr ⟨lw_p28, List.forall_mem_cons.mpr ⟨lw_p29, List.forall_mem_cons.mpr ⟨lw_p30, List.forall_mem_cons.mpr ⟨lw_p31, fun _ h => absurd h List.not_mem_nil⟩⟩⟩⟩⟩⟩⟩⟩⟩⟩⟩⟩⟩⟩⟩⟩
theorem lw_p32 : lw_okq (⟨"FormsOfTwoModel", "lay", "(I)I"⟩, 17) := ⟨⟨by decide +kernel, by decide +kernel⟩, List.mem_of_getElem? (i := 456) (by decide +kernel), List.mem_of_getElem? (i := 604) (by decide +kernel), List.mem_of_getElem? (i := 605) (by decide +kernel)⟩
theorem lw_p33 : lw_okq (⟨"FormsOfTwoModel", "mixes", "(IIII)V"⟩, 17) := ⟨⟨by decide +kernel, by decide +kernel⟩, List.mem_of_getElem? (i := 456) (by decide +kernel), List.mem_of_getElem? (i := 612) (by decide +kernel), List.mem_of_getElem? (i := 613) (by decide +kernel)⟩
theorem lw_p34 : lw_okq (⟨"FormsOfTwoModel", "isNoughtF", "()Z"⟩, 17) := ⟨⟨by decide +kernel, by decide +kernel⟩, List.mem_of_getElem? (i := 456) (by decide +kernel), List.mem_of_getElem? (i := 640) (by decide +kernel), List.mem_of_getElem? (i := 641) (by decide +kernel)⟩
theorem lw_p35 : lw_okq (⟨"FormsOfTwoModel", "isNoughtG", "()Z"⟩, 17) := ⟨⟨by decide +kernel, by decide +kernel⟩, List.mem_of_getElem? (i := 456) (by decide +kernel), List.mem_of_getElem? (i := 644) (by decide +kernel), List.mem_of_getElem? (i := 645) (by decide +kernel)⟩
theorem lw_p36 : lw_okq (⟨"FormsOfTwoModel", "lacksRoots", "(I)I"⟩, 17) := ⟨⟨by decide +kernel, by decide +kernel⟩, List.mem_of_getElem? (i := 456) (by decide +kernel), List.mem_of_getElem? (i := 652) (by decide +kernel), List.mem_of_getElem? (i := 653) (by decide +kernel)⟩
theorem lw_p37 : lw_okq (⟨"FormsOfTwoModel", "isRoot", "(I)Z"⟩, 17) := ⟨⟨by decide +kernel, by decide +kernel⟩, List.mem_of_getElem? (i := 456) (by decide +kernel), List.mem_of_getElem? (i := 656) (by decide +kernel), List.mem_of_getElem? (i := 657) (by decide +kernel)⟩
theorem lw_p38 : lw_okq (⟨"FormsOfTwoModel", "eliminate", "(II)I"⟩, 17) := ⟨⟨by decide +kernel, by decide +kernel⟩, List.mem_of_getElem? (i := 456) (by decide +kernel), List.mem_of_getElem? (i := 672) (by decide +kernel), List.mem_of_getElem? (i := 673) (by decide +kernel)⟩
theorem lw_p39 : lw_okq (⟨"FormsOfTwoModel", "lacksLeads", "(II)I"⟩, 17) := ⟨⟨by decide +kernel, by decide +kernel⟩, List.mem_of_getElem? (i := 456) (by decide +kernel), List.mem_of_getElem? (i := 696) (by decide +kernel), List.mem_of_getElem? (i := 697) (by decide +kernel)⟩
theorem lw_p40 : lw_okq (⟨"FormsOfTwoModel", "leadOf", "(II)I"⟩, 17) := ⟨⟨by decide +kernel, by decide +kernel⟩, List.mem_of_getElem? (i := 456) (by decide +kernel), List.mem_of_getElem? (i := 700) (by decide +kernel), List.mem_of_getElem? (i := 701) (by decide +kernel)⟩
theorem lw_p41 : lw_okq (⟨"FormsOfTwoModel", "leadsBy", "(IIII)Z"⟩, 17) := ⟨⟨by decide +kernel, by decide +kernel⟩, List.mem_of_getElem? (i := 456) (by decide +kernel), List.mem_of_getElem? (i := 704) (by decide +kernel), List.mem_of_getElem? (i := 705) (by decide +kernel)⟩
theorem lw_p42 : lw_okq (⟨"FormsOfTwoModel", "waysOf", "(III)I"⟩, 17) := ⟨⟨by decide +kernel, by decide +kernel⟩, List.mem_of_getElem? (i := 456) (by decide +kernel), List.mem_of_getElem? (i := 716) (by decide +kernel), List.mem_of_getElem? (i := 717) (by decide +kernel)⟩
def lw_privs_3 : List (MethodName × Nat) := [(⟨"FormsOfTwoModel", "lay", "(I)I"⟩, 17), (⟨"FormsOfTwoModel", "mixes", "(IIII)V"⟩, 17), (⟨"FormsOfTwoModel", "isNoughtF", "()Z"⟩, 17), (⟨"FormsOfTwoModel", "isNoughtG", "()Z"⟩, 17), (⟨"FormsOfTwoModel", "lacksRoots", "(I)I"⟩, 17), (⟨"FormsOfTwoModel", "isRoot", "(I)Z"⟩, 17), (⟨"FormsOfTwoModel", "eliminate", "(II)I"⟩, 17), (⟨"FormsOfTwoModel", "lacksLeads", "(II)I"⟩, 17), (⟨"FormsOfTwoModel", "leadOf", "(II)I"⟩, 17), (⟨"FormsOfTwoModel", "leadsBy", "(IIII)Z"⟩, 17), (⟨"FormsOfTwoModel", "waysOf", "(III)I"⟩, 17)]
theorem lw_r3 : ∀ q ∈ lw_privs_3, lw_okq q := List.forall_mem_cons.mpr ⟨lw_p32, List.forall_mem_cons.mpr ⟨lw_p33, List.forall_mem_cons.mpr ⟨lw_p34, List.forall_mem_cons.mpr ⟨lw_p35, List.forall_mem_cons.mpr ⟨lw_p36, List.forall_mem_cons.mpr ⟨lw_p37, List.forall_mem_cons.mpr ⟨lw_p38, List.forall_mem_cons.mpr ⟨lw_p39, List.forall_mem_cons.mpr ⟨lw_p40, List.forall_mem_cons.mpr ⟨lw_p41, List.forall_mem_cons.mpr ⟨lw_p42, fun _ h => absurd h List.not_mem_nil⟩⟩⟩⟩⟩⟩⟩⟩⟩⟩⟩
def lw_privs : List (MethodName × Nat) := lw_privs_1 ++ (lw_privs_2 ++ (lw_privs_3))
def lw_tbl : List Cond := k2_sels lw_privs ++ tables_1
theorem lw_privs_ok : ∀ q ∈ lw_privs, lw_okq q := by
  show ∀ q ∈ lw_privs_1 ++ (lw_privs_2 ++ (lw_privs_3)), lw_okq q
  exact List.forall_mem_append.mpr ⟨lw_r1, List.forall_mem_append.mpr ⟨lw_r2, lw_r3⟩⟩
end
section
def RX0 : String := "FormsOfTwo$Grid"
def TX0 : u_T := fun k => match k with
  | 0 => ("FormsOfTwo$Grid", "cells", "[I", true)
  | _ => ("FormsOfTwo$Grid", "product", "I", false)
def tyX0 : Nat → FieldType := fun k => match k with
  | 0 => .array .int
  | _ => .int
abbrev wsX00 : List Cond := u_ws RX0 TX0 2
theorem nmX0 : ∀ a, a < 2 → ∀ b, b < 2 → a ≠ b → (TX0 a).2.1 ≠ (TX0 b).2.1 := by decide +kernel
theorem tyX0_ok : ∀ k, k < 2 → parseFieldDescriptor (TX0 k).2.2.1 = some (tyX0 k) := by decide +kernel
abbrev cX0_init : ByteArray := prog_2_method_1_code
def yX0_init : MethodName := ⟨RX0, "<init>", "()V"⟩
abbrev cX0_at : ByteArray := prog_2_method_2_code
def yX0_at : MethodName := ⟨RX0, "at", "(II)I"⟩
abbrev cX0_set : ByteArray := prog_2_method_3_code
def yX0_set : MethodName := ⟨RX0, "set", "(III)V"⟩
abbrev cX0_clear : ByteArray := prog_2_method_4_code
def yX0_clear : MethodName := ⟨RX0, "clear", "()V"⟩
abbrev cX0_layStairs : ByteArray := prog_2_method_5_code
def yX0_layStairs : MethodName := ⟨RX0, "layStairs", "([IIII)V"⟩
abbrev cX0_laySquare : ByteArray := prog_2_method_6_code
def yX0_laySquare : MethodName := ⟨RX0, "laySquare", "([III)V"⟩
abbrev cX0_layPowers : ByteArray := prog_2_method_7_code
def yX0_layPowers : MethodName := ⟨RX0, "layPowers", "(LFormsOfTwo$Sheet;I[II)V"⟩
abbrev cX0_determinant : ByteArray := prog_2_method_8_code
def yX0_determinant : MethodName := ⟨RX0, "determinant", "(I)I"⟩
abbrev cX0_reduce : ByteArray := prog_2_method_9_code
def yX0_reduce : MethodName := ⟨RX0, "reduce", "(III)I"⟩
abbrev cX0_rowWith : ByteArray := prog_2_method_10_code
def yX0_rowWith : MethodName := ⟨RX0, "rowWith", "(III)I"⟩
abbrev cX0_bringUp : ByteArray := prog_2_method_11_code
def yX0_bringUp : MethodName := ⟨RX0, "bringUp", "(III)V"⟩
abbrev cX0_divideRow : ByteArray := prog_2_method_12_code
def yX0_divideRow : MethodName := ⟨RX0, "divideRow", "(III)V"⟩
abbrev cX0_clearPlace : ByteArray := prog_2_method_13_code
def yX0_clearPlace : MethodName := ⟨RX0, "clearPlace", "(IIII)V"⟩
def RX1 : String := "FormsOfTwo$Numbers"
def TX1 : u_T := fun k => match k with
  | _ => ("", "", "", false)
def tyX1 : Nat → FieldType := fun k => match k with
  | _ => .int
abbrev wsX10 : List Cond := u_ws RX1 TX1 0
theorem nmX1 : ∀ a, a < 0 → ∀ b, b < 0 → a ≠ b → (TX1 a).2.1 ≠ (TX1 b).2.1 := by decide +kernel
theorem tyX1_ok : ∀ k, k < 0 → parseFieldDescriptor (TX1 k).2.2.1 = some (tyX1 k) := by decide +kernel
abbrev cX1_reduced : ByteArray := prog_3_method_2_code
def yX1_reduced : MethodName := ⟨RX1, "reduced", "(I)I"⟩
abbrev cX1_power : ByteArray := prog_3_method_3_code
def yX1_power : MethodName := ⟨RX1, "power", "(II)I"⟩
abbrev cX1_inverse : ByteArray := prog_3_method_4_code
def yX1_inverse : MethodName := ⟨RX1, "inverse", "(I)I"⟩
abbrev cX1_factorial : ByteArray := prog_3_method_5_code
def yX1_factorial : MethodName := ⟨RX1, "factorial", "(I)I"⟩
abbrev cX1_choose : ByteArray := prog_3_method_6_code
def yX1_choose : MethodName := ⟨RX1, "choose", "(II)I"⟩
def RX2 : String := "FormsOfTwo$Rows"
def TX2 : u_T := fun k => match k with
  | _ => ("", "", "", false)
def tyX2 : Nat → FieldType := fun k => match k with
  | _ => .int
abbrev wsX20 : List Cond := u_ws RX2 TX2 0
theorem nmX2 : ∀ a, a < 0 → ∀ b, b < 0 → a ≠ b → (TX2 a).2.1 ≠ (TX2 b).2.1 := by decide +kernel
theorem tyX2_ok : ∀ k, k < 0 → parseFieldDescriptor (TX2 k).2.2.1 = some (tyX2 k) := by decide +kernel
abbrev cX2_clear : ByteArray := prog_4_method_2_code
def yX2_clear : MethodName := ⟨RX2, "clear", "([I)V"⟩
abbrev cX2_multiply : ByteArray := prog_4_method_3_code
def yX2_multiply : MethodName := ⟨RX2, "multiply", "([II)V"⟩
abbrev cX2_addTimes : ByteArray := prog_4_method_4_code
def yX2_addTimes : MethodName := ⟨RX2, "addTimes", "([I[II)V"⟩
abbrev cX2_addProduct : ByteArray := prog_4_method_5_code
def yX2_addProduct : MethodName := ⟨RX2, "addProduct", "([I[II[III)V"⟩
abbrev cX2_timesLine : ByteArray := prog_4_method_6_code
def yX2_timesLine : MethodName := ⟨RX2, "timesLine", "([IIII)V"⟩
abbrev cX2_addPower : ByteArray := prog_4_method_7_code
def yX2_addPower : MethodName := ⟨RX2, "addPower", "([IIII)V"⟩
abbrev cX2_divideByChoices : ByteArray := prog_4_method_8_code
def yX2_divideByChoices : MethodName := ⟨RX2, "divideByChoices", "([II)V"⟩
abbrev cX2_changed : ByteArray := prog_4_method_9_code
def yX2_changed : MethodName := ⟨RX2, "changed", "([IIII[I)V"⟩
abbrev cX2_changeByX : ByteArray := prog_4_method_10_code
def yX2_changeByX : MethodName := ⟨RX2, "changeByX", "([II)V"⟩
abbrev cX2_changeByY : ByteArray := prog_4_method_11_code
def yX2_changeByY : MethodName := ⟨RX2, "changeByY", "([II)V"⟩
abbrev cX2_valueAt : ByteArray := prog_4_method_12_code
def yX2_valueAt : MethodName := ⟨RX2, "valueAt", "([IIII)I"⟩
abbrev cX2_ratio : ByteArray := prog_4_method_13_code
def yX2_ratio : MethodName := ⟨RX2, "ratio", "([I[II)I"⟩
abbrev cX2_valueAtPlace : ByteArray := prog_4_method_14_code
def yX2_valueAtPlace : MethodName := ⟨RX2, "valueAtPlace", "([III)I"⟩
abbrev cX2_strip : ByteArray := prog_4_method_15_code
def yX2_strip : MethodName := ⟨RX2, "strip", "([II)I"⟩
abbrev cX2_lower : ByteArray := prog_4_method_16_code
def yX2_lower : MethodName := ⟨RX2, "lower", "([II[II)I"⟩
def RX3 : String := "FormsOfTwo$Sheet"
def TX3 : u_T := fun k => match k with
  | 0 => ("FormsOfTwo$Sheet", "items", "[I", true)
  | 1 => ("FormsOfTwo$Sheet", "kind", "I", false)
  | _ => ("FormsOfTwo$Sheet", "size", "I", false)
def tyX3 : Nat → FieldType := fun k => match k with
  | 0 => .array .int
  | 1 => .int
  | _ => .int
abbrev wsX30 : List Cond := u_ws RX3 TX3 3
theorem nmX3 : ∀ a, a < 3 → ∀ b, b < 3 → a ≠ b → (TX3 a).2.1 ≠ (TX3 b).2.1 := by decide +kernel
theorem tyX3_ok : ∀ k, k < 3 → parseFieldDescriptor (TX3 k).2.2.1 = some (tyX3 k) := by decide +kernel
abbrev cX3_init : ByteArray := prog_5_method_1_code
def yX3_init : MethodName := ⟨RX3, "<init>", "()V"⟩
abbrev cX3_isLost : ByteArray := prog_5_method_2_code
def yX3_isLost : MethodName := ⟨RX3, "isLost", "()Z"⟩
abbrev cX3_isForm : ByteArray := prog_5_method_3_code
def yX3_isForm : MethodName := ⟨RX3, "isForm", "()Z"⟩
abbrev cX3_isNought : ByteArray := prog_5_method_4_code
def yX3_isNought : MethodName := ⟨RX3, "isNought", "()Z"⟩
abbrev cX3_top : ByteArray := prog_5_method_5_code
def yX3_top : MethodName := ⟨RX3, "top", "()I"⟩
abbrev cX3_number : ByteArray := prog_5_method_6_code
def yX3_number : MethodName := ⟨RX3, "number", "(I)I"⟩
abbrev cX3_holds : ByteArray := prog_5_method_7_code
def yX3_holds : MethodName := ⟨RX3, "holds", "(II)Z"⟩
abbrev cX3_startsUnlike : ByteArray := prog_5_method_8_code
def yX3_startsUnlike : MethodName := ⟨RX3, "startsUnlike", "(I)Z"⟩
abbrev cX3_forget : ByteArray := prog_5_method_9_code
def yX3_forget : MethodName := ⟨RX3, "forget", "()V"⟩
abbrev cX3_renew : ByteArray := prog_5_method_10_code
def yX3_renew : MethodName := ⟨RX3, "renew", "(II)V"⟩
abbrev cX3_store : ByteArray := prog_5_method_11_code
def yX3_store : MethodName := ⟨RX3, "store", "(II)V"⟩
abbrev cX3_become : ByteArray := prog_5_method_12_code
def yX3_become : MethodName := ⟨RX3, "become", "([II)V"⟩
abbrev cX3_addTo : ByteArray := prog_5_method_13_code
def yX3_addTo : MethodName := ⟨RX3, "addTo", "(J)J"⟩
def RX4 : String := "FormsOfTwo"
def TX4 : u_T := fun k => match k with
  | 0 => ("FormsOfTwo", "sheets", "[LFormsOfTwo$Sheet;", true)
  | 1 => ("FormsOfTwo", "latestFinding", "I", false)
  | 2 => ("FormsOfTwo", "first", "[I", true)
  | 3 => ("FormsOfTwo", "second", "[I", true)
  | 4 => ("FormsOfTwo", "third", "[I", true)
  | 5 => ("FormsOfTwo", "fourth", "[I", true)
  | 6 => ("FormsOfTwo", "made", "[I", true)
  | 7 => ("FormsOfTwo", "grid", "LFormsOfTwo$Grid;", true)
  | _ => ("FormsOfTwo", "ways", "[I", true)
def tyX4 : Nat → FieldType := fun k => match k with
  | 0 => .array (.object "FormsOfTwo$Sheet")
  | 1 => .int
  | 2 => .array .int
  | 3 => .array .int
  | 4 => .array .int
  | 5 => .array .int
  | 6 => .array .int
  | 7 => .object "FormsOfTwo$Grid"
  | _ => .array .int
abbrev wsX40 : List Cond := u_ws RX4 TX4 9
theorem nmX4 : ∀ a, a < 9 → ∀ b, b < 9 → a ≠ b → (TX4 a).2.1 ≠ (TX4 b).2.1 := by decide +kernel
theorem tyX4_ok : ∀ k, k < 9 → parseFieldDescriptor (TX4 k).2.2.1 = some (tyX4 k) := by decide +kernel
abbrev cX4_init : ByteArray := prog_1_method_1_code
def yX4_init : MethodName := ⟨RX4, "<init>", "()V"⟩
abbrev cX4_sheet : ByteArray := prog_1_method_2_code
def yX4_sheet : MethodName := ⟨RX4, "sheet", "(III)I"⟩
abbrev cX4_lose : ByteArray := prog_1_method_3_code
def yX4_lose : MethodName := ⟨RX4, "lose", "(I)I"⟩
abbrev cX4_put : ByteArray := prog_1_method_4_code
def yX4_put : MethodName := ⟨RX4, "put", "(IIII)I"⟩
abbrev cX4_get : ByteArray := prog_1_method_5_code
def yX4_get : MethodName := ⟨RX4, "get", "(III)I"⟩
abbrev cX4_copy : ByteArray := prog_1_method_6_code
def yX4_copy : MethodName := ⟨RX4, "copy", "(IIIII)I"⟩
abbrev cX4_term : ByteArray := prog_1_method_7_code
def yX4_term : MethodName := ⟨RX4, "term", "(II)I"⟩
abbrev cX4_degree : ByteArray := prog_1_method_8_code
def yX4_degree : MethodName := ⟨RX4, "degree", "(I)I"⟩
abbrev cX4_value : ByteArray := prog_1_method_9_code
def yX4_value : MethodName := ⟨RX4, "value", "(III)I"⟩
abbrev cX4_join : ByteArray := prog_1_method_10_code
def yX4_join : MethodName := ⟨RX4, "join", "(IIII)I"⟩
abbrev cX4_mix : ByteArray := prog_1_method_11_code
def yX4_mix : MethodName := ⟨RX4, "mix", "(IIIIII)I"⟩
abbrev cX4_change : ByteArray := prog_1_method_12_code
def yX4_change : MethodName := ⟨RX4, "change", "(III)I"⟩
abbrev cX4_overlap : ByteArray := prog_1_method_13_code
def yX4_overlap : MethodName := ⟨RX4, "overlap", "(IIII)I"⟩
abbrev cX4_alike : ByteArray := prog_1_method_14_code
def yX4_alike : MethodName := ⟨RX4, "alike", "(II)I"⟩
abbrev cX4_roots : ByteArray := prog_1_method_15_code
def yX4_roots : MethodName := ⟨RX4, "roots", "(I)I"⟩
abbrev cX4_root : ByteArray := prog_1_method_16_code
def yX4_root : MethodName := ⟨RX4, "root", "(II)I"⟩
abbrev cX4_common : ByteArray := prog_1_method_17_code
def yX4_common : MethodName := ⟨RX4, "common", "(III)I"⟩
abbrev cX4_result : ByteArray := prog_1_method_18_code
def yX4_result : MethodName := ⟨RX4, "result", "(II)I"⟩
abbrev cX4_powers : ByteArray := prog_1_method_19_code
def yX4_powers : MethodName := ⟨RX4, "powers", "(IIII)I"⟩
abbrev cX4_build : ByteArray := prog_1_method_20_code
def yX4_build : MethodName := ⟨RX4, "build", "(IIIII)I"⟩
abbrev cX4_rank : ByteArray := prog_1_method_21_code
def yX4_rank : MethodName := ⟨RX4, "rank", "(II)I"⟩
abbrev cX4_leads : ByteArray := prog_1_method_22_code
def yX4_leads : MethodName := ⟨RX4, "leads", "(III)I"⟩
abbrev cX4_lead : ByteArray := prog_1_method_23_code
def yX4_lead : MethodName := ⟨RX4, "lead", "(IIII)I"⟩
abbrev cX4_staying : ByteArray := prog_1_method_24_code
def yX4_staying : MethodName := ⟨RX4, "staying", "(III)I"⟩
abbrev cX4_count : ByteArray := prog_1_method_25_code
def yX4_count : MethodName := ⟨RX4, "count", "(I)I"⟩
abbrev cX4_digest : ByteArray := prog_1_method_26_code
def yX4_digest : MethodName := ⟨RX4, "digest", "()J"⟩
abbrev cX4_noSheet : ByteArray := prog_1_method_27_code
def yX4_noSheet : MethodName := ⟨RX4, "noSheet", "(I)Z"⟩
abbrev cX4_noKind : ByteArray := prog_1_method_28_code
def yX4_noKind : MethodName := ⟨RX4, "noKind", "(I)Z"⟩
abbrev cX4_found : ByteArray := prog_1_method_29_code
def yX4_found : MethodName := ⟨RX4, "found", "(I)I"⟩
abbrev cX4_refuseSheets : ByteArray := prog_1_method_30_code
def yX4_refuseSheets : MethodName := ⟨RX4, "refuseSheets", "(II)I"⟩
abbrev cX4_refuseItem : ByteArray := prog_1_method_31_code
def yX4_refuseItem : MethodName := ⟨RX4, "refuseItem", "(III)I"⟩
abbrev cX4_refuseForms : ByteArray := prog_1_method_32_code
def yX4_refuseForms : MethodName := ⟨RX4, "refuseForms", "(II)I"⟩
abbrev cX4_refuseRoots : ByteArray := prog_1_method_33_code
def yX4_refuseRoots : MethodName := ⟨RX4, "refuseRoots", "(II)I"⟩
abbrev cX4_refuseLeads : ByteArray := prog_1_method_34_code
def yX4_refuseLeads : MethodName := ⟨RX4, "refuseLeads", "(III)I"⟩
abbrev cX4_load : ByteArray := prog_1_method_35_code
def yX4_load : MethodName := ⟨RX4, "load", "(I[I)I"⟩
abbrev cX4_keepForm : ByteArray := prog_1_method_36_code
def yX4_keepForm : MethodName := ⟨RX4, "keepForm", "(II)I"⟩
abbrev cX4_countSheets : ByteArray := prog_1_method_37_code
def yX4_countSheets : MethodName := ⟨RX4, "countSheets", "(Z)I"⟩
abbrev cX4_canJoin : ByteArray := prog_1_method_38_code
def yX4_canJoin : MethodName := ⟨RX4, "canJoin", "(III)Z"⟩
abbrev cX4_makeJoined : ByteArray := prog_1_method_39_code
def yX4_makeJoined : MethodName := ⟨RX4, "makeJoined", "(III)V"⟩
abbrev cX4_makeMixed : ByteArray := prog_1_method_40_code
def yX4_makeMixed : MethodName := ⟨RX4, "makeMixed", "(IIIII)V"⟩
abbrev cX4_makeOverlap : ByteArray := prog_1_method_41_code
def yX4_makeOverlap : MethodName := ⟨RX4, "makeOverlap", "(III)V"⟩
abbrev cX4_findRoots : ByteArray := prog_1_method_42_code
def yX4_findRoots : MethodName := ⟨RX4, "findRoots", "(I)I"⟩
abbrev cX4_makeCommon : ByteArray := prog_1_method_43_code
def yX4_makeCommon : MethodName := ⟨RX4, "makeCommon", "(II)I"⟩
abbrev cX4_makePowers : ByteArray := prog_1_method_44_code
def yX4_makePowers : MethodName := ⟨RX4, "makePowers", "(ILFormsOfTwo$Sheet;I)Z"⟩
abbrev cX4_tablesWithin : ByteArray := prog_1_method_45_code
def yX4_tablesWithin : MethodName := ⟨RX4, "tablesWithin", "(I)I"⟩
abbrev cX4_entry : ByteArray := prog_1_method_46_code
def yX4_entry : MethodName := ⟨RX4, "entry", "(III)I"⟩
abbrev cX4_codeOf : ByteArray := prog_1_method_47_code
def yX4_codeOf : MethodName := ⟨RX4, "codeOf", "(II)I"⟩
abbrev cX4_loadLeads : ByteArray := prog_1_method_48_code
def yX4_loadLeads : MethodName := ⟨RX4, "loadLeads", "(II)I"⟩
abbrev cX4_isLead : ByteArray := prog_1_method_49_code
def yX4_isLead : MethodName := ⟨RX4, "isLead", "(III)Z"⟩
abbrev cX4_countWays : ByteArray := prog_1_method_50_code
def yX4_countWays : MethodName := ⟨RX4, "countWays", "(III)V"⟩
def RX5 : String := "FormsOfTwoModel"
def TX5 : u_T := fun k => match k with
  | 0 => ("FormsOfTwoModel", "kinds", "[I", true)
  | 1 => ("FormsOfTwoModel", "sizes", "[I", true)
  | 2 => ("FormsOfTwoModel", "items", "[I", true)
  | 3 => ("FormsOfTwoModel", "moved", "[I", true)
  | 4 => ("FormsOfTwoModel", "latest", "I", false)
  | 5 => ("FormsOfTwoModel", "f", "[I", true)
  | 6 => ("FormsOfTwoModel", "fn", "I", false)
  | 7 => ("FormsOfTwoModel", "g", "[I", true)
  | 8 => ("FormsOfTwoModel", "gn", "I", false)
  | 9 => ("FormsOfTwoModel", "h", "[I", true)
  | 10 => ("FormsOfTwoModel", "hn", "I", false)
  | 11 => ("FormsOfTwoModel", "grown", "[I", true)
  | 12 => ("FormsOfTwoModel", "table", "[I", true)
  | 13 => ("FormsOfTwoModel", "determinant", "I", false)
  | 14 => ("FormsOfTwoModel", "rs", "[I", true)
  | 15 => ("FormsOfTwoModel", "cs", "[I", true)
  | _ => ("FormsOfTwoModel", "ways", "[I", true)
def tyX5 : Nat → FieldType := fun k => match k with
  | 0 => .array .int
  | 1 => .array .int
  | 2 => .array .int
  | 3 => .array .int
  | 4 => .int
  | 5 => .array .int
  | 6 => .int
  | 7 => .array .int
  | 8 => .int
  | 9 => .array .int
  | 10 => .int
  | 11 => .array .int
  | 12 => .array .int
  | 13 => .int
  | 14 => .array .int
  | 15 => .array .int
  | _ => .array .int
abbrev wsX50 : List Cond := u_ws RX5 TX5 17
theorem nmX5 : ∀ a, a < 17 → ∀ b, b < 17 → a ≠ b → (TX5 a).2.1 ≠ (TX5 b).2.1 := by decide +kernel
theorem tyX5_ok : ∀ k, k < 17 → parseFieldDescriptor (TX5 k).2.2.1 = some (tyX5 k) := by decide +kernel
abbrev cX5_init : ByteArray := prog_7_method_1_code
def yX5_init : MethodName := ⟨RX5, "<init>", "()V"⟩
abbrev cX5_in : ByteArray := prog_7_method_3_code
def yX5_in : MethodName := ⟨RX5, "in", "(JJJ)Z"⟩
abbrev cX5_mod : ByteArray := prog_7_method_4_code
def yX5_mod : MethodName := ⟨RX5, "mod", "(J)I"⟩
abbrev cX5_times : ByteArray := prog_7_method_5_code
def yX5_times : MethodName := ⟨RX5, "times", "(II)I"⟩
abbrev cX5_turned : ByteArray := prog_7_method_6_code
def yX5_turned : MethodName := ⟨RX5, "turned", "(I)I"⟩
abbrev cX5_over : ByteArray := prog_7_method_7_code
def yX5_over : MethodName := ⟨RX5, "over", "(II)I"⟩
abbrev cX5_factorial : ByteArray := prog_7_method_8_code
def yX5_factorial : MethodName := ⟨RX5, "factorial", "(I)I"⟩
abbrev cX5_met : ByteArray := prog_7_method_9_code
def yX5_met : MethodName := ⟨RX5, "met", "(I)I"⟩
abbrev cX5_isSheet : ByteArray := prog_7_method_10_code
def yX5_isSheet : MethodName := ⟨RX5, "isSheet", "(I)Z"⟩
abbrev cX5_sheet : ByteArray := prog_7_method_11_code
def yX5_sheet : MethodName := ⟨RX5, "sheet", "(III)I"⟩
abbrev cX5_lose : ByteArray := prog_7_method_12_code
def yX5_lose : MethodName := ⟨RX5, "lose", "(I)I"⟩
abbrev cX5_lacks : ByteArray := prog_7_method_13_code
def yX5_lacks : MethodName := ⟨RX5, "lacks", "(III)I"⟩
abbrev cX5_put : ByteArray := prog_7_method_14_code
def yX5_put : MethodName := ⟨RX5, "put", "(IIII)I"⟩
abbrev cX5_get : ByteArray := prog_7_method_15_code
def yX5_get : MethodName := ⟨RX5, "get", "(III)I"⟩
abbrev cX5_copy : ByteArray := prog_7_method_16_code
def yX5_copy : MethodName := ⟨RX5, "copy", "(IIIII)I"⟩
abbrev cX5_isForm : ByteArray := prog_7_method_17_code
def yX5_isForm : MethodName := ⟨RX5, "isForm", "(I)Z"⟩
abbrev cX5_takeF : ByteArray := prog_7_method_18_code
def yX5_takeF : MethodName := ⟨RX5, "takeF", "(I)V"⟩
abbrev cX5_takeG : ByteArray := prog_7_method_19_code
def yX5_takeG : MethodName := ⟨RX5, "takeG", "(I)V"⟩
abbrev cX5_lay : ByteArray := prog_7_method_20_code
def yX5_lay : MethodName := ⟨RX5, "lay", "(I)I"⟩
abbrev cX5_noughtH : ByteArray := prog_7_method_21_code
def yX5_noughtH : MethodName := ⟨RX5, "noughtH", "(I)V"⟩
abbrev cX5_lacksOne : ByteArray := prog_7_method_22_code
def yX5_lacksOne : MethodName := ⟨RX5, "lacksOne", "(I)I"⟩
abbrev cX5_lacksTwo : ByteArray := prog_7_method_23_code
def yX5_lacksTwo : MethodName := ⟨RX5, "lacksTwo", "(II)I"⟩
abbrev cX5_isNoughtF : ByteArray := prog_7_method_24_code
def yX5_isNoughtF : MethodName := ⟨RX5, "isNoughtF", "()Z"⟩
abbrev cX5_isNoughtG : ByteArray := prog_7_method_25_code
def yX5_isNoughtG : MethodName := ⟨RX5, "isNoughtG", "()Z"⟩
abbrev cX5_term : ByteArray := prog_7_method_26_code
def yX5_term : MethodName := ⟨RX5, "term", "(II)I"⟩
abbrev cX5_degree : ByteArray := prog_7_method_27_code
def yX5_degree : MethodName := ⟨RX5, "degree", "(I)I"⟩
abbrev cX5_valueF : ByteArray := prog_7_method_28_code
def yX5_valueF : MethodName := ⟨RX5, "valueF", "(II)I"⟩
abbrev cX5_value : ByteArray := prog_7_method_29_code
def yX5_value : MethodName := ⟨RX5, "value", "(III)I"⟩
abbrev cX5_join : ByteArray := prog_7_method_30_code
def yX5_join : MethodName := ⟨RX5, "join", "(IIII)I"⟩
abbrev cX5_mixes : ByteArray := prog_7_method_31_code
def yX5_mixes : MethodName := ⟨RX5, "mixes", "(IIII)V"⟩
abbrev cX5_mix : ByteArray := prog_7_method_32_code
def yX5_mix : MethodName := ⟨RX5, "mix", "(IIIIII)I"⟩
abbrev cX5_change : ByteArray := prog_7_method_33_code
def yX5_change : MethodName := ⟨RX5, "change", "(III)I"⟩
abbrev cX5_changed : ByteArray := prog_7_method_34_code
def yX5_changed : MethodName := ⟨RX5, "changed", "(IIII)I"⟩
abbrev cX5_overlap : ByteArray := prog_7_method_35_code
def yX5_overlap : MethodName := ⟨RX5, "overlap", "(IIII)I"⟩
abbrev cX5_alike : ByteArray := prog_7_method_36_code
def yX5_alike : MethodName := ⟨RX5, "alike", "(II)I"⟩
abbrev cX5_isRoot : ByteArray := prog_7_method_37_code
def yX5_isRoot : MethodName := ⟨RX5, "isRoot", "(I)Z"⟩
abbrev cX5_lacksRoots : ByteArray := prog_7_method_38_code
def yX5_lacksRoots : MethodName := ⟨RX5, "lacksRoots", "(I)I"⟩
abbrev cX5_roots : ByteArray := prog_7_method_39_code
def yX5_roots : MethodName := ⟨RX5, "roots", "(I)I"⟩
abbrev cX5_root : ByteArray := prog_7_method_40_code
def yX5_root : MethodName := ⟨RX5, "root", "(II)I"⟩
abbrev cX5_common : ByteArray := prog_7_method_41_code
def yX5_common : MethodName := ⟨RX5, "common", "(III)I"⟩
abbrev cX5_eliminate : ByteArray := prog_7_method_42_code
def yX5_eliminate : MethodName := ⟨RX5, "eliminate", "(II)I"⟩
abbrev cX5_result : ByteArray := prog_7_method_43_code
def yX5_result : MethodName := ⟨RX5, "result", "(II)I"⟩
abbrev cX5_raised : ByteArray := prog_7_method_44_code
def yX5_raised : MethodName := ⟨RX5, "raised", "(II)I"⟩
abbrev cX5_powers : ByteArray := prog_7_method_45_code
def yX5_powers : MethodName := ⟨RX5, "powers", "(IIII)I"⟩
abbrev cX5_build : ByteArray := prog_7_method_46_code
def yX5_build : MethodName := ⟨RX5, "build", "(IIIII)I"⟩
abbrev cX5_rank : ByteArray := prog_7_method_47_code
def yX5_rank : MethodName := ⟨RX5, "rank", "(II)I"⟩
abbrev cX5_leadsBy : ByteArray := prog_7_method_48_code
def yX5_leadsBy : MethodName := ⟨RX5, "leadsBy", "(IIII)Z"⟩
abbrev cX5_lacksLeads : ByteArray := prog_7_method_49_code
def yX5_lacksLeads : MethodName := ⟨RX5, "lacksLeads", "(II)I"⟩
abbrev cX5_leadOf : ByteArray := prog_7_method_50_code
def yX5_leadOf : MethodName := ⟨RX5, "leadOf", "(II)I"⟩
abbrev cX5_leads : ByteArray := prog_7_method_51_code
def yX5_leads : MethodName := ⟨RX5, "leads", "(III)I"⟩
abbrev cX5_lead : ByteArray := prog_7_method_52_code
def yX5_lead : MethodName := ⟨RX5, "lead", "(IIII)I"⟩
abbrev cX5_waysOf : ByteArray := prog_7_method_53_code
def yX5_waysOf : MethodName := ⟨RX5, "waysOf", "(III)I"⟩
abbrev cX5_staying : ByteArray := prog_7_method_54_code
def yX5_staying : MethodName := ⟨RX5, "staying", "(III)I"⟩
abbrev cX5_count : ByteArray := prog_7_method_55_code
def yX5_count : MethodName := ⟨RX5, "count", "(I)I"⟩
abbrev cX5_digest : ByteArray := prog_7_method_56_code
def yX5_digest : MethodName := ⟨RX5, "digest", "()J"⟩
def RJ9 : String := "java/lang/Math"
def TJ9 : u_T := fun k => match k with
  | _ => ("", "", "", false)
def tyJ9 : Nat → FieldType := fun k => match k with
  | _ => .int
abbrev wsJ90 : List Cond := u_ws RJ9 TJ9 0
theorem nmJ9 : ∀ a, a < 0 → ∀ b, b < 0 → a ≠ b → (TJ9 a).2.1 ≠ (TJ9 b).2.1 := by decide +kernel
theorem tyJ9_ok : ∀ k, k < 0 → parseFieldDescriptor (TJ9 k).2.2.1 = some (tyJ9 k) := by decide +kernel
abbrev cJ9_floorMod_7cf53 : ByteArray := prog_8_method_50_code
def yJ9_floorMod_7cf53 : MethodName := ⟨RJ9, "floorMod", "(II)I"⟩
abbrev cJ9_max_7cf53 : ByteArray := prog_8_method_65_code
def yJ9_max_7cf53 : MethodName := ⟨RJ9, "max", "(II)I"⟩
abbrev cJ9_min_7cf53 : ByteArray := prog_8_method_69_code
def yJ9_min_7cf53 : MethodName := ⟨RJ9, "min", "(II)I"⟩
def RJ10 : String := "java/lang/System"
def TJ10 : u_T := fun k => match k with
  | _ => ("", "", "", false)
def tyJ10 : Nat → FieldType := fun k => match k with
  | _ => .int
abbrev wsJ100 : List Cond := u_ws RJ10 TJ10 0
theorem nmJ10 : ∀ a, a < 0 → ∀ b, b < 0 → a ≠ b → (TJ10 a).2.1 ≠ (TJ10 b).2.1 := by decide +kernel
theorem tyJ10_ok : ∀ k, k < 0 → parseFieldDescriptor (TJ10 k).2.2.1 = some (tyJ10 k) := by decide +kernel
def RL : String := "FormsOfTwoLaw"
abbrev cL_law : ByteArray := code
def yL_law : MethodName := ⟨RL, "law", "([I)Z"⟩
end
section
theorem dJ9_floorMod_7cf53_0 : decode cJ9_floorMod_7cf53 0 = .ok (.iload_n 0, 1) := by decide +kernel
theorem dJ9_floorMod_7cf53_1 : decode cJ9_floorMod_7cf53 1 = .ok (.iload_n 1, 1) := by decide +kernel
theorem dJ9_floorMod_7cf53_2 : decode cJ9_floorMod_7cf53 2 = .ok (.irem, 1) := by decide +kernel
theorem dJ9_floorMod_7cf53_3 : decode cJ9_floorMod_7cf53 3 = .ok (.istore_n 2, 1) := by decide +kernel
theorem dJ9_floorMod_7cf53_4 : decode cJ9_floorMod_7cf53 4 = .ok (.iload_n 0, 1) := by decide +kernel
theorem dJ9_floorMod_7cf53_5 : decode cJ9_floorMod_7cf53 5 = .ok (.iload_n 1, 1) := by decide +kernel
theorem dJ9_floorMod_7cf53_6 : decode cJ9_floorMod_7cf53 6 = .ok (.ixor, 1) := by decide +kernel
theorem dJ9_floorMod_7cf53_7 : decode cJ9_floorMod_7cf53 7 = .ok (.ifCond .ge 11, 3) := by decide +kernel
theorem dJ9_floorMod_7cf53_10 : decode cJ9_floorMod_7cf53 10 = .ok (.iload_n 2, 1) := by decide +kernel
theorem dJ9_floorMod_7cf53_11 : decode cJ9_floorMod_7cf53 11 = .ok (.ifCond .eq 7, 3) := by decide +kernel
theorem dJ9_floorMod_7cf53_14 : decode cJ9_floorMod_7cf53 14 = .ok (.iload_n 2, 1) := by decide +kernel
theorem dJ9_floorMod_7cf53_15 : decode cJ9_floorMod_7cf53 15 = .ok (.iload_n 1, 1) := by decide +kernel
theorem dJ9_floorMod_7cf53_16 : decode cJ9_floorMod_7cf53 16 = .ok (.iadd, 1) := by decide +kernel
theorem dJ9_floorMod_7cf53_17 : decode cJ9_floorMod_7cf53 17 = .ok (.ireturn, 1) := by decide +kernel
theorem dJ9_floorMod_7cf53_18 : decode cJ9_floorMod_7cf53 18 = .ok (.iload_n 2, 1) := by decide +kernel
theorem dJ9_floorMod_7cf53_19 : decode cJ9_floorMod_7cf53 19 = .ok (.ireturn, 1) := by decide +kernel
theorem dJ9_max_7cf53_0 : decode cJ9_max_7cf53 0 = .ok (.iload_n 0, 1) := by decide +kernel
theorem dJ9_max_7cf53_1 : decode cJ9_max_7cf53 1 = .ok (.iload_n 1, 1) := by decide +kernel
theorem dJ9_max_7cf53_2 : decode cJ9_max_7cf53 2 = .ok (.if_icmp .lt 7, 3) := by decide +kernel
theorem dJ9_max_7cf53_5 : decode cJ9_max_7cf53 5 = .ok (.iload_n 0, 1) := by decide +kernel
theorem dJ9_max_7cf53_6 : decode cJ9_max_7cf53 6 = .ok (.goto 4, 3) := by decide +kernel
theorem dJ9_max_7cf53_9 : decode cJ9_max_7cf53 9 = .ok (.iload_n 1, 1) := by decide +kernel
theorem dJ9_max_7cf53_10 : decode cJ9_max_7cf53 10 = .ok (.ireturn, 1) := by decide +kernel
theorem dJ9_min_7cf53_0 : decode cJ9_min_7cf53 0 = .ok (.iload_n 0, 1) := by decide +kernel
theorem dJ9_min_7cf53_1 : decode cJ9_min_7cf53 1 = .ok (.iload_n 1, 1) := by decide +kernel
theorem dJ9_min_7cf53_2 : decode cJ9_min_7cf53 2 = .ok (.if_icmp .gt 7, 3) := by decide +kernel
theorem dJ9_min_7cf53_5 : decode cJ9_min_7cf53 5 = .ok (.iload_n 0, 1) := by decide +kernel
theorem dJ9_min_7cf53_6 : decode cJ9_min_7cf53 6 = .ok (.goto 4, 3) := by decide +kernel
theorem dJ9_min_7cf53_9 : decode cJ9_min_7cf53 9 = .ok (.iload_n 1, 1) := by decide +kernel
theorem dJ9_min_7cf53_10 : decode cJ9_min_7cf53 10 = .ok (.ireturn, 1) := by decide +kernel
end
section
theorem dL_law_0 : decode cL_law 0 = .ok (.new 7, 3) := by decide +kernel
theorem dL_law_3 : decode cL_law 3 = .ok (.dup, 1) := by decide +kernel
theorem dL_law_4 : decode cL_law 4 = .ok (.invokespecial 9, 3) := by decide +kernel
theorem dL_law_7 : decode cL_law 7 = .ok (.astore_n 1, 1) := by decide +kernel
theorem dL_law_8 : decode cL_law 8 = .ok (.new 10, 3) := by decide +kernel
theorem dL_law_11 : decode cL_law 11 = .ok (.dup, 1) := by decide +kernel
theorem dL_law_12 : decode cL_law 12 = .ok (.invokespecial 12, 3) := by decide +kernel
theorem dL_law_15 : decode cL_law 15 = .ok (.astore_n 2, 1) := by decide +kernel
theorem dL_law_16 : decode cL_law 16 = .ok (.iconst 0, 1) := by decide +kernel
theorem dL_law_17 : decode cL_law 17 = .ok (.istore_n 3, 1) := by decide +kernel
theorem dL_law_18 : decode cL_law 18 = .ok (.iload_n 3, 1) := by decide +kernel
theorem dL_law_19 : decode cL_law 19 = .ok (.aload_n 0, 1) := by decide +kernel
theorem dL_law_20 : decode cL_law 20 = .ok (.arraylength, 1) := by decide +kernel
theorem dL_law_21 : decode cL_law 21 = .ok (.bipush 7, 2) := by decide +kernel
theorem dL_law_23 : decode cL_law 23 = .ok (.isub, 1) := by decide +kernel
theorem dL_law_24 : decode cL_law 24 = .ok (.if_icmp .gt 1168, 3) := by decide +kernel
theorem dL_law_27 : decode cL_law 27 = .ok (.aload_n 0, 1) := by decide +kernel
theorem dL_law_28 : decode cL_law 28 = .ok (.iload_n 3, 1) := by decide +kernel
theorem dL_law_29 : decode cL_law 29 = .ok (.iaload, 1) := by decide +kernel
theorem dL_law_30 : decode cL_law 30 = .ok (.bipush 31, 2) := by decide +kernel
theorem dL_law_32 : decode cL_law 32 = .ok (.iand, 1) := by decide +kernel
theorem dL_law_33 : decode cL_law 33 = .ok (.tableswitch 1153 0 24 #[115, 158, 181, 234, 277, 340, 373, 396, 439, 492, 567, 610, 663, 696, 719, 752, 795, 828, 881, 944, 977, 1020, 1073, 1116, 1139], 115) := by decide +kernel
theorem dL_law_148 : decode cL_law 148 = .ok (.aload_n 1, 1) := by decide +kernel
theorem dL_law_149 : decode cL_law 149 = .ok (.aload_n 0, 1) := by decide +kernel
theorem dL_law_150 : decode cL_law 150 = .ok (.iload_n 3, 1) := by decide +kernel
theorem dL_law_151 : decode cL_law 151 = .ok (.iconst 1, 1) := by decide +kernel
theorem dL_law_152 : decode cL_law 152 = .ok (.iadd, 1) := by decide +kernel
theorem dL_law_153 : decode cL_law 153 = .ok (.iaload, 1) := by decide +kernel
theorem dL_law_154 : decode cL_law 154 = .ok (.aload_n 0, 1) := by decide +kernel
theorem dL_law_155 : decode cL_law 155 = .ok (.iload_n 3, 1) := by decide +kernel
theorem dL_law_156 : decode cL_law 156 = .ok (.iconst 2, 1) := by decide +kernel
theorem dL_law_157 : decode cL_law 157 = .ok (.iadd, 1) := by decide +kernel
theorem dL_law_158 : decode cL_law 158 = .ok (.iaload, 1) := by decide +kernel
theorem dL_law_159 : decode cL_law 159 = .ok (.aload_n 0, 1) := by decide +kernel
theorem dL_law_160 : decode cL_law 160 = .ok (.iload_n 3, 1) := by decide +kernel
theorem dL_law_161 : decode cL_law 161 = .ok (.iconst 3, 1) := by decide +kernel
theorem dL_law_162 : decode cL_law 162 = .ok (.iadd, 1) := by decide +kernel
theorem dL_law_163 : decode cL_law 163 = .ok (.iaload, 1) := by decide +kernel
theorem dL_law_164 : decode cL_law 164 = .ok (.invokevirtual 13, 3) := by decide +kernel
theorem dL_law_167 : decode cL_law 167 = .ok (.aload_n 2, 1) := by decide +kernel
theorem dL_law_168 : decode cL_law 168 = .ok (.aload_n 0, 1) := by decide +kernel
theorem dL_law_169 : decode cL_law 169 = .ok (.iload_n 3, 1) := by decide +kernel
theorem dL_law_170 : decode cL_law 170 = .ok (.iconst 1, 1) := by decide +kernel
theorem dL_law_171 : decode cL_law 171 = .ok (.iadd, 1) := by decide +kernel
theorem dL_law_172 : decode cL_law 172 = .ok (.iaload, 1) := by decide +kernel
theorem dL_law_173 : decode cL_law 173 = .ok (.aload_n 0, 1) := by decide +kernel
theorem dL_law_174 : decode cL_law 174 = .ok (.iload_n 3, 1) := by decide +kernel
theorem dL_law_175 : decode cL_law 175 = .ok (.iconst 2, 1) := by decide +kernel
theorem dL_law_176 : decode cL_law 176 = .ok (.iadd, 1) := by decide +kernel
theorem dL_law_177 : decode cL_law 177 = .ok (.iaload, 1) := by decide +kernel
theorem dL_law_178 : decode cL_law 178 = .ok (.aload_n 0, 1) := by decide +kernel
theorem dL_law_179 : decode cL_law 179 = .ok (.iload_n 3, 1) := by decide +kernel
theorem dL_law_180 : decode cL_law 180 = .ok (.iconst 3, 1) := by decide +kernel
theorem dL_law_181 : decode cL_law 181 = .ok (.iadd, 1) := by decide +kernel
theorem dL_law_182 : decode cL_law 182 = .ok (.iaload, 1) := by decide +kernel
theorem dL_law_183 : decode cL_law 183 = .ok (.invokevirtual 17, 3) := by decide +kernel
theorem dL_law_186 : decode cL_law 186 = .ok (.if_icmp .eq 1000, 3) := by decide +kernel
theorem dL_law_189 : decode cL_law 189 = .ok (.iconst 0, 1) := by decide +kernel
theorem dL_law_190 : decode cL_law 190 = .ok (.ireturn, 1) := by decide +kernel
theorem dL_law_191 : decode cL_law 191 = .ok (.aload_n 1, 1) := by decide +kernel
theorem dL_law_192 : decode cL_law 192 = .ok (.aload_n 0, 1) := by decide +kernel
theorem dL_law_193 : decode cL_law 193 = .ok (.iload_n 3, 1) := by decide +kernel
theorem dL_law_194 : decode cL_law 194 = .ok (.iconst 1, 1) := by decide +kernel
theorem dL_law_195 : decode cL_law 195 = .ok (.iadd, 1) := by decide +kernel
theorem dL_law_196 : decode cL_law 196 = .ok (.iaload, 1) := by decide +kernel
theorem dL_law_197 : decode cL_law 197 = .ok (.invokevirtual 18, 3) := by decide +kernel
theorem dL_law_200 : decode cL_law 200 = .ok (.aload_n 2, 1) := by decide +kernel
theorem dL_law_201 : decode cL_law 201 = .ok (.aload_n 0, 1) := by decide +kernel
theorem dL_law_202 : decode cL_law 202 = .ok (.iload_n 3, 1) := by decide +kernel
theorem dL_law_203 : decode cL_law 203 = .ok (.iconst 1, 1) := by decide +kernel
theorem dL_law_204 : decode cL_law 204 = .ok (.iadd, 1) := by decide +kernel
theorem dL_law_205 : decode cL_law 205 = .ok (.iaload, 1) := by decide +kernel
theorem dL_law_206 : decode cL_law 206 = .ok (.invokevirtual 22, 3) := by decide +kernel
theorem dL_law_209 : decode cL_law 209 = .ok (.if_icmp .eq 977, 3) := by decide +kernel
theorem dL_law_212 : decode cL_law 212 = .ok (.iconst 0, 1) := by decide +kernel
theorem dL_law_213 : decode cL_law 213 = .ok (.ireturn, 1) := by decide +kernel
theorem dL_law_214 : decode cL_law 214 = .ok (.aload_n 1, 1) := by decide +kernel
theorem dL_law_215 : decode cL_law 215 = .ok (.aload_n 0, 1) := by decide +kernel
theorem dL_law_216 : decode cL_law 216 = .ok (.iload_n 3, 1) := by decide +kernel
theorem dL_law_217 : decode cL_law 217 = .ok (.iconst 1, 1) := by decide +kernel
theorem dL_law_218 : decode cL_law 218 = .ok (.iadd, 1) := by decide +kernel
theorem dL_law_219 : decode cL_law 219 = .ok (.iaload, 1) := by decide +kernel
theorem dL_law_220 : decode cL_law 220 = .ok (.aload_n 0, 1) := by decide +kernel
theorem dL_law_221 : decode cL_law 221 = .ok (.iload_n 3, 1) := by decide +kernel
theorem dL_law_222 : decode cL_law 222 = .ok (.iconst 2, 1) := by decide +kernel
theorem dL_law_223 : decode cL_law 223 = .ok (.iadd, 1) := by decide +kernel
theorem dL_law_224 : decode cL_law 224 = .ok (.iaload, 1) := by decide +kernel
theorem dL_law_225 : decode cL_law 225 = .ok (.aload_n 0, 1) := by decide +kernel
theorem dL_law_226 : decode cL_law 226 = .ok (.iload_n 3, 1) := by decide +kernel
theorem dL_law_227 : decode cL_law 227 = .ok (.iconst 3, 1) := by decide +kernel
theorem dL_law_228 : decode cL_law 228 = .ok (.iadd, 1) := by decide +kernel
theorem dL_law_229 : decode cL_law 229 = .ok (.iaload, 1) := by decide +kernel
theorem dL_law_230 : decode cL_law 230 = .ok (.aload_n 0, 1) := by decide +kernel
theorem dL_law_231 : decode cL_law 231 = .ok (.iload_n 3, 1) := by decide +kernel
theorem dL_law_232 : decode cL_law 232 = .ok (.iconst 4, 1) := by decide +kernel
theorem dL_law_233 : decode cL_law 233 = .ok (.iadd, 1) := by decide +kernel
theorem dL_law_234 : decode cL_law 234 = .ok (.iaload, 1) := by decide +kernel
theorem dL_law_235 : decode cL_law 235 = .ok (.invokevirtual 23, 3) := by decide +kernel
theorem dL_law_238 : decode cL_law 238 = .ok (.aload_n 2, 1) := by decide +kernel
theorem dL_law_239 : decode cL_law 239 = .ok (.aload_n 0, 1) := by decide +kernel
theorem dL_law_240 : decode cL_law 240 = .ok (.iload_n 3, 1) := by decide +kernel
theorem dL_law_241 : decode cL_law 241 = .ok (.iconst 1, 1) := by decide +kernel
theorem dL_law_242 : decode cL_law 242 = .ok (.iadd, 1) := by decide +kernel
theorem dL_law_243 : decode cL_law 243 = .ok (.iaload, 1) := by decide +kernel
theorem dL_law_244 : decode cL_law 244 = .ok (.aload_n 0, 1) := by decide +kernel
theorem dL_law_245 : decode cL_law 245 = .ok (.iload_n 3, 1) := by decide +kernel
theorem dL_law_246 : decode cL_law 246 = .ok (.iconst 2, 1) := by decide +kernel
theorem dL_law_247 : decode cL_law 247 = .ok (.iadd, 1) := by decide +kernel
theorem dL_law_248 : decode cL_law 248 = .ok (.iaload, 1) := by decide +kernel
theorem dL_law_249 : decode cL_law 249 = .ok (.aload_n 0, 1) := by decide +kernel
theorem dL_law_250 : decode cL_law 250 = .ok (.iload_n 3, 1) := by decide +kernel
theorem dL_law_251 : decode cL_law 251 = .ok (.iconst 3, 1) := by decide +kernel
theorem dL_law_252 : decode cL_law 252 = .ok (.iadd, 1) := by decide +kernel
theorem dL_law_253 : decode cL_law 253 = .ok (.iaload, 1) := by decide +kernel
theorem dL_law_254 : decode cL_law 254 = .ok (.aload_n 0, 1) := by decide +kernel
theorem dL_law_255 : decode cL_law 255 = .ok (.iload_n 3, 1) := by decide +kernel
theorem dL_law_256 : decode cL_law 256 = .ok (.iconst 4, 1) := by decide +kernel
theorem dL_law_257 : decode cL_law 257 = .ok (.iadd, 1) := by decide +kernel
theorem dL_law_258 : decode cL_law 258 = .ok (.iaload, 1) := by decide +kernel
theorem dL_law_259 : decode cL_law 259 = .ok (.invokevirtual 27, 3) := by decide +kernel
theorem dL_law_262 : decode cL_law 262 = .ok (.if_icmp .eq 924, 3) := by decide +kernel
theorem dL_law_265 : decode cL_law 265 = .ok (.iconst 0, 1) := by decide +kernel
theorem dL_law_266 : decode cL_law 266 = .ok (.ireturn, 1) := by decide +kernel
theorem dL_law_267 : decode cL_law 267 = .ok (.aload_n 1, 1) := by decide +kernel
theorem dL_law_268 : decode cL_law 268 = .ok (.aload_n 0, 1) := by decide +kernel
theorem dL_law_269 : decode cL_law 269 = .ok (.iload_n 3, 1) := by decide +kernel
theorem dL_law_270 : decode cL_law 270 = .ok (.iconst 1, 1) := by decide +kernel
theorem dL_law_271 : decode cL_law 271 = .ok (.iadd, 1) := by decide +kernel
theorem dL_law_272 : decode cL_law 272 = .ok (.iaload, 1) := by decide +kernel
theorem dL_law_273 : decode cL_law 273 = .ok (.aload_n 0, 1) := by decide +kernel
theorem dL_law_274 : decode cL_law 274 = .ok (.iload_n 3, 1) := by decide +kernel
theorem dL_law_275 : decode cL_law 275 = .ok (.iconst 2, 1) := by decide +kernel
theorem dL_law_276 : decode cL_law 276 = .ok (.iadd, 1) := by decide +kernel
theorem dL_law_277 : decode cL_law 277 = .ok (.iaload, 1) := by decide +kernel
theorem dL_law_278 : decode cL_law 278 = .ok (.aload_n 0, 1) := by decide +kernel
theorem dL_law_279 : decode cL_law 279 = .ok (.iload_n 3, 1) := by decide +kernel
theorem dL_law_280 : decode cL_law 280 = .ok (.iconst 3, 1) := by decide +kernel
theorem dL_law_281 : decode cL_law 281 = .ok (.iadd, 1) := by decide +kernel
theorem dL_law_282 : decode cL_law 282 = .ok (.iaload, 1) := by decide +kernel
theorem dL_law_283 : decode cL_law 283 = .ok (.invokevirtual 28, 3) := by decide +kernel
theorem dL_law_286 : decode cL_law 286 = .ok (.aload_n 2, 1) := by decide +kernel
theorem dL_law_287 : decode cL_law 287 = .ok (.aload_n 0, 1) := by decide +kernel
theorem dL_law_288 : decode cL_law 288 = .ok (.iload_n 3, 1) := by decide +kernel
theorem dL_law_289 : decode cL_law 289 = .ok (.iconst 1, 1) := by decide +kernel
theorem dL_law_290 : decode cL_law 290 = .ok (.iadd, 1) := by decide +kernel
theorem dL_law_291 : decode cL_law 291 = .ok (.iaload, 1) := by decide +kernel
theorem dL_law_292 : decode cL_law 292 = .ok (.aload_n 0, 1) := by decide +kernel
theorem dL_law_293 : decode cL_law 293 = .ok (.iload_n 3, 1) := by decide +kernel
theorem dL_law_294 : decode cL_law 294 = .ok (.iconst 2, 1) := by decide +kernel
theorem dL_law_295 : decode cL_law 295 = .ok (.iadd, 1) := by decide +kernel
theorem dL_law_296 : decode cL_law 296 = .ok (.iaload, 1) := by decide +kernel
theorem dL_law_297 : decode cL_law 297 = .ok (.aload_n 0, 1) := by decide +kernel
theorem dL_law_298 : decode cL_law 298 = .ok (.iload_n 3, 1) := by decide +kernel
theorem dL_law_299 : decode cL_law 299 = .ok (.iconst 3, 1) := by decide +kernel
theorem dL_law_300 : decode cL_law 300 = .ok (.iadd, 1) := by decide +kernel
theorem dL_law_301 : decode cL_law 301 = .ok (.iaload, 1) := by decide +kernel
theorem dL_law_302 : decode cL_law 302 = .ok (.invokevirtual 31, 3) := by decide +kernel
theorem dL_law_305 : decode cL_law 305 = .ok (.if_icmp .eq 881, 3) := by decide +kernel
theorem dL_law_308 : decode cL_law 308 = .ok (.iconst 0, 1) := by decide +kernel
theorem dL_law_309 : decode cL_law 309 = .ok (.ireturn, 1) := by decide +kernel
theorem dL_law_310 : decode cL_law 310 = .ok (.aload_n 1, 1) := by decide +kernel
theorem dL_law_311 : decode cL_law 311 = .ok (.aload_n 0, 1) := by decide +kernel
theorem dL_law_312 : decode cL_law 312 = .ok (.iload_n 3, 1) := by decide +kernel
theorem dL_law_313 : decode cL_law 313 = .ok (.iconst 1, 1) := by decide +kernel
theorem dL_law_314 : decode cL_law 314 = .ok (.iadd, 1) := by decide +kernel
theorem dL_law_315 : decode cL_law 315 = .ok (.iaload, 1) := by decide +kernel
theorem dL_law_316 : decode cL_law 316 = .ok (.aload_n 0, 1) := by decide +kernel
theorem dL_law_317 : decode cL_law 317 = .ok (.iload_n 3, 1) := by decide +kernel
theorem dL_law_318 : decode cL_law 318 = .ok (.iconst 2, 1) := by decide +kernel
theorem dL_law_319 : decode cL_law 319 = .ok (.iadd, 1) := by decide +kernel
theorem dL_law_320 : decode cL_law 320 = .ok (.iaload, 1) := by decide +kernel
theorem dL_law_321 : decode cL_law 321 = .ok (.aload_n 0, 1) := by decide +kernel
theorem dL_law_322 : decode cL_law 322 = .ok (.iload_n 3, 1) := by decide +kernel
theorem dL_law_323 : decode cL_law 323 = .ok (.iconst 3, 1) := by decide +kernel
theorem dL_law_324 : decode cL_law 324 = .ok (.iadd, 1) := by decide +kernel
theorem dL_law_325 : decode cL_law 325 = .ok (.iaload, 1) := by decide +kernel
theorem dL_law_326 : decode cL_law 326 = .ok (.aload_n 0, 1) := by decide +kernel
theorem dL_law_327 : decode cL_law 327 = .ok (.iload_n 3, 1) := by decide +kernel
theorem dL_law_328 : decode cL_law 328 = .ok (.iconst 4, 1) := by decide +kernel
theorem dL_law_329 : decode cL_law 329 = .ok (.iadd, 1) := by decide +kernel
theorem dL_law_330 : decode cL_law 330 = .ok (.iaload, 1) := by decide +kernel
theorem dL_law_331 : decode cL_law 331 = .ok (.aload_n 0, 1) := by decide +kernel
theorem dL_law_332 : decode cL_law 332 = .ok (.iload_n 3, 1) := by decide +kernel
theorem dL_law_333 : decode cL_law 333 = .ok (.iconst 5, 1) := by decide +kernel
theorem dL_law_334 : decode cL_law 334 = .ok (.iadd, 1) := by decide +kernel
theorem dL_law_335 : decode cL_law 335 = .ok (.iaload, 1) := by decide +kernel
theorem dL_law_336 : decode cL_law 336 = .ok (.invokevirtual 32, 3) := by decide +kernel
theorem dL_law_339 : decode cL_law 339 = .ok (.aload_n 2, 1) := by decide +kernel
theorem dL_law_340 : decode cL_law 340 = .ok (.aload_n 0, 1) := by decide +kernel
theorem dL_law_341 : decode cL_law 341 = .ok (.iload_n 3, 1) := by decide +kernel
theorem dL_law_342 : decode cL_law 342 = .ok (.iconst 1, 1) := by decide +kernel
theorem dL_law_343 : decode cL_law 343 = .ok (.iadd, 1) := by decide +kernel
theorem dL_law_344 : decode cL_law 344 = .ok (.iaload, 1) := by decide +kernel
theorem dL_law_345 : decode cL_law 345 = .ok (.aload_n 0, 1) := by decide +kernel
theorem dL_law_346 : decode cL_law 346 = .ok (.iload_n 3, 1) := by decide +kernel
theorem dL_law_347 : decode cL_law 347 = .ok (.iconst 2, 1) := by decide +kernel
theorem dL_law_348 : decode cL_law 348 = .ok (.iadd, 1) := by decide +kernel
theorem dL_law_349 : decode cL_law 349 = .ok (.iaload, 1) := by decide +kernel
theorem dL_law_350 : decode cL_law 350 = .ok (.aload_n 0, 1) := by decide +kernel
theorem dL_law_351 : decode cL_law 351 = .ok (.iload_n 3, 1) := by decide +kernel
theorem dL_law_352 : decode cL_law 352 = .ok (.iconst 3, 1) := by decide +kernel
theorem dL_law_353 : decode cL_law 353 = .ok (.iadd, 1) := by decide +kernel
theorem dL_law_354 : decode cL_law 354 = .ok (.iaload, 1) := by decide +kernel
theorem dL_law_355 : decode cL_law 355 = .ok (.aload_n 0, 1) := by decide +kernel
theorem dL_law_356 : decode cL_law 356 = .ok (.iload_n 3, 1) := by decide +kernel
theorem dL_law_357 : decode cL_law 357 = .ok (.iconst 4, 1) := by decide +kernel
theorem dL_law_358 : decode cL_law 358 = .ok (.iadd, 1) := by decide +kernel
theorem dL_law_359 : decode cL_law 359 = .ok (.iaload, 1) := by decide +kernel
theorem dL_law_360 : decode cL_law 360 = .ok (.aload_n 0, 1) := by decide +kernel
theorem dL_law_361 : decode cL_law 361 = .ok (.iload_n 3, 1) := by decide +kernel
theorem dL_law_362 : decode cL_law 362 = .ok (.iconst 5, 1) := by decide +kernel
theorem dL_law_363 : decode cL_law 363 = .ok (.iadd, 1) := by decide +kernel
theorem dL_law_364 : decode cL_law 364 = .ok (.iaload, 1) := by decide +kernel
theorem dL_law_365 : decode cL_law 365 = .ok (.invokevirtual 36, 3) := by decide +kernel
theorem dL_law_368 : decode cL_law 368 = .ok (.if_icmp .eq 818, 3) := by decide +kernel
theorem dL_law_371 : decode cL_law 371 = .ok (.iconst 0, 1) := by decide +kernel
theorem dL_law_372 : decode cL_law 372 = .ok (.ireturn, 1) := by decide +kernel
theorem dL_law_373 : decode cL_law 373 = .ok (.aload_n 1, 1) := by decide +kernel
theorem dL_law_374 : decode cL_law 374 = .ok (.aload_n 0, 1) := by decide +kernel
theorem dL_law_375 : decode cL_law 375 = .ok (.iload_n 3, 1) := by decide +kernel
theorem dL_law_376 : decode cL_law 376 = .ok (.iconst 1, 1) := by decide +kernel
theorem dL_law_377 : decode cL_law 377 = .ok (.iadd, 1) := by decide +kernel
theorem dL_law_378 : decode cL_law 378 = .ok (.iaload, 1) := by decide +kernel
theorem dL_law_379 : decode cL_law 379 = .ok (.aload_n 0, 1) := by decide +kernel
theorem dL_law_380 : decode cL_law 380 = .ok (.iload_n 3, 1) := by decide +kernel
theorem dL_law_381 : decode cL_law 381 = .ok (.iconst 2, 1) := by decide +kernel
theorem dL_law_382 : decode cL_law 382 = .ok (.iadd, 1) := by decide +kernel
theorem dL_law_383 : decode cL_law 383 = .ok (.iaload, 1) := by decide +kernel
theorem dL_law_384 : decode cL_law 384 = .ok (.invokevirtual 37, 3) := by decide +kernel
theorem dL_law_387 : decode cL_law 387 = .ok (.aload_n 2, 1) := by decide +kernel
theorem dL_law_388 : decode cL_law 388 = .ok (.aload_n 0, 1) := by decide +kernel
theorem dL_law_389 : decode cL_law 389 = .ok (.iload_n 3, 1) := by decide +kernel
theorem dL_law_390 : decode cL_law 390 = .ok (.iconst 1, 1) := by decide +kernel
theorem dL_law_391 : decode cL_law 391 = .ok (.iadd, 1) := by decide +kernel
theorem dL_law_392 : decode cL_law 392 = .ok (.iaload, 1) := by decide +kernel
theorem dL_law_393 : decode cL_law 393 = .ok (.aload_n 0, 1) := by decide +kernel
theorem dL_law_394 : decode cL_law 394 = .ok (.iload_n 3, 1) := by decide +kernel
theorem dL_law_395 : decode cL_law 395 = .ok (.iconst 2, 1) := by decide +kernel
theorem dL_law_396 : decode cL_law 396 = .ok (.iadd, 1) := by decide +kernel
theorem dL_law_397 : decode cL_law 397 = .ok (.iaload, 1) := by decide +kernel
theorem dL_law_398 : decode cL_law 398 = .ok (.invokevirtual 41, 3) := by decide +kernel
theorem dL_law_401 : decode cL_law 401 = .ok (.if_icmp .eq 785, 3) := by decide +kernel
theorem dL_law_404 : decode cL_law 404 = .ok (.iconst 0, 1) := by decide +kernel
theorem dL_law_405 : decode cL_law 405 = .ok (.ireturn, 1) := by decide +kernel
theorem dL_law_406 : decode cL_law 406 = .ok (.aload_n 1, 1) := by decide +kernel
theorem dL_law_407 : decode cL_law 407 = .ok (.aload_n 0, 1) := by decide +kernel
theorem dL_law_408 : decode cL_law 408 = .ok (.iload_n 3, 1) := by decide +kernel
theorem dL_law_409 : decode cL_law 409 = .ok (.iconst 1, 1) := by decide +kernel
theorem dL_law_410 : decode cL_law 410 = .ok (.iadd, 1) := by decide +kernel
theorem dL_law_411 : decode cL_law 411 = .ok (.iaload, 1) := by decide +kernel
theorem dL_law_412 : decode cL_law 412 = .ok (.invokevirtual 42, 3) := by decide +kernel
theorem dL_law_415 : decode cL_law 415 = .ok (.aload_n 2, 1) := by decide +kernel
theorem dL_law_416 : decode cL_law 416 = .ok (.aload_n 0, 1) := by decide +kernel
theorem dL_law_417 : decode cL_law 417 = .ok (.iload_n 3, 1) := by decide +kernel
theorem dL_law_418 : decode cL_law 418 = .ok (.iconst 1, 1) := by decide +kernel
theorem dL_law_419 : decode cL_law 419 = .ok (.iadd, 1) := by decide +kernel
theorem dL_law_420 : decode cL_law 420 = .ok (.iaload, 1) := by decide +kernel
theorem dL_law_421 : decode cL_law 421 = .ok (.invokevirtual 45, 3) := by decide +kernel
theorem dL_law_424 : decode cL_law 424 = .ok (.if_icmp .eq 762, 3) := by decide +kernel
theorem dL_law_427 : decode cL_law 427 = .ok (.iconst 0, 1) := by decide +kernel
theorem dL_law_428 : decode cL_law 428 = .ok (.ireturn, 1) := by decide +kernel
theorem dL_law_429 : decode cL_law 429 = .ok (.aload_n 1, 1) := by decide +kernel
theorem dL_law_430 : decode cL_law 430 = .ok (.aload_n 0, 1) := by decide +kernel
theorem dL_law_431 : decode cL_law 431 = .ok (.iload_n 3, 1) := by decide +kernel
theorem dL_law_432 : decode cL_law 432 = .ok (.iconst 1, 1) := by decide +kernel
theorem dL_law_433 : decode cL_law 433 = .ok (.iadd, 1) := by decide +kernel
theorem dL_law_434 : decode cL_law 434 = .ok (.iaload, 1) := by decide +kernel
theorem dL_law_435 : decode cL_law 435 = .ok (.aload_n 0, 1) := by decide +kernel
theorem dL_law_436 : decode cL_law 436 = .ok (.iload_n 3, 1) := by decide +kernel
theorem dL_law_437 : decode cL_law 437 = .ok (.iconst 2, 1) := by decide +kernel
theorem dL_law_438 : decode cL_law 438 = .ok (.iadd, 1) := by decide +kernel
theorem dL_law_439 : decode cL_law 439 = .ok (.iaload, 1) := by decide +kernel
theorem dL_law_440 : decode cL_law 440 = .ok (.aload_n 0, 1) := by decide +kernel
theorem dL_law_441 : decode cL_law 441 = .ok (.iload_n 3, 1) := by decide +kernel
theorem dL_law_442 : decode cL_law 442 = .ok (.iconst 3, 1) := by decide +kernel
theorem dL_law_443 : decode cL_law 443 = .ok (.iadd, 1) := by decide +kernel
theorem dL_law_444 : decode cL_law 444 = .ok (.iaload, 1) := by decide +kernel
theorem dL_law_445 : decode cL_law 445 = .ok (.invokevirtual 46, 3) := by decide +kernel
theorem dL_law_448 : decode cL_law 448 = .ok (.aload_n 2, 1) := by decide +kernel
theorem dL_law_449 : decode cL_law 449 = .ok (.aload_n 0, 1) := by decide +kernel
theorem dL_law_450 : decode cL_law 450 = .ok (.iload_n 3, 1) := by decide +kernel
theorem dL_law_451 : decode cL_law 451 = .ok (.iconst 1, 1) := by decide +kernel
theorem dL_law_452 : decode cL_law 452 = .ok (.iadd, 1) := by decide +kernel
theorem dL_law_453 : decode cL_law 453 = .ok (.iaload, 1) := by decide +kernel
theorem dL_law_454 : decode cL_law 454 = .ok (.aload_n 0, 1) := by decide +kernel
theorem dL_law_455 : decode cL_law 455 = .ok (.iload_n 3, 1) := by decide +kernel
theorem dL_law_456 : decode cL_law 456 = .ok (.iconst 2, 1) := by decide +kernel
theorem dL_law_457 : decode cL_law 457 = .ok (.iadd, 1) := by decide +kernel
theorem dL_law_458 : decode cL_law 458 = .ok (.iaload, 1) := by decide +kernel
theorem dL_law_459 : decode cL_law 459 = .ok (.aload_n 0, 1) := by decide +kernel
theorem dL_law_460 : decode cL_law 460 = .ok (.iload_n 3, 1) := by decide +kernel
theorem dL_law_461 : decode cL_law 461 = .ok (.iconst 3, 1) := by decide +kernel
theorem dL_law_462 : decode cL_law 462 = .ok (.iadd, 1) := by decide +kernel
theorem dL_law_463 : decode cL_law 463 = .ok (.iaload, 1) := by decide +kernel
theorem dL_law_464 : decode cL_law 464 = .ok (.invokevirtual 49, 3) := by decide +kernel
theorem dL_law_467 : decode cL_law 467 = .ok (.if_icmp .eq 719, 3) := by decide +kernel
theorem dL_law_470 : decode cL_law 470 = .ok (.iconst 0, 1) := by decide +kernel
theorem dL_law_471 : decode cL_law 471 = .ok (.ireturn, 1) := by decide +kernel
theorem dL_law_472 : decode cL_law 472 = .ok (.aload_n 1, 1) := by decide +kernel
theorem dL_law_473 : decode cL_law 473 = .ok (.aload_n 0, 1) := by decide +kernel
theorem dL_law_474 : decode cL_law 474 = .ok (.iload_n 3, 1) := by decide +kernel
theorem dL_law_475 : decode cL_law 475 = .ok (.iconst 1, 1) := by decide +kernel
theorem dL_law_476 : decode cL_law 476 = .ok (.iadd, 1) := by decide +kernel
theorem dL_law_477 : decode cL_law 477 = .ok (.iaload, 1) := by decide +kernel
theorem dL_law_478 : decode cL_law 478 = .ok (.aload_n 0, 1) := by decide +kernel
theorem dL_law_479 : decode cL_law 479 = .ok (.iload_n 3, 1) := by decide +kernel
theorem dL_law_480 : decode cL_law 480 = .ok (.iconst 2, 1) := by decide +kernel
theorem dL_law_481 : decode cL_law 481 = .ok (.iadd, 1) := by decide +kernel
theorem dL_law_482 : decode cL_law 482 = .ok (.iaload, 1) := by decide +kernel
theorem dL_law_483 : decode cL_law 483 = .ok (.aload_n 0, 1) := by decide +kernel
theorem dL_law_484 : decode cL_law 484 = .ok (.iload_n 3, 1) := by decide +kernel
theorem dL_law_485 : decode cL_law 485 = .ok (.iconst 3, 1) := by decide +kernel
theorem dL_law_486 : decode cL_law 486 = .ok (.iadd, 1) := by decide +kernel
theorem dL_law_487 : decode cL_law 487 = .ok (.iaload, 1) := by decide +kernel
theorem dL_law_488 : decode cL_law 488 = .ok (.aload_n 0, 1) := by decide +kernel
theorem dL_law_489 : decode cL_law 489 = .ok (.iload_n 3, 1) := by decide +kernel
theorem dL_law_490 : decode cL_law 490 = .ok (.iconst 4, 1) := by decide +kernel
theorem dL_law_491 : decode cL_law 491 = .ok (.iadd, 1) := by decide +kernel
theorem dL_law_492 : decode cL_law 492 = .ok (.iaload, 1) := by decide +kernel
theorem dL_law_493 : decode cL_law 493 = .ok (.invokevirtual 50, 3) := by decide +kernel
theorem dL_law_496 : decode cL_law 496 = .ok (.aload_n 2, 1) := by decide +kernel
theorem dL_law_497 : decode cL_law 497 = .ok (.aload_n 0, 1) := by decide +kernel
theorem dL_law_498 : decode cL_law 498 = .ok (.iload_n 3, 1) := by decide +kernel
theorem dL_law_499 : decode cL_law 499 = .ok (.iconst 1, 1) := by decide +kernel
theorem dL_law_500 : decode cL_law 500 = .ok (.iadd, 1) := by decide +kernel
theorem dL_law_501 : decode cL_law 501 = .ok (.iaload, 1) := by decide +kernel
theorem dL_law_502 : decode cL_law 502 = .ok (.aload_n 0, 1) := by decide +kernel
theorem dL_law_503 : decode cL_law 503 = .ok (.iload_n 3, 1) := by decide +kernel
theorem dL_law_504 : decode cL_law 504 = .ok (.iconst 2, 1) := by decide +kernel
theorem dL_law_505 : decode cL_law 505 = .ok (.iadd, 1) := by decide +kernel
theorem dL_law_506 : decode cL_law 506 = .ok (.iaload, 1) := by decide +kernel
theorem dL_law_507 : decode cL_law 507 = .ok (.aload_n 0, 1) := by decide +kernel
theorem dL_law_508 : decode cL_law 508 = .ok (.iload_n 3, 1) := by decide +kernel
theorem dL_law_509 : decode cL_law 509 = .ok (.iconst 3, 1) := by decide +kernel
theorem dL_law_510 : decode cL_law 510 = .ok (.iadd, 1) := by decide +kernel
theorem dL_law_511 : decode cL_law 511 = .ok (.iaload, 1) := by decide +kernel
theorem dL_law_512 : decode cL_law 512 = .ok (.aload_n 0, 1) := by decide +kernel
theorem dL_law_513 : decode cL_law 513 = .ok (.iload_n 3, 1) := by decide +kernel
theorem dL_law_514 : decode cL_law 514 = .ok (.iconst 4, 1) := by decide +kernel
theorem dL_law_515 : decode cL_law 515 = .ok (.iadd, 1) := by decide +kernel
theorem dL_law_516 : decode cL_law 516 = .ok (.iaload, 1) := by decide +kernel
theorem dL_law_517 : decode cL_law 517 = .ok (.invokevirtual 53, 3) := by decide +kernel
theorem dL_law_520 : decode cL_law 520 = .ok (.if_icmp .eq 666, 3) := by decide +kernel
theorem dL_law_523 : decode cL_law 523 = .ok (.iconst 0, 1) := by decide +kernel
theorem dL_law_524 : decode cL_law 524 = .ok (.ireturn, 1) := by decide +kernel
theorem dL_law_525 : decode cL_law 525 = .ok (.aload_n 1, 1) := by decide +kernel
theorem dL_law_526 : decode cL_law 526 = .ok (.aload_n 0, 1) := by decide +kernel
theorem dL_law_527 : decode cL_law 527 = .ok (.iload_n 3, 1) := by decide +kernel
theorem dL_law_528 : decode cL_law 528 = .ok (.iconst 1, 1) := by decide +kernel
theorem dL_law_529 : decode cL_law 529 = .ok (.iadd, 1) := by decide +kernel
theorem dL_law_530 : decode cL_law 530 = .ok (.iaload, 1) := by decide +kernel
theorem dL_law_531 : decode cL_law 531 = .ok (.aload_n 0, 1) := by decide +kernel
theorem dL_law_532 : decode cL_law 532 = .ok (.iload_n 3, 1) := by decide +kernel
theorem dL_law_533 : decode cL_law 533 = .ok (.iconst 2, 1) := by decide +kernel
theorem dL_law_534 : decode cL_law 534 = .ok (.iadd, 1) := by decide +kernel
theorem dL_law_535 : decode cL_law 535 = .ok (.iaload, 1) := by decide +kernel
theorem dL_law_536 : decode cL_law 536 = .ok (.aload_n 0, 1) := by decide +kernel
theorem dL_law_537 : decode cL_law 537 = .ok (.iload_n 3, 1) := by decide +kernel
theorem dL_law_538 : decode cL_law 538 = .ok (.iconst 3, 1) := by decide +kernel
theorem dL_law_539 : decode cL_law 539 = .ok (.iadd, 1) := by decide +kernel
theorem dL_law_540 : decode cL_law 540 = .ok (.iaload, 1) := by decide +kernel
theorem dL_law_541 : decode cL_law 541 = .ok (.aload_n 0, 1) := by decide +kernel
theorem dL_law_542 : decode cL_law 542 = .ok (.iload_n 3, 1) := by decide +kernel
theorem dL_law_543 : decode cL_law 543 = .ok (.iconst 4, 1) := by decide +kernel
theorem dL_law_544 : decode cL_law 544 = .ok (.iadd, 1) := by decide +kernel
theorem dL_law_545 : decode cL_law 545 = .ok (.iaload, 1) := by decide +kernel
theorem dL_law_546 : decode cL_law 546 = .ok (.aload_n 0, 1) := by decide +kernel
theorem dL_law_547 : decode cL_law 547 = .ok (.iload_n 3, 1) := by decide +kernel
theorem dL_law_548 : decode cL_law 548 = .ok (.iconst 5, 1) := by decide +kernel
theorem dL_law_549 : decode cL_law 549 = .ok (.iadd, 1) := by decide +kernel
theorem dL_law_550 : decode cL_law 550 = .ok (.iaload, 1) := by decide +kernel
theorem dL_law_551 : decode cL_law 551 = .ok (.aload_n 0, 1) := by decide +kernel
theorem dL_law_552 : decode cL_law 552 = .ok (.iload_n 3, 1) := by decide +kernel
theorem dL_law_553 : decode cL_law 553 = .ok (.bipush 6, 2) := by decide +kernel
theorem dL_law_555 : decode cL_law 555 = .ok (.iadd, 1) := by decide +kernel
theorem dL_law_556 : decode cL_law 556 = .ok (.iaload, 1) := by decide +kernel
theorem dL_law_557 : decode cL_law 557 = .ok (.invokevirtual 54, 3) := by decide +kernel
theorem dL_law_560 : decode cL_law 560 = .ok (.aload_n 2, 1) := by decide +kernel
theorem dL_law_561 : decode cL_law 561 = .ok (.aload_n 0, 1) := by decide +kernel
theorem dL_law_562 : decode cL_law 562 = .ok (.iload_n 3, 1) := by decide +kernel
theorem dL_law_563 : decode cL_law 563 = .ok (.iconst 1, 1) := by decide +kernel
theorem dL_law_564 : decode cL_law 564 = .ok (.iadd, 1) := by decide +kernel
theorem dL_law_565 : decode cL_law 565 = .ok (.iaload, 1) := by decide +kernel
theorem dL_law_566 : decode cL_law 566 = .ok (.aload_n 0, 1) := by decide +kernel
theorem dL_law_567 : decode cL_law 567 = .ok (.iload_n 3, 1) := by decide +kernel
theorem dL_law_568 : decode cL_law 568 = .ok (.iconst 2, 1) := by decide +kernel
theorem dL_law_569 : decode cL_law 569 = .ok (.iadd, 1) := by decide +kernel
theorem dL_law_570 : decode cL_law 570 = .ok (.iaload, 1) := by decide +kernel
theorem dL_law_571 : decode cL_law 571 = .ok (.aload_n 0, 1) := by decide +kernel
theorem dL_law_572 : decode cL_law 572 = .ok (.iload_n 3, 1) := by decide +kernel
theorem dL_law_573 : decode cL_law 573 = .ok (.iconst 3, 1) := by decide +kernel
theorem dL_law_574 : decode cL_law 574 = .ok (.iadd, 1) := by decide +kernel
theorem dL_law_575 : decode cL_law 575 = .ok (.iaload, 1) := by decide +kernel
theorem dL_law_576 : decode cL_law 576 = .ok (.aload_n 0, 1) := by decide +kernel
theorem dL_law_577 : decode cL_law 577 = .ok (.iload_n 3, 1) := by decide +kernel
theorem dL_law_578 : decode cL_law 578 = .ok (.iconst 4, 1) := by decide +kernel
theorem dL_law_579 : decode cL_law 579 = .ok (.iadd, 1) := by decide +kernel
theorem dL_law_580 : decode cL_law 580 = .ok (.iaload, 1) := by decide +kernel
theorem dL_law_581 : decode cL_law 581 = .ok (.aload_n 0, 1) := by decide +kernel
theorem dL_law_582 : decode cL_law 582 = .ok (.iload_n 3, 1) := by decide +kernel
theorem dL_law_583 : decode cL_law 583 = .ok (.iconst 5, 1) := by decide +kernel
theorem dL_law_584 : decode cL_law 584 = .ok (.iadd, 1) := by decide +kernel
theorem dL_law_585 : decode cL_law 585 = .ok (.iaload, 1) := by decide +kernel
theorem dL_law_586 : decode cL_law 586 = .ok (.aload_n 0, 1) := by decide +kernel
theorem dL_law_587 : decode cL_law 587 = .ok (.iload_n 3, 1) := by decide +kernel
theorem dL_law_588 : decode cL_law 588 = .ok (.bipush 6, 2) := by decide +kernel
theorem dL_law_590 : decode cL_law 590 = .ok (.iadd, 1) := by decide +kernel
theorem dL_law_591 : decode cL_law 591 = .ok (.iaload, 1) := by decide +kernel
theorem dL_law_592 : decode cL_law 592 = .ok (.invokevirtual 58, 3) := by decide +kernel
theorem dL_law_595 : decode cL_law 595 = .ok (.if_icmp .eq 591, 3) := by decide +kernel
theorem dL_law_598 : decode cL_law 598 = .ok (.iconst 0, 1) := by decide +kernel
theorem dL_law_599 : decode cL_law 599 = .ok (.ireturn, 1) := by decide +kernel
theorem dL_law_600 : decode cL_law 600 = .ok (.aload_n 1, 1) := by decide +kernel
theorem dL_law_601 : decode cL_law 601 = .ok (.aload_n 0, 1) := by decide +kernel
theorem dL_law_602 : decode cL_law 602 = .ok (.iload_n 3, 1) := by decide +kernel
theorem dL_law_603 : decode cL_law 603 = .ok (.iconst 1, 1) := by decide +kernel
theorem dL_law_604 : decode cL_law 604 = .ok (.iadd, 1) := by decide +kernel
theorem dL_law_605 : decode cL_law 605 = .ok (.iaload, 1) := by decide +kernel
theorem dL_law_606 : decode cL_law 606 = .ok (.aload_n 0, 1) := by decide +kernel
theorem dL_law_607 : decode cL_law 607 = .ok (.iload_n 3, 1) := by decide +kernel
theorem dL_law_608 : decode cL_law 608 = .ok (.iconst 2, 1) := by decide +kernel
theorem dL_law_609 : decode cL_law 609 = .ok (.iadd, 1) := by decide +kernel
theorem dL_law_610 : decode cL_law 610 = .ok (.iaload, 1) := by decide +kernel
theorem dL_law_611 : decode cL_law 611 = .ok (.aload_n 0, 1) := by decide +kernel
theorem dL_law_612 : decode cL_law 612 = .ok (.iload_n 3, 1) := by decide +kernel
theorem dL_law_613 : decode cL_law 613 = .ok (.iconst 3, 1) := by decide +kernel
theorem dL_law_614 : decode cL_law 614 = .ok (.iadd, 1) := by decide +kernel
theorem dL_law_615 : decode cL_law 615 = .ok (.iaload, 1) := by decide +kernel
theorem dL_law_616 : decode cL_law 616 = .ok (.invokevirtual 59, 3) := by decide +kernel
theorem dL_law_619 : decode cL_law 619 = .ok (.aload_n 2, 1) := by decide +kernel
theorem dL_law_620 : decode cL_law 620 = .ok (.aload_n 0, 1) := by decide +kernel
theorem dL_law_621 : decode cL_law 621 = .ok (.iload_n 3, 1) := by decide +kernel
theorem dL_law_622 : decode cL_law 622 = .ok (.iconst 1, 1) := by decide +kernel
theorem dL_law_623 : decode cL_law 623 = .ok (.iadd, 1) := by decide +kernel
theorem dL_law_624 : decode cL_law 624 = .ok (.iaload, 1) := by decide +kernel
theorem dL_law_625 : decode cL_law 625 = .ok (.aload_n 0, 1) := by decide +kernel
theorem dL_law_626 : decode cL_law 626 = .ok (.iload_n 3, 1) := by decide +kernel
theorem dL_law_627 : decode cL_law 627 = .ok (.iconst 2, 1) := by decide +kernel
theorem dL_law_628 : decode cL_law 628 = .ok (.iadd, 1) := by decide +kernel
theorem dL_law_629 : decode cL_law 629 = .ok (.iaload, 1) := by decide +kernel
theorem dL_law_630 : decode cL_law 630 = .ok (.aload_n 0, 1) := by decide +kernel
theorem dL_law_631 : decode cL_law 631 = .ok (.iload_n 3, 1) := by decide +kernel
theorem dL_law_632 : decode cL_law 632 = .ok (.iconst 3, 1) := by decide +kernel
theorem dL_law_633 : decode cL_law 633 = .ok (.iadd, 1) := by decide +kernel
theorem dL_law_634 : decode cL_law 634 = .ok (.iaload, 1) := by decide +kernel
theorem dL_law_635 : decode cL_law 635 = .ok (.invokevirtual 62, 3) := by decide +kernel
theorem dL_law_638 : decode cL_law 638 = .ok (.if_icmp .eq 548, 3) := by decide +kernel
theorem dL_law_641 : decode cL_law 641 = .ok (.iconst 0, 1) := by decide +kernel
theorem dL_law_642 : decode cL_law 642 = .ok (.ireturn, 1) := by decide +kernel
theorem dL_law_643 : decode cL_law 643 = .ok (.aload_n 1, 1) := by decide +kernel
theorem dL_law_644 : decode cL_law 644 = .ok (.aload_n 0, 1) := by decide +kernel
theorem dL_law_645 : decode cL_law 645 = .ok (.iload_n 3, 1) := by decide +kernel
theorem dL_law_646 : decode cL_law 646 = .ok (.iconst 1, 1) := by decide +kernel
theorem dL_law_647 : decode cL_law 647 = .ok (.iadd, 1) := by decide +kernel
theorem dL_law_648 : decode cL_law 648 = .ok (.iaload, 1) := by decide +kernel
theorem dL_law_649 : decode cL_law 649 = .ok (.aload_n 0, 1) := by decide +kernel
theorem dL_law_650 : decode cL_law 650 = .ok (.iload_n 3, 1) := by decide +kernel
theorem dL_law_651 : decode cL_law 651 = .ok (.iconst 2, 1) := by decide +kernel
theorem dL_law_652 : decode cL_law 652 = .ok (.iadd, 1) := by decide +kernel
theorem dL_law_653 : decode cL_law 653 = .ok (.iaload, 1) := by decide +kernel
theorem dL_law_654 : decode cL_law 654 = .ok (.aload_n 0, 1) := by decide +kernel
theorem dL_law_655 : decode cL_law 655 = .ok (.iload_n 3, 1) := by decide +kernel
theorem dL_law_656 : decode cL_law 656 = .ok (.iconst 3, 1) := by decide +kernel
theorem dL_law_657 : decode cL_law 657 = .ok (.iadd, 1) := by decide +kernel
theorem dL_law_658 : decode cL_law 658 = .ok (.iaload, 1) := by decide +kernel
theorem dL_law_659 : decode cL_law 659 = .ok (.aload_n 0, 1) := by decide +kernel
theorem dL_law_660 : decode cL_law 660 = .ok (.iload_n 3, 1) := by decide +kernel
theorem dL_law_661 : decode cL_law 661 = .ok (.iconst 4, 1) := by decide +kernel
theorem dL_law_662 : decode cL_law 662 = .ok (.iadd, 1) := by decide +kernel
theorem dL_law_663 : decode cL_law 663 = .ok (.iaload, 1) := by decide +kernel
theorem dL_law_664 : decode cL_law 664 = .ok (.invokevirtual 63, 3) := by decide +kernel
theorem dL_law_667 : decode cL_law 667 = .ok (.aload_n 2, 1) := by decide +kernel
theorem dL_law_668 : decode cL_law 668 = .ok (.aload_n 0, 1) := by decide +kernel
theorem dL_law_669 : decode cL_law 669 = .ok (.iload_n 3, 1) := by decide +kernel
theorem dL_law_670 : decode cL_law 670 = .ok (.iconst 1, 1) := by decide +kernel
theorem dL_law_671 : decode cL_law 671 = .ok (.iadd, 1) := by decide +kernel
theorem dL_law_672 : decode cL_law 672 = .ok (.iaload, 1) := by decide +kernel
theorem dL_law_673 : decode cL_law 673 = .ok (.aload_n 0, 1) := by decide +kernel
theorem dL_law_674 : decode cL_law 674 = .ok (.iload_n 3, 1) := by decide +kernel
theorem dL_law_675 : decode cL_law 675 = .ok (.iconst 2, 1) := by decide +kernel
theorem dL_law_676 : decode cL_law 676 = .ok (.iadd, 1) := by decide +kernel
theorem dL_law_677 : decode cL_law 677 = .ok (.iaload, 1) := by decide +kernel
theorem dL_law_678 : decode cL_law 678 = .ok (.aload_n 0, 1) := by decide +kernel
theorem dL_law_679 : decode cL_law 679 = .ok (.iload_n 3, 1) := by decide +kernel
theorem dL_law_680 : decode cL_law 680 = .ok (.iconst 3, 1) := by decide +kernel
theorem dL_law_681 : decode cL_law 681 = .ok (.iadd, 1) := by decide +kernel
theorem dL_law_682 : decode cL_law 682 = .ok (.iaload, 1) := by decide +kernel
theorem dL_law_683 : decode cL_law 683 = .ok (.aload_n 0, 1) := by decide +kernel
theorem dL_law_684 : decode cL_law 684 = .ok (.iload_n 3, 1) := by decide +kernel
theorem dL_law_685 : decode cL_law 685 = .ok (.iconst 4, 1) := by decide +kernel
theorem dL_law_686 : decode cL_law 686 = .ok (.iadd, 1) := by decide +kernel
theorem dL_law_687 : decode cL_law 687 = .ok (.iaload, 1) := by decide +kernel
theorem dL_law_688 : decode cL_law 688 = .ok (.invokevirtual 66, 3) := by decide +kernel
theorem dL_law_691 : decode cL_law 691 = .ok (.if_icmp .eq 495, 3) := by decide +kernel
theorem dL_law_694 : decode cL_law 694 = .ok (.iconst 0, 1) := by decide +kernel
theorem dL_law_695 : decode cL_law 695 = .ok (.ireturn, 1) := by decide +kernel
theorem dL_law_696 : decode cL_law 696 = .ok (.aload_n 1, 1) := by decide +kernel
theorem dL_law_697 : decode cL_law 697 = .ok (.aload_n 0, 1) := by decide +kernel
theorem dL_law_698 : decode cL_law 698 = .ok (.iload_n 3, 1) := by decide +kernel
theorem dL_law_699 : decode cL_law 699 = .ok (.iconst 1, 1) := by decide +kernel
theorem dL_law_700 : decode cL_law 700 = .ok (.iadd, 1) := by decide +kernel
theorem dL_law_701 : decode cL_law 701 = .ok (.iaload, 1) := by decide +kernel
theorem dL_law_702 : decode cL_law 702 = .ok (.aload_n 0, 1) := by decide +kernel
theorem dL_law_703 : decode cL_law 703 = .ok (.iload_n 3, 1) := by decide +kernel
theorem dL_law_704 : decode cL_law 704 = .ok (.iconst 2, 1) := by decide +kernel
theorem dL_law_705 : decode cL_law 705 = .ok (.iadd, 1) := by decide +kernel
theorem dL_law_706 : decode cL_law 706 = .ok (.iaload, 1) := by decide +kernel
theorem dL_law_707 : decode cL_law 707 = .ok (.invokevirtual 67, 3) := by decide +kernel
theorem dL_law_710 : decode cL_law 710 = .ok (.aload_n 2, 1) := by decide +kernel
theorem dL_law_711 : decode cL_law 711 = .ok (.aload_n 0, 1) := by decide +kernel
theorem dL_law_712 : decode cL_law 712 = .ok (.iload_n 3, 1) := by decide +kernel
theorem dL_law_713 : decode cL_law 713 = .ok (.iconst 1, 1) := by decide +kernel
theorem dL_law_714 : decode cL_law 714 = .ok (.iadd, 1) := by decide +kernel
theorem dL_law_715 : decode cL_law 715 = .ok (.iaload, 1) := by decide +kernel
theorem dL_law_716 : decode cL_law 716 = .ok (.aload_n 0, 1) := by decide +kernel
theorem dL_law_717 : decode cL_law 717 = .ok (.iload_n 3, 1) := by decide +kernel
theorem dL_law_718 : decode cL_law 718 = .ok (.iconst 2, 1) := by decide +kernel
theorem dL_law_719 : decode cL_law 719 = .ok (.iadd, 1) := by decide +kernel
theorem dL_law_720 : decode cL_law 720 = .ok (.iaload, 1) := by decide +kernel
theorem dL_law_721 : decode cL_law 721 = .ok (.invokevirtual 70, 3) := by decide +kernel
theorem dL_law_724 : decode cL_law 724 = .ok (.if_icmp .eq 462, 3) := by decide +kernel
theorem dL_law_727 : decode cL_law 727 = .ok (.iconst 0, 1) := by decide +kernel
theorem dL_law_728 : decode cL_law 728 = .ok (.ireturn, 1) := by decide +kernel
theorem dL_law_729 : decode cL_law 729 = .ok (.aload_n 1, 1) := by decide +kernel
theorem dL_law_730 : decode cL_law 730 = .ok (.aload_n 0, 1) := by decide +kernel
theorem dL_law_731 : decode cL_law 731 = .ok (.iload_n 3, 1) := by decide +kernel
theorem dL_law_732 : decode cL_law 732 = .ok (.iconst 1, 1) := by decide +kernel
theorem dL_law_733 : decode cL_law 733 = .ok (.iadd, 1) := by decide +kernel
theorem dL_law_734 : decode cL_law 734 = .ok (.iaload, 1) := by decide +kernel
theorem dL_law_735 : decode cL_law 735 = .ok (.invokevirtual 71, 3) := by decide +kernel
theorem dL_law_738 : decode cL_law 738 = .ok (.aload_n 2, 1) := by decide +kernel
theorem dL_law_739 : decode cL_law 739 = .ok (.aload_n 0, 1) := by decide +kernel
theorem dL_law_740 : decode cL_law 740 = .ok (.iload_n 3, 1) := by decide +kernel
theorem dL_law_741 : decode cL_law 741 = .ok (.iconst 1, 1) := by decide +kernel
theorem dL_law_742 : decode cL_law 742 = .ok (.iadd, 1) := by decide +kernel
theorem dL_law_743 : decode cL_law 743 = .ok (.iaload, 1) := by decide +kernel
theorem dL_law_744 : decode cL_law 744 = .ok (.invokevirtual 74, 3) := by decide +kernel
theorem dL_law_747 : decode cL_law 747 = .ok (.if_icmp .eq 439, 3) := by decide +kernel
theorem dL_law_750 : decode cL_law 750 = .ok (.iconst 0, 1) := by decide +kernel
theorem dL_law_751 : decode cL_law 751 = .ok (.ireturn, 1) := by decide +kernel
theorem dL_law_752 : decode cL_law 752 = .ok (.aload_n 1, 1) := by decide +kernel
theorem dL_law_753 : decode cL_law 753 = .ok (.aload_n 0, 1) := by decide +kernel
theorem dL_law_754 : decode cL_law 754 = .ok (.iload_n 3, 1) := by decide +kernel
theorem dL_law_755 : decode cL_law 755 = .ok (.iconst 1, 1) := by decide +kernel
theorem dL_law_756 : decode cL_law 756 = .ok (.iadd, 1) := by decide +kernel
theorem dL_law_757 : decode cL_law 757 = .ok (.iaload, 1) := by decide +kernel
theorem dL_law_758 : decode cL_law 758 = .ok (.aload_n 0, 1) := by decide +kernel
theorem dL_law_759 : decode cL_law 759 = .ok (.iload_n 3, 1) := by decide +kernel
theorem dL_law_760 : decode cL_law 760 = .ok (.iconst 2, 1) := by decide +kernel
theorem dL_law_761 : decode cL_law 761 = .ok (.iadd, 1) := by decide +kernel
theorem dL_law_762 : decode cL_law 762 = .ok (.iaload, 1) := by decide +kernel
theorem dL_law_763 : decode cL_law 763 = .ok (.invokevirtual 75, 3) := by decide +kernel
theorem dL_law_766 : decode cL_law 766 = .ok (.aload_n 2, 1) := by decide +kernel
theorem dL_law_767 : decode cL_law 767 = .ok (.aload_n 0, 1) := by decide +kernel
theorem dL_law_768 : decode cL_law 768 = .ok (.iload_n 3, 1) := by decide +kernel
theorem dL_law_769 : decode cL_law 769 = .ok (.iconst 1, 1) := by decide +kernel
theorem dL_law_770 : decode cL_law 770 = .ok (.iadd, 1) := by decide +kernel
theorem dL_law_771 : decode cL_law 771 = .ok (.iaload, 1) := by decide +kernel
theorem dL_law_772 : decode cL_law 772 = .ok (.aload_n 0, 1) := by decide +kernel
theorem dL_law_773 : decode cL_law 773 = .ok (.iload_n 3, 1) := by decide +kernel
theorem dL_law_774 : decode cL_law 774 = .ok (.iconst 2, 1) := by decide +kernel
theorem dL_law_775 : decode cL_law 775 = .ok (.iadd, 1) := by decide +kernel
theorem dL_law_776 : decode cL_law 776 = .ok (.iaload, 1) := by decide +kernel
theorem dL_law_777 : decode cL_law 777 = .ok (.invokevirtual 78, 3) := by decide +kernel
theorem dL_law_780 : decode cL_law 780 = .ok (.if_icmp .eq 406, 3) := by decide +kernel
theorem dL_law_783 : decode cL_law 783 = .ok (.iconst 0, 1) := by decide +kernel
theorem dL_law_784 : decode cL_law 784 = .ok (.ireturn, 1) := by decide +kernel
theorem dL_law_785 : decode cL_law 785 = .ok (.aload_n 1, 1) := by decide +kernel
theorem dL_law_786 : decode cL_law 786 = .ok (.aload_n 0, 1) := by decide +kernel
theorem dL_law_787 : decode cL_law 787 = .ok (.iload_n 3, 1) := by decide +kernel
theorem dL_law_788 : decode cL_law 788 = .ok (.iconst 1, 1) := by decide +kernel
theorem dL_law_789 : decode cL_law 789 = .ok (.iadd, 1) := by decide +kernel
theorem dL_law_790 : decode cL_law 790 = .ok (.iaload, 1) := by decide +kernel
theorem dL_law_791 : decode cL_law 791 = .ok (.aload_n 0, 1) := by decide +kernel
theorem dL_law_792 : decode cL_law 792 = .ok (.iload_n 3, 1) := by decide +kernel
theorem dL_law_793 : decode cL_law 793 = .ok (.iconst 2, 1) := by decide +kernel
theorem dL_law_794 : decode cL_law 794 = .ok (.iadd, 1) := by decide +kernel
theorem dL_law_795 : decode cL_law 795 = .ok (.iaload, 1) := by decide +kernel
theorem dL_law_796 : decode cL_law 796 = .ok (.aload_n 0, 1) := by decide +kernel
theorem dL_law_797 : decode cL_law 797 = .ok (.iload_n 3, 1) := by decide +kernel
theorem dL_law_798 : decode cL_law 798 = .ok (.iconst 3, 1) := by decide +kernel
theorem dL_law_799 : decode cL_law 799 = .ok (.iadd, 1) := by decide +kernel
theorem dL_law_800 : decode cL_law 800 = .ok (.iaload, 1) := by decide +kernel
theorem dL_law_801 : decode cL_law 801 = .ok (.invokevirtual 79, 3) := by decide +kernel
theorem dL_law_804 : decode cL_law 804 = .ok (.aload_n 2, 1) := by decide +kernel
theorem dL_law_805 : decode cL_law 805 = .ok (.aload_n 0, 1) := by decide +kernel
theorem dL_law_806 : decode cL_law 806 = .ok (.iload_n 3, 1) := by decide +kernel
theorem dL_law_807 : decode cL_law 807 = .ok (.iconst 1, 1) := by decide +kernel
theorem dL_law_808 : decode cL_law 808 = .ok (.iadd, 1) := by decide +kernel
theorem dL_law_809 : decode cL_law 809 = .ok (.iaload, 1) := by decide +kernel
theorem dL_law_810 : decode cL_law 810 = .ok (.aload_n 0, 1) := by decide +kernel
theorem dL_law_811 : decode cL_law 811 = .ok (.iload_n 3, 1) := by decide +kernel
theorem dL_law_812 : decode cL_law 812 = .ok (.iconst 2, 1) := by decide +kernel
theorem dL_law_813 : decode cL_law 813 = .ok (.iadd, 1) := by decide +kernel
theorem dL_law_814 : decode cL_law 814 = .ok (.iaload, 1) := by decide +kernel
theorem dL_law_815 : decode cL_law 815 = .ok (.aload_n 0, 1) := by decide +kernel
theorem dL_law_816 : decode cL_law 816 = .ok (.iload_n 3, 1) := by decide +kernel
theorem dL_law_817 : decode cL_law 817 = .ok (.iconst 3, 1) := by decide +kernel
theorem dL_law_818 : decode cL_law 818 = .ok (.iadd, 1) := by decide +kernel
theorem dL_law_819 : decode cL_law 819 = .ok (.iaload, 1) := by decide +kernel
theorem dL_law_820 : decode cL_law 820 = .ok (.invokevirtual 82, 3) := by decide +kernel
theorem dL_law_823 : decode cL_law 823 = .ok (.if_icmp .eq 363, 3) := by decide +kernel
theorem dL_law_826 : decode cL_law 826 = .ok (.iconst 0, 1) := by decide +kernel
theorem dL_law_827 : decode cL_law 827 = .ok (.ireturn, 1) := by decide +kernel
theorem dL_law_828 : decode cL_law 828 = .ok (.aload_n 1, 1) := by decide +kernel
theorem dL_law_829 : decode cL_law 829 = .ok (.aload_n 0, 1) := by decide +kernel
theorem dL_law_830 : decode cL_law 830 = .ok (.iload_n 3, 1) := by decide +kernel
theorem dL_law_831 : decode cL_law 831 = .ok (.iconst 1, 1) := by decide +kernel
theorem dL_law_832 : decode cL_law 832 = .ok (.iadd, 1) := by decide +kernel
theorem dL_law_833 : decode cL_law 833 = .ok (.iaload, 1) := by decide +kernel
theorem dL_law_834 : decode cL_law 834 = .ok (.aload_n 0, 1) := by decide +kernel
theorem dL_law_835 : decode cL_law 835 = .ok (.iload_n 3, 1) := by decide +kernel
theorem dL_law_836 : decode cL_law 836 = .ok (.iconst 2, 1) := by decide +kernel
theorem dL_law_837 : decode cL_law 837 = .ok (.iadd, 1) := by decide +kernel
theorem dL_law_838 : decode cL_law 838 = .ok (.iaload, 1) := by decide +kernel
theorem dL_law_839 : decode cL_law 839 = .ok (.invokevirtual 83, 3) := by decide +kernel
theorem dL_law_842 : decode cL_law 842 = .ok (.aload_n 2, 1) := by decide +kernel
theorem dL_law_843 : decode cL_law 843 = .ok (.aload_n 0, 1) := by decide +kernel
theorem dL_law_844 : decode cL_law 844 = .ok (.iload_n 3, 1) := by decide +kernel
theorem dL_law_845 : decode cL_law 845 = .ok (.iconst 1, 1) := by decide +kernel
theorem dL_law_846 : decode cL_law 846 = .ok (.iadd, 1) := by decide +kernel
theorem dL_law_847 : decode cL_law 847 = .ok (.iaload, 1) := by decide +kernel
theorem dL_law_848 : decode cL_law 848 = .ok (.aload_n 0, 1) := by decide +kernel
theorem dL_law_849 : decode cL_law 849 = .ok (.iload_n 3, 1) := by decide +kernel
theorem dL_law_850 : decode cL_law 850 = .ok (.iconst 2, 1) := by decide +kernel
theorem dL_law_851 : decode cL_law 851 = .ok (.iadd, 1) := by decide +kernel
theorem dL_law_852 : decode cL_law 852 = .ok (.iaload, 1) := by decide +kernel
theorem dL_law_853 : decode cL_law 853 = .ok (.invokevirtual 86, 3) := by decide +kernel
theorem dL_law_856 : decode cL_law 856 = .ok (.if_icmp .eq 330, 3) := by decide +kernel
theorem dL_law_859 : decode cL_law 859 = .ok (.iconst 0, 1) := by decide +kernel
theorem dL_law_860 : decode cL_law 860 = .ok (.ireturn, 1) := by decide +kernel
theorem dL_law_861 : decode cL_law 861 = .ok (.aload_n 1, 1) := by decide +kernel
theorem dL_law_862 : decode cL_law 862 = .ok (.aload_n 0, 1) := by decide +kernel
theorem dL_law_863 : decode cL_law 863 = .ok (.iload_n 3, 1) := by decide +kernel
theorem dL_law_864 : decode cL_law 864 = .ok (.iconst 1, 1) := by decide +kernel
theorem dL_law_865 : decode cL_law 865 = .ok (.iadd, 1) := by decide +kernel
theorem dL_law_866 : decode cL_law 866 = .ok (.iaload, 1) := by decide +kernel
theorem dL_law_867 : decode cL_law 867 = .ok (.aload_n 0, 1) := by decide +kernel
theorem dL_law_868 : decode cL_law 868 = .ok (.iload_n 3, 1) := by decide +kernel
theorem dL_law_869 : decode cL_law 869 = .ok (.iconst 2, 1) := by decide +kernel
theorem dL_law_870 : decode cL_law 870 = .ok (.iadd, 1) := by decide +kernel
theorem dL_law_871 : decode cL_law 871 = .ok (.iaload, 1) := by decide +kernel
theorem dL_law_872 : decode cL_law 872 = .ok (.aload_n 0, 1) := by decide +kernel
theorem dL_law_873 : decode cL_law 873 = .ok (.iload_n 3, 1) := by decide +kernel
theorem dL_law_874 : decode cL_law 874 = .ok (.iconst 3, 1) := by decide +kernel
theorem dL_law_875 : decode cL_law 875 = .ok (.iadd, 1) := by decide +kernel
theorem dL_law_876 : decode cL_law 876 = .ok (.iaload, 1) := by decide +kernel
theorem dL_law_877 : decode cL_law 877 = .ok (.aload_n 0, 1) := by decide +kernel
theorem dL_law_878 : decode cL_law 878 = .ok (.iload_n 3, 1) := by decide +kernel
theorem dL_law_879 : decode cL_law 879 = .ok (.iconst 4, 1) := by decide +kernel
theorem dL_law_880 : decode cL_law 880 = .ok (.iadd, 1) := by decide +kernel
theorem dL_law_881 : decode cL_law 881 = .ok (.iaload, 1) := by decide +kernel
theorem dL_law_882 : decode cL_law 882 = .ok (.invokevirtual 87, 3) := by decide +kernel
theorem dL_law_885 : decode cL_law 885 = .ok (.aload_n 2, 1) := by decide +kernel
theorem dL_law_886 : decode cL_law 886 = .ok (.aload_n 0, 1) := by decide +kernel
theorem dL_law_887 : decode cL_law 887 = .ok (.iload_n 3, 1) := by decide +kernel
theorem dL_law_888 : decode cL_law 888 = .ok (.iconst 1, 1) := by decide +kernel
theorem dL_law_889 : decode cL_law 889 = .ok (.iadd, 1) := by decide +kernel
theorem dL_law_890 : decode cL_law 890 = .ok (.iaload, 1) := by decide +kernel
theorem dL_law_891 : decode cL_law 891 = .ok (.aload_n 0, 1) := by decide +kernel
theorem dL_law_892 : decode cL_law 892 = .ok (.iload_n 3, 1) := by decide +kernel
theorem dL_law_893 : decode cL_law 893 = .ok (.iconst 2, 1) := by decide +kernel
theorem dL_law_894 : decode cL_law 894 = .ok (.iadd, 1) := by decide +kernel
theorem dL_law_895 : decode cL_law 895 = .ok (.iaload, 1) := by decide +kernel
theorem dL_law_896 : decode cL_law 896 = .ok (.aload_n 0, 1) := by decide +kernel
theorem dL_law_897 : decode cL_law 897 = .ok (.iload_n 3, 1) := by decide +kernel
theorem dL_law_898 : decode cL_law 898 = .ok (.iconst 3, 1) := by decide +kernel
theorem dL_law_899 : decode cL_law 899 = .ok (.iadd, 1) := by decide +kernel
theorem dL_law_900 : decode cL_law 900 = .ok (.iaload, 1) := by decide +kernel
theorem dL_law_901 : decode cL_law 901 = .ok (.aload_n 0, 1) := by decide +kernel
theorem dL_law_902 : decode cL_law 902 = .ok (.iload_n 3, 1) := by decide +kernel
theorem dL_law_903 : decode cL_law 903 = .ok (.iconst 4, 1) := by decide +kernel
theorem dL_law_904 : decode cL_law 904 = .ok (.iadd, 1) := by decide +kernel
theorem dL_law_905 : decode cL_law 905 = .ok (.iaload, 1) := by decide +kernel
theorem dL_law_906 : decode cL_law 906 = .ok (.invokevirtual 90, 3) := by decide +kernel
theorem dL_law_909 : decode cL_law 909 = .ok (.if_icmp .eq 277, 3) := by decide +kernel
theorem dL_law_912 : decode cL_law 912 = .ok (.iconst 0, 1) := by decide +kernel
theorem dL_law_913 : decode cL_law 913 = .ok (.ireturn, 1) := by decide +kernel
theorem dL_law_914 : decode cL_law 914 = .ok (.aload_n 1, 1) := by decide +kernel
theorem dL_law_915 : decode cL_law 915 = .ok (.aload_n 0, 1) := by decide +kernel
theorem dL_law_916 : decode cL_law 916 = .ok (.iload_n 3, 1) := by decide +kernel
theorem dL_law_917 : decode cL_law 917 = .ok (.iconst 1, 1) := by decide +kernel
theorem dL_law_918 : decode cL_law 918 = .ok (.iadd, 1) := by decide +kernel
theorem dL_law_919 : decode cL_law 919 = .ok (.iaload, 1) := by decide +kernel
theorem dL_law_920 : decode cL_law 920 = .ok (.aload_n 0, 1) := by decide +kernel
theorem dL_law_921 : decode cL_law 921 = .ok (.iload_n 3, 1) := by decide +kernel
theorem dL_law_922 : decode cL_law 922 = .ok (.iconst 2, 1) := by decide +kernel
theorem dL_law_923 : decode cL_law 923 = .ok (.iadd, 1) := by decide +kernel
theorem dL_law_924 : decode cL_law 924 = .ok (.iaload, 1) := by decide +kernel
theorem dL_law_925 : decode cL_law 925 = .ok (.aload_n 0, 1) := by decide +kernel
theorem dL_law_926 : decode cL_law 926 = .ok (.iload_n 3, 1) := by decide +kernel
theorem dL_law_927 : decode cL_law 927 = .ok (.iconst 3, 1) := by decide +kernel
theorem dL_law_928 : decode cL_law 928 = .ok (.iadd, 1) := by decide +kernel
theorem dL_law_929 : decode cL_law 929 = .ok (.iaload, 1) := by decide +kernel
theorem dL_law_930 : decode cL_law 930 = .ok (.aload_n 0, 1) := by decide +kernel
theorem dL_law_931 : decode cL_law 931 = .ok (.iload_n 3, 1) := by decide +kernel
theorem dL_law_932 : decode cL_law 932 = .ok (.iconst 4, 1) := by decide +kernel
theorem dL_law_933 : decode cL_law 933 = .ok (.iadd, 1) := by decide +kernel
theorem dL_law_934 : decode cL_law 934 = .ok (.iaload, 1) := by decide +kernel
theorem dL_law_935 : decode cL_law 935 = .ok (.aload_n 0, 1) := by decide +kernel
theorem dL_law_936 : decode cL_law 936 = .ok (.iload_n 3, 1) := by decide +kernel
theorem dL_law_937 : decode cL_law 937 = .ok (.iconst 5, 1) := by decide +kernel
theorem dL_law_938 : decode cL_law 938 = .ok (.iadd, 1) := by decide +kernel
theorem dL_law_939 : decode cL_law 939 = .ok (.iaload, 1) := by decide +kernel
theorem dL_law_940 : decode cL_law 940 = .ok (.invokevirtual 91, 3) := by decide +kernel
theorem dL_law_943 : decode cL_law 943 = .ok (.aload_n 2, 1) := by decide +kernel
theorem dL_law_944 : decode cL_law 944 = .ok (.aload_n 0, 1) := by decide +kernel
theorem dL_law_945 : decode cL_law 945 = .ok (.iload_n 3, 1) := by decide +kernel
theorem dL_law_946 : decode cL_law 946 = .ok (.iconst 1, 1) := by decide +kernel
theorem dL_law_947 : decode cL_law 947 = .ok (.iadd, 1) := by decide +kernel
theorem dL_law_948 : decode cL_law 948 = .ok (.iaload, 1) := by decide +kernel
theorem dL_law_949 : decode cL_law 949 = .ok (.aload_n 0, 1) := by decide +kernel
theorem dL_law_950 : decode cL_law 950 = .ok (.iload_n 3, 1) := by decide +kernel
theorem dL_law_951 : decode cL_law 951 = .ok (.iconst 2, 1) := by decide +kernel
theorem dL_law_952 : decode cL_law 952 = .ok (.iadd, 1) := by decide +kernel
theorem dL_law_953 : decode cL_law 953 = .ok (.iaload, 1) := by decide +kernel
theorem dL_law_954 : decode cL_law 954 = .ok (.aload_n 0, 1) := by decide +kernel
theorem dL_law_955 : decode cL_law 955 = .ok (.iload_n 3, 1) := by decide +kernel
theorem dL_law_956 : decode cL_law 956 = .ok (.iconst 3, 1) := by decide +kernel
theorem dL_law_957 : decode cL_law 957 = .ok (.iadd, 1) := by decide +kernel
theorem dL_law_958 : decode cL_law 958 = .ok (.iaload, 1) := by decide +kernel
theorem dL_law_959 : decode cL_law 959 = .ok (.aload_n 0, 1) := by decide +kernel
theorem dL_law_960 : decode cL_law 960 = .ok (.iload_n 3, 1) := by decide +kernel
theorem dL_law_961 : decode cL_law 961 = .ok (.iconst 4, 1) := by decide +kernel
theorem dL_law_962 : decode cL_law 962 = .ok (.iadd, 1) := by decide +kernel
theorem dL_law_963 : decode cL_law 963 = .ok (.iaload, 1) := by decide +kernel
theorem dL_law_964 : decode cL_law 964 = .ok (.aload_n 0, 1) := by decide +kernel
theorem dL_law_965 : decode cL_law 965 = .ok (.iload_n 3, 1) := by decide +kernel
theorem dL_law_966 : decode cL_law 966 = .ok (.iconst 5, 1) := by decide +kernel
theorem dL_law_967 : decode cL_law 967 = .ok (.iadd, 1) := by decide +kernel
theorem dL_law_968 : decode cL_law 968 = .ok (.iaload, 1) := by decide +kernel
theorem dL_law_969 : decode cL_law 969 = .ok (.invokevirtual 94, 3) := by decide +kernel
theorem dL_law_972 : decode cL_law 972 = .ok (.if_icmp .eq 214, 3) := by decide +kernel
theorem dL_law_975 : decode cL_law 975 = .ok (.iconst 0, 1) := by decide +kernel
theorem dL_law_976 : decode cL_law 976 = .ok (.ireturn, 1) := by decide +kernel
theorem dL_law_977 : decode cL_law 977 = .ok (.aload_n 1, 1) := by decide +kernel
theorem dL_law_978 : decode cL_law 978 = .ok (.aload_n 0, 1) := by decide +kernel
theorem dL_law_979 : decode cL_law 979 = .ok (.iload_n 3, 1) := by decide +kernel
theorem dL_law_980 : decode cL_law 980 = .ok (.iconst 1, 1) := by decide +kernel
theorem dL_law_981 : decode cL_law 981 = .ok (.iadd, 1) := by decide +kernel
theorem dL_law_982 : decode cL_law 982 = .ok (.iaload, 1) := by decide +kernel
theorem dL_law_983 : decode cL_law 983 = .ok (.aload_n 0, 1) := by decide +kernel
theorem dL_law_984 : decode cL_law 984 = .ok (.iload_n 3, 1) := by decide +kernel
theorem dL_law_985 : decode cL_law 985 = .ok (.iconst 2, 1) := by decide +kernel
theorem dL_law_986 : decode cL_law 986 = .ok (.iadd, 1) := by decide +kernel
theorem dL_law_987 : decode cL_law 987 = .ok (.iaload, 1) := by decide +kernel
theorem dL_law_988 : decode cL_law 988 = .ok (.invokevirtual 95, 3) := by decide +kernel
theorem dL_law_991 : decode cL_law 991 = .ok (.aload_n 2, 1) := by decide +kernel
theorem dL_law_992 : decode cL_law 992 = .ok (.aload_n 0, 1) := by decide +kernel
theorem dL_law_993 : decode cL_law 993 = .ok (.iload_n 3, 1) := by decide +kernel
theorem dL_law_994 : decode cL_law 994 = .ok (.iconst 1, 1) := by decide +kernel
theorem dL_law_995 : decode cL_law 995 = .ok (.iadd, 1) := by decide +kernel
theorem dL_law_996 : decode cL_law 996 = .ok (.iaload, 1) := by decide +kernel
theorem dL_law_997 : decode cL_law 997 = .ok (.aload_n 0, 1) := by decide +kernel
theorem dL_law_998 : decode cL_law 998 = .ok (.iload_n 3, 1) := by decide +kernel
theorem dL_law_999 : decode cL_law 999 = .ok (.iconst 2, 1) := by decide +kernel
theorem dL_law_1000 : decode cL_law 1000 = .ok (.iadd, 1) := by decide +kernel
theorem dL_law_1001 : decode cL_law 1001 = .ok (.iaload, 1) := by decide +kernel
theorem dL_law_1002 : decode cL_law 1002 = .ok (.invokevirtual 98, 3) := by decide +kernel
theorem dL_law_1005 : decode cL_law 1005 = .ok (.if_icmp .eq 181, 3) := by decide +kernel
theorem dL_law_1008 : decode cL_law 1008 = .ok (.iconst 0, 1) := by decide +kernel
theorem dL_law_1009 : decode cL_law 1009 = .ok (.ireturn, 1) := by decide +kernel
theorem dL_law_1010 : decode cL_law 1010 = .ok (.aload_n 1, 1) := by decide +kernel
theorem dL_law_1011 : decode cL_law 1011 = .ok (.aload_n 0, 1) := by decide +kernel
theorem dL_law_1012 : decode cL_law 1012 = .ok (.iload_n 3, 1) := by decide +kernel
theorem dL_law_1013 : decode cL_law 1013 = .ok (.iconst 1, 1) := by decide +kernel
theorem dL_law_1014 : decode cL_law 1014 = .ok (.iadd, 1) := by decide +kernel
theorem dL_law_1015 : decode cL_law 1015 = .ok (.iaload, 1) := by decide +kernel
theorem dL_law_1016 : decode cL_law 1016 = .ok (.aload_n 0, 1) := by decide +kernel
theorem dL_law_1017 : decode cL_law 1017 = .ok (.iload_n 3, 1) := by decide +kernel
theorem dL_law_1018 : decode cL_law 1018 = .ok (.iconst 2, 1) := by decide +kernel
theorem dL_law_1019 : decode cL_law 1019 = .ok (.iadd, 1) := by decide +kernel
theorem dL_law_1020 : decode cL_law 1020 = .ok (.iaload, 1) := by decide +kernel
theorem dL_law_1021 : decode cL_law 1021 = .ok (.aload_n 0, 1) := by decide +kernel
theorem dL_law_1022 : decode cL_law 1022 = .ok (.iload_n 3, 1) := by decide +kernel
theorem dL_law_1023 : decode cL_law 1023 = .ok (.iconst 3, 1) := by decide +kernel
theorem dL_law_1024 : decode cL_law 1024 = .ok (.iadd, 1) := by decide +kernel
theorem dL_law_1025 : decode cL_law 1025 = .ok (.iaload, 1) := by decide +kernel
theorem dL_law_1026 : decode cL_law 1026 = .ok (.invokevirtual 99, 3) := by decide +kernel
theorem dL_law_1029 : decode cL_law 1029 = .ok (.aload_n 2, 1) := by decide +kernel
theorem dL_law_1030 : decode cL_law 1030 = .ok (.aload_n 0, 1) := by decide +kernel
theorem dL_law_1031 : decode cL_law 1031 = .ok (.iload_n 3, 1) := by decide +kernel
theorem dL_law_1032 : decode cL_law 1032 = .ok (.iconst 1, 1) := by decide +kernel
theorem dL_law_1033 : decode cL_law 1033 = .ok (.iadd, 1) := by decide +kernel
theorem dL_law_1034 : decode cL_law 1034 = .ok (.iaload, 1) := by decide +kernel
theorem dL_law_1035 : decode cL_law 1035 = .ok (.aload_n 0, 1) := by decide +kernel
theorem dL_law_1036 : decode cL_law 1036 = .ok (.iload_n 3, 1) := by decide +kernel
theorem dL_law_1037 : decode cL_law 1037 = .ok (.iconst 2, 1) := by decide +kernel
theorem dL_law_1038 : decode cL_law 1038 = .ok (.iadd, 1) := by decide +kernel
theorem dL_law_1039 : decode cL_law 1039 = .ok (.iaload, 1) := by decide +kernel
theorem dL_law_1040 : decode cL_law 1040 = .ok (.aload_n 0, 1) := by decide +kernel
theorem dL_law_1041 : decode cL_law 1041 = .ok (.iload_n 3, 1) := by decide +kernel
theorem dL_law_1042 : decode cL_law 1042 = .ok (.iconst 3, 1) := by decide +kernel
theorem dL_law_1043 : decode cL_law 1043 = .ok (.iadd, 1) := by decide +kernel
theorem dL_law_1044 : decode cL_law 1044 = .ok (.iaload, 1) := by decide +kernel
theorem dL_law_1045 : decode cL_law 1045 = .ok (.invokevirtual 102, 3) := by decide +kernel
theorem dL_law_1048 : decode cL_law 1048 = .ok (.if_icmp .eq 138, 3) := by decide +kernel
theorem dL_law_1051 : decode cL_law 1051 = .ok (.iconst 0, 1) := by decide +kernel
theorem dL_law_1052 : decode cL_law 1052 = .ok (.ireturn, 1) := by decide +kernel
theorem dL_law_1053 : decode cL_law 1053 = .ok (.aload_n 1, 1) := by decide +kernel
theorem dL_law_1054 : decode cL_law 1054 = .ok (.aload_n 0, 1) := by decide +kernel
theorem dL_law_1055 : decode cL_law 1055 = .ok (.iload_n 3, 1) := by decide +kernel
theorem dL_law_1056 : decode cL_law 1056 = .ok (.iconst 1, 1) := by decide +kernel
theorem dL_law_1057 : decode cL_law 1057 = .ok (.iadd, 1) := by decide +kernel
theorem dL_law_1058 : decode cL_law 1058 = .ok (.iaload, 1) := by decide +kernel
theorem dL_law_1059 : decode cL_law 1059 = .ok (.aload_n 0, 1) := by decide +kernel
theorem dL_law_1060 : decode cL_law 1060 = .ok (.iload_n 3, 1) := by decide +kernel
theorem dL_law_1061 : decode cL_law 1061 = .ok (.iconst 2, 1) := by decide +kernel
theorem dL_law_1062 : decode cL_law 1062 = .ok (.iadd, 1) := by decide +kernel
theorem dL_law_1063 : decode cL_law 1063 = .ok (.iaload, 1) := by decide +kernel
theorem dL_law_1064 : decode cL_law 1064 = .ok (.aload_n 0, 1) := by decide +kernel
theorem dL_law_1065 : decode cL_law 1065 = .ok (.iload_n 3, 1) := by decide +kernel
theorem dL_law_1066 : decode cL_law 1066 = .ok (.iconst 3, 1) := by decide +kernel
theorem dL_law_1067 : decode cL_law 1067 = .ok (.iadd, 1) := by decide +kernel
theorem dL_law_1068 : decode cL_law 1068 = .ok (.iaload, 1) := by decide +kernel
theorem dL_law_1069 : decode cL_law 1069 = .ok (.aload_n 0, 1) := by decide +kernel
theorem dL_law_1070 : decode cL_law 1070 = .ok (.iload_n 3, 1) := by decide +kernel
theorem dL_law_1071 : decode cL_law 1071 = .ok (.iconst 4, 1) := by decide +kernel
theorem dL_law_1072 : decode cL_law 1072 = .ok (.iadd, 1) := by decide +kernel
theorem dL_law_1073 : decode cL_law 1073 = .ok (.iaload, 1) := by decide +kernel
theorem dL_law_1074 : decode cL_law 1074 = .ok (.invokevirtual 103, 3) := by decide +kernel
theorem dL_law_1077 : decode cL_law 1077 = .ok (.aload_n 2, 1) := by decide +kernel
theorem dL_law_1078 : decode cL_law 1078 = .ok (.aload_n 0, 1) := by decide +kernel
theorem dL_law_1079 : decode cL_law 1079 = .ok (.iload_n 3, 1) := by decide +kernel
theorem dL_law_1080 : decode cL_law 1080 = .ok (.iconst 1, 1) := by decide +kernel
theorem dL_law_1081 : decode cL_law 1081 = .ok (.iadd, 1) := by decide +kernel
theorem dL_law_1082 : decode cL_law 1082 = .ok (.iaload, 1) := by decide +kernel
theorem dL_law_1083 : decode cL_law 1083 = .ok (.aload_n 0, 1) := by decide +kernel
theorem dL_law_1084 : decode cL_law 1084 = .ok (.iload_n 3, 1) := by decide +kernel
theorem dL_law_1085 : decode cL_law 1085 = .ok (.iconst 2, 1) := by decide +kernel
theorem dL_law_1086 : decode cL_law 1086 = .ok (.iadd, 1) := by decide +kernel
theorem dL_law_1087 : decode cL_law 1087 = .ok (.iaload, 1) := by decide +kernel
theorem dL_law_1088 : decode cL_law 1088 = .ok (.aload_n 0, 1) := by decide +kernel
theorem dL_law_1089 : decode cL_law 1089 = .ok (.iload_n 3, 1) := by decide +kernel
theorem dL_law_1090 : decode cL_law 1090 = .ok (.iconst 3, 1) := by decide +kernel
theorem dL_law_1091 : decode cL_law 1091 = .ok (.iadd, 1) := by decide +kernel
theorem dL_law_1092 : decode cL_law 1092 = .ok (.iaload, 1) := by decide +kernel
theorem dL_law_1093 : decode cL_law 1093 = .ok (.aload_n 0, 1) := by decide +kernel
theorem dL_law_1094 : decode cL_law 1094 = .ok (.iload_n 3, 1) := by decide +kernel
theorem dL_law_1095 : decode cL_law 1095 = .ok (.iconst 4, 1) := by decide +kernel
theorem dL_law_1096 : decode cL_law 1096 = .ok (.iadd, 1) := by decide +kernel
theorem dL_law_1097 : decode cL_law 1097 = .ok (.iaload, 1) := by decide +kernel
theorem dL_law_1098 : decode cL_law 1098 = .ok (.invokevirtual 106, 3) := by decide +kernel
theorem dL_law_1101 : decode cL_law 1101 = .ok (.if_icmp .eq 85, 3) := by decide +kernel
theorem dL_law_1104 : decode cL_law 1104 = .ok (.iconst 0, 1) := by decide +kernel
theorem dL_law_1105 : decode cL_law 1105 = .ok (.ireturn, 1) := by decide +kernel
theorem dL_law_1106 : decode cL_law 1106 = .ok (.aload_n 1, 1) := by decide +kernel
theorem dL_law_1107 : decode cL_law 1107 = .ok (.aload_n 0, 1) := by decide +kernel
theorem dL_law_1108 : decode cL_law 1108 = .ok (.iload_n 3, 1) := by decide +kernel
theorem dL_law_1109 : decode cL_law 1109 = .ok (.iconst 1, 1) := by decide +kernel
theorem dL_law_1110 : decode cL_law 1110 = .ok (.iadd, 1) := by decide +kernel
theorem dL_law_1111 : decode cL_law 1111 = .ok (.iaload, 1) := by decide +kernel
theorem dL_law_1112 : decode cL_law 1112 = .ok (.aload_n 0, 1) := by decide +kernel
theorem dL_law_1113 : decode cL_law 1113 = .ok (.iload_n 3, 1) := by decide +kernel
theorem dL_law_1114 : decode cL_law 1114 = .ok (.iconst 2, 1) := by decide +kernel
theorem dL_law_1115 : decode cL_law 1115 = .ok (.iadd, 1) := by decide +kernel
theorem dL_law_1116 : decode cL_law 1116 = .ok (.iaload, 1) := by decide +kernel
theorem dL_law_1117 : decode cL_law 1117 = .ok (.aload_n 0, 1) := by decide +kernel
theorem dL_law_1118 : decode cL_law 1118 = .ok (.iload_n 3, 1) := by decide +kernel
theorem dL_law_1119 : decode cL_law 1119 = .ok (.iconst 3, 1) := by decide +kernel
theorem dL_law_1120 : decode cL_law 1120 = .ok (.iadd, 1) := by decide +kernel
theorem dL_law_1121 : decode cL_law 1121 = .ok (.iaload, 1) := by decide +kernel
theorem dL_law_1122 : decode cL_law 1122 = .ok (.invokevirtual 107, 3) := by decide +kernel
theorem dL_law_1125 : decode cL_law 1125 = .ok (.aload_n 2, 1) := by decide +kernel
theorem dL_law_1126 : decode cL_law 1126 = .ok (.aload_n 0, 1) := by decide +kernel
theorem dL_law_1127 : decode cL_law 1127 = .ok (.iload_n 3, 1) := by decide +kernel
theorem dL_law_1128 : decode cL_law 1128 = .ok (.iconst 1, 1) := by decide +kernel
theorem dL_law_1129 : decode cL_law 1129 = .ok (.iadd, 1) := by decide +kernel
theorem dL_law_1130 : decode cL_law 1130 = .ok (.iaload, 1) := by decide +kernel
theorem dL_law_1131 : decode cL_law 1131 = .ok (.aload_n 0, 1) := by decide +kernel
theorem dL_law_1132 : decode cL_law 1132 = .ok (.iload_n 3, 1) := by decide +kernel
theorem dL_law_1133 : decode cL_law 1133 = .ok (.iconst 2, 1) := by decide +kernel
theorem dL_law_1134 : decode cL_law 1134 = .ok (.iadd, 1) := by decide +kernel
theorem dL_law_1135 : decode cL_law 1135 = .ok (.iaload, 1) := by decide +kernel
theorem dL_law_1136 : decode cL_law 1136 = .ok (.aload_n 0, 1) := by decide +kernel
theorem dL_law_1137 : decode cL_law 1137 = .ok (.iload_n 3, 1) := by decide +kernel
theorem dL_law_1138 : decode cL_law 1138 = .ok (.iconst 3, 1) := by decide +kernel
theorem dL_law_1139 : decode cL_law 1139 = .ok (.iadd, 1) := by decide +kernel
theorem dL_law_1140 : decode cL_law 1140 = .ok (.iaload, 1) := by decide +kernel
theorem dL_law_1141 : decode cL_law 1141 = .ok (.invokevirtual 110, 3) := by decide +kernel
theorem dL_law_1144 : decode cL_law 1144 = .ok (.if_icmp .eq 42, 3) := by decide +kernel
theorem dL_law_1147 : decode cL_law 1147 = .ok (.iconst 0, 1) := by decide +kernel
theorem dL_law_1148 : decode cL_law 1148 = .ok (.ireturn, 1) := by decide +kernel
theorem dL_law_1149 : decode cL_law 1149 = .ok (.aload_n 1, 1) := by decide +kernel
theorem dL_law_1150 : decode cL_law 1150 = .ok (.aload_n 0, 1) := by decide +kernel
theorem dL_law_1151 : decode cL_law 1151 = .ok (.iload_n 3, 1) := by decide +kernel
theorem dL_law_1152 : decode cL_law 1152 = .ok (.iconst 1, 1) := by decide +kernel
theorem dL_law_1153 : decode cL_law 1153 = .ok (.iadd, 1) := by decide +kernel
theorem dL_law_1154 : decode cL_law 1154 = .ok (.iaload, 1) := by decide +kernel
theorem dL_law_1155 : decode cL_law 1155 = .ok (.invokevirtual 111, 3) := by decide +kernel
theorem dL_law_1158 : decode cL_law 1158 = .ok (.aload_n 2, 1) := by decide +kernel
theorem dL_law_1159 : decode cL_law 1159 = .ok (.aload_n 0, 1) := by decide +kernel
theorem dL_law_1160 : decode cL_law 1160 = .ok (.iload_n 3, 1) := by decide +kernel
theorem dL_law_1161 : decode cL_law 1161 = .ok (.iconst 1, 1) := by decide +kernel
theorem dL_law_1162 : decode cL_law 1162 = .ok (.iadd, 1) := by decide +kernel
theorem dL_law_1163 : decode cL_law 1163 = .ok (.iaload, 1) := by decide +kernel
theorem dL_law_1164 : decode cL_law 1164 = .ok (.invokevirtual 114, 3) := by decide +kernel
theorem dL_law_1167 : decode cL_law 1167 = .ok (.if_icmp .eq 19, 3) := by decide +kernel
theorem dL_law_1170 : decode cL_law 1170 = .ok (.iconst 0, 1) := by decide +kernel
theorem dL_law_1171 : decode cL_law 1171 = .ok (.ireturn, 1) := by decide +kernel
theorem dL_law_1172 : decode cL_law 1172 = .ok (.aload_n 1, 1) := by decide +kernel
theorem dL_law_1173 : decode cL_law 1173 = .ok (.invokevirtual 115, 3) := by decide +kernel
theorem dL_law_1176 : decode cL_law 1176 = .ok (.aload_n 2, 1) := by decide +kernel
theorem dL_law_1177 : decode cL_law 1177 = .ok (.invokevirtual 119, 3) := by decide +kernel
theorem dL_law_1180 : decode cL_law 1180 = .ok (.lcmp, 1) := by decide +kernel
theorem dL_law_1181 : decode cL_law 1181 = .ok (.ifCond .eq 5, 3) := by decide +kernel
theorem dL_law_1184 : decode cL_law 1184 = .ok (.iconst 0, 1) := by decide +kernel
theorem dL_law_1185 : decode cL_law 1185 = .ok (.ireturn, 1) := by decide +kernel
theorem dL_law_1186 : decode cL_law 1186 = .ok (.iinc 3 7, 3) := by decide +kernel
theorem dL_law_1189 : decode cL_law 1189 = .ok (.goto (-1171), 3) := by decide +kernel
theorem dL_law_1192 : decode cL_law 1192 = .ok (.iconst 1, 1) := by decide +kernel
theorem dL_law_1193 : decode cL_law 1193 = .ok (.ireturn, 1) := by decide +kernel
end
section
theorem dX0_init_0 : decode cX0_init 0 = .ok (.aload_n 0, 1) := by decide +kernel
theorem dX0_init_1 : decode cX0_init 1 = .ok (.invokespecial 3, 3) := by decide +kernel
theorem dX0_init_4 : decode cX0_init 4 = .ok (.aload_n 0, 1) := by decide +kernel
theorem dX0_init_5 : decode cX0_init 5 = .ok (.sipush 256, 3) := by decide +kernel
theorem dX0_init_8 : decode cX0_init 8 = .ok (.newarray .int, 2) := by decide +kernel
theorem dX0_init_10 : decode cX0_init 10 = .ok (.putfield 11, 3) := by decide +kernel
theorem dX0_init_13 : decode cX0_init 13 = .ok (.aload_n 0, 1) := by decide +kernel
theorem dX0_init_14 : decode cX0_init 14 = .ok (.iconst 1, 1) := by decide +kernel
theorem dX0_init_15 : decode cX0_init 15 = .ok (.putfield 15, 3) := by decide +kernel
theorem dX0_init_18 : decode cX0_init 18 = .ok (.return_, 1) := by decide +kernel
theorem dX0_at_0 : decode cX0_at 0 = .ok (.aload_n 0, 1) := by decide +kernel
theorem dX0_at_1 : decode cX0_at 1 = .ok (.getfield 11, 3) := by decide +kernel
theorem dX0_at_4 : decode cX0_at 4 = .ok (.iload_n 1, 1) := by decide +kernel
theorem dX0_at_5 : decode cX0_at 5 = .ok (.bipush 16, 2) := by decide +kernel
theorem dX0_at_7 : decode cX0_at 7 = .ok (.imul, 1) := by decide +kernel
theorem dX0_at_8 : decode cX0_at 8 = .ok (.iload_n 2, 1) := by decide +kernel
theorem dX0_at_9 : decode cX0_at 9 = .ok (.iadd, 1) := by decide +kernel
theorem dX0_at_10 : decode cX0_at 10 = .ok (.iaload, 1) := by decide +kernel
theorem dX0_at_11 : decode cX0_at 11 = .ok (.ireturn, 1) := by decide +kernel
theorem dX0_set_0 : decode cX0_set 0 = .ok (.aload_n 0, 1) := by decide +kernel
theorem dX0_set_1 : decode cX0_set 1 = .ok (.getfield 11, 3) := by decide +kernel
theorem dX0_set_4 : decode cX0_set 4 = .ok (.iload_n 1, 1) := by decide +kernel
theorem dX0_set_5 : decode cX0_set 5 = .ok (.bipush 16, 2) := by decide +kernel
theorem dX0_set_7 : decode cX0_set 7 = .ok (.imul, 1) := by decide +kernel
theorem dX0_set_8 : decode cX0_set 8 = .ok (.iload_n 2, 1) := by decide +kernel
theorem dX0_set_9 : decode cX0_set 9 = .ok (.iadd, 1) := by decide +kernel
theorem dX0_set_10 : decode cX0_set 10 = .ok (.iload_n 3, 1) := by decide +kernel
theorem dX0_set_11 : decode cX0_set 11 = .ok (.iastore, 1) := by decide +kernel
theorem dX0_set_12 : decode cX0_set 12 = .ok (.return_, 1) := by decide +kernel
theorem dX0_clear_0 : decode cX0_clear 0 = .ok (.aload_n 0, 1) := by decide +kernel
theorem dX0_clear_1 : decode cX0_clear 1 = .ok (.getfield 11, 3) := by decide +kernel
theorem dX0_clear_4 : decode cX0_clear 4 = .ok (.invokestatic 19, 3) := by decide +kernel
theorem dX0_clear_7 : decode cX0_clear 7 = .ok (.return_, 1) := by decide +kernel
theorem dX0_layStairs_0 : decode cX0_layStairs 0 = .ok (.iconst 0, 1) := by decide +kernel
theorem dX0_layStairs_1 : decode cX0_layStairs 1 = .ok (.istore 5, 2) := by decide +kernel
theorem dX0_layStairs_3 : decode cX0_layStairs 3 = .ok (.iload 5, 2) := by decide +kernel
theorem dX0_layStairs_5 : decode cX0_layStairs 5 = .ok (.iload 4, 2) := by decide +kernel
theorem dX0_layStairs_7 : decode cX0_layStairs 7 = .ok (.if_icmp .ge 41, 3) := by decide +kernel
theorem dX0_layStairs_10 : decode cX0_layStairs 10 = .ok (.iconst 0, 1) := by decide +kernel
theorem dX0_layStairs_11 : decode cX0_layStairs 11 = .ok (.istore 6, 2) := by decide +kernel
theorem dX0_layStairs_13 : decode cX0_layStairs 13 = .ok (.iload 6, 2) := by decide +kernel
theorem dX0_layStairs_15 : decode cX0_layStairs 15 = .ok (.iload_n 2, 1) := by decide +kernel
theorem dX0_layStairs_16 : decode cX0_layStairs 16 = .ok (.if_icmp .gt 26, 3) := by decide +kernel
theorem dX0_layStairs_19 : decode cX0_layStairs 19 = .ok (.aload_n 0, 1) := by decide +kernel
theorem dX0_layStairs_20 : decode cX0_layStairs 20 = .ok (.iload_n 3, 1) := by decide +kernel
theorem dX0_layStairs_21 : decode cX0_layStairs 21 = .ok (.iload 5, 2) := by decide +kernel
theorem dX0_layStairs_23 : decode cX0_layStairs 23 = .ok (.iadd, 1) := by decide +kernel
theorem dX0_layStairs_24 : decode cX0_layStairs 24 = .ok (.iload 5, 2) := by decide +kernel
theorem dX0_layStairs_26 : decode cX0_layStairs 26 = .ok (.iload 6, 2) := by decide +kernel
theorem dX0_layStairs_28 : decode cX0_layStairs 28 = .ok (.iadd, 1) := by decide +kernel
theorem dX0_layStairs_29 : decode cX0_layStairs 29 = .ok (.aload_n 1, 1) := by decide +kernel
theorem dX0_layStairs_30 : decode cX0_layStairs 30 = .ok (.iload 6, 2) := by decide +kernel
theorem dX0_layStairs_32 : decode cX0_layStairs 32 = .ok (.iaload, 1) := by decide +kernel
theorem dX0_layStairs_33 : decode cX0_layStairs 33 = .ok (.invokevirtual 25, 3) := by decide +kernel
theorem dX0_layStairs_36 : decode cX0_layStairs 36 = .ok (.iinc 6 1, 3) := by decide +kernel
theorem dX0_layStairs_39 : decode cX0_layStairs 39 = .ok (.goto (-26), 3) := by decide +kernel
theorem dX0_layStairs_42 : decode cX0_layStairs 42 = .ok (.iinc 5 1, 3) := by decide +kernel
theorem dX0_layStairs_45 : decode cX0_layStairs 45 = .ok (.goto (-42), 3) := by decide +kernel
theorem dX0_layStairs_48 : decode cX0_layStairs 48 = .ok (.return_, 1) := by decide +kernel
theorem dX0_laySquare_0 : decode cX0_laySquare 0 = .ok (.iconst 0, 1) := by decide +kernel
theorem dX0_laySquare_1 : decode cX0_laySquare 1 = .ok (.istore 4, 2) := by decide +kernel
theorem dX0_laySquare_3 : decode cX0_laySquare 3 = .ok (.iload 4, 2) := by decide +kernel
theorem dX0_laySquare_5 : decode cX0_laySquare 5 = .ok (.iload_n 3, 1) := by decide +kernel
theorem dX0_laySquare_6 : decode cX0_laySquare 6 = .ok (.if_icmp .gt 41, 3) := by decide +kernel
theorem dX0_laySquare_9 : decode cX0_laySquare 9 = .ok (.iconst 0, 1) := by decide +kernel
theorem dX0_laySquare_10 : decode cX0_laySquare 10 = .ok (.istore 5, 2) := by decide +kernel
theorem dX0_laySquare_12 : decode cX0_laySquare 12 = .ok (.iload 5, 2) := by decide +kernel
theorem dX0_laySquare_14 : decode cX0_laySquare 14 = .ok (.iload_n 2, 1) := by decide +kernel
theorem dX0_laySquare_15 : decode cX0_laySquare 15 = .ok (.iload_n 3, 1) := by decide +kernel
theorem dX0_laySquare_16 : decode cX0_laySquare 16 = .ok (.isub, 1) := by decide +kernel
theorem dX0_laySquare_17 : decode cX0_laySquare 17 = .ok (.if_icmp .gt 24, 3) := by decide +kernel
theorem dX0_laySquare_20 : decode cX0_laySquare 20 = .ok (.aload_n 0, 1) := by decide +kernel
theorem dX0_laySquare_21 : decode cX0_laySquare 21 = .ok (.iload 4, 2) := by decide +kernel
theorem dX0_laySquare_23 : decode cX0_laySquare 23 = .ok (.iload 5, 2) := by decide +kernel
theorem dX0_laySquare_25 : decode cX0_laySquare 25 = .ok (.aload_n 1, 1) := by decide +kernel
theorem dX0_laySquare_26 : decode cX0_laySquare 26 = .ok (.iload 4, 2) := by decide +kernel
theorem dX0_laySquare_28 : decode cX0_laySquare 28 = .ok (.iload 5, 2) := by decide +kernel
theorem dX0_laySquare_30 : decode cX0_laySquare 30 = .ok (.iadd, 1) := by decide +kernel
theorem dX0_laySquare_31 : decode cX0_laySquare 31 = .ok (.iaload, 1) := by decide +kernel
theorem dX0_laySquare_32 : decode cX0_laySquare 32 = .ok (.invokevirtual 25, 3) := by decide +kernel
theorem dX0_laySquare_35 : decode cX0_laySquare 35 = .ok (.iinc 5 1, 3) := by decide +kernel
theorem dX0_laySquare_38 : decode cX0_laySquare 38 = .ok (.goto (-26), 3) := by decide +kernel
theorem dX0_laySquare_41 : decode cX0_laySquare 41 = .ok (.iinc 4 1, 3) := by decide +kernel
theorem dX0_laySquare_44 : decode cX0_laySquare 44 = .ok (.goto (-41), 3) := by decide +kernel
theorem dX0_laySquare_47 : decode cX0_laySquare 47 = .ok (.return_, 1) := by decide +kernel
theorem dX0_layPowers_0 : decode cX0_layPowers 0 = .ok (.iconst 0, 1) := by decide +kernel
theorem dX0_layPowers_1 : decode cX0_layPowers 1 = .ok (.istore 5, 2) := by decide +kernel
theorem dX0_layPowers_3 : decode cX0_layPowers 3 = .ok (.iload 5, 2) := by decide +kernel
theorem dX0_layPowers_5 : decode cX0_layPowers 5 = .ok (.iload_n 2, 1) := by decide +kernel
theorem dX0_layPowers_6 : decode cX0_layPowers 6 = .ok (.if_icmp .ge 53, 3) := by decide +kernel
theorem dX0_layPowers_9 : decode cX0_layPowers 9 = .ok (.iconst 1, 1) := by decide +kernel
theorem dX0_layPowers_10 : decode cX0_layPowers 10 = .ok (.istore 6, 2) := by decide +kernel
theorem dX0_layPowers_12 : decode cX0_layPowers 12 = .ok (.iconst 0, 1) := by decide +kernel
theorem dX0_layPowers_13 : decode cX0_layPowers 13 = .ok (.istore 7, 2) := by decide +kernel
theorem dX0_layPowers_15 : decode cX0_layPowers 15 = .ok (.iload 7, 2) := by decide +kernel
theorem dX0_layPowers_17 : decode cX0_layPowers 17 = .ok (.iload 4, 2) := by decide +kernel
theorem dX0_layPowers_19 : decode cX0_layPowers 19 = .ok (.if_icmp .gt 34, 3) := by decide +kernel
theorem dX0_layPowers_22 : decode cX0_layPowers 22 = .ok (.aload_n 0, 1) := by decide +kernel
theorem dX0_layPowers_23 : decode cX0_layPowers 23 = .ok (.iload 7, 2) := by decide +kernel
theorem dX0_layPowers_25 : decode cX0_layPowers 25 = .ok (.iload 5, 2) := by decide +kernel
theorem dX0_layPowers_27 : decode cX0_layPowers 27 = .ok (.iload 6, 2) := by decide +kernel
theorem dX0_layPowers_29 : decode cX0_layPowers 29 = .ok (.invokevirtual 25, 3) := by decide +kernel
theorem dX0_layPowers_32 : decode cX0_layPowers 32 = .ok (.iload 6, 2) := by decide +kernel
theorem dX0_layPowers_34 : decode cX0_layPowers 34 = .ok (.aload_n 1, 1) := by decide +kernel
theorem dX0_layPowers_35 : decode cX0_layPowers 35 = .ok (.iload 5, 2) := by decide +kernel
theorem dX0_layPowers_37 : decode cX0_layPowers 37 = .ok (.invokevirtual 29, 3) := by decide +kernel
theorem dX0_layPowers_40 : decode cX0_layPowers 40 = .ok (.imul, 1) := by decide +kernel
theorem dX0_layPowers_41 : decode cX0_layPowers 41 = .ok (.sipush 10007, 3) := by decide +kernel
theorem dX0_layPowers_44 : decode cX0_layPowers 44 = .ok (.irem, 1) := by decide +kernel
theorem dX0_layPowers_45 : decode cX0_layPowers 45 = .ok (.istore 6, 2) := by decide +kernel
theorem dX0_layPowers_47 : decode cX0_layPowers 47 = .ok (.iinc 7 1, 3) := by decide +kernel
theorem dX0_layPowers_50 : decode cX0_layPowers 50 = .ok (.goto (-35), 3) := by decide +kernel
theorem dX0_layPowers_53 : decode cX0_layPowers 53 = .ok (.iinc 5 1, 3) := by decide +kernel
theorem dX0_layPowers_56 : decode cX0_layPowers 56 = .ok (.goto (-53), 3) := by decide +kernel
theorem dX0_layPowers_59 : decode cX0_layPowers 59 = .ok (.iconst 0, 1) := by decide +kernel
theorem dX0_layPowers_60 : decode cX0_layPowers 60 = .ok (.istore 5, 2) := by decide +kernel
theorem dX0_layPowers_62 : decode cX0_layPowers 62 = .ok (.iload 5, 2) := by decide +kernel
theorem dX0_layPowers_64 : decode cX0_layPowers 64 = .ok (.iload 4, 2) := by decide +kernel
theorem dX0_layPowers_66 : decode cX0_layPowers 66 = .ok (.if_icmp .gt 20, 3) := by decide +kernel
theorem dX0_layPowers_69 : decode cX0_layPowers 69 = .ok (.aload_n 0, 1) := by decide +kernel
theorem dX0_layPowers_70 : decode cX0_layPowers 70 = .ok (.iload 5, 2) := by decide +kernel
theorem dX0_layPowers_72 : decode cX0_layPowers 72 = .ok (.iload_n 2, 1) := by decide +kernel
theorem dX0_layPowers_73 : decode cX0_layPowers 73 = .ok (.aload_n 3, 1) := by decide +kernel
theorem dX0_layPowers_74 : decode cX0_layPowers 74 = .ok (.iload 5, 2) := by decide +kernel
theorem dX0_layPowers_76 : decode cX0_layPowers 76 = .ok (.iaload, 1) := by decide +kernel
theorem dX0_layPowers_77 : decode cX0_layPowers 77 = .ok (.invokevirtual 25, 3) := by decide +kernel
theorem dX0_layPowers_80 : decode cX0_layPowers 80 = .ok (.iinc 5 1, 3) := by decide +kernel
theorem dX0_layPowers_83 : decode cX0_layPowers 83 = .ok (.goto (-21), 3) := by decide +kernel
theorem dX0_layPowers_86 : decode cX0_layPowers 86 = .ok (.return_, 1) := by decide +kernel
theorem dX0_determinant_0 : decode cX0_determinant 0 = .ok (.aload_n 0, 1) := by decide +kernel
theorem dX0_determinant_1 : decode cX0_determinant 1 = .ok (.iload_n 1, 1) := by decide +kernel
theorem dX0_determinant_2 : decode cX0_determinant 2 = .ok (.iload_n 1, 1) := by decide +kernel
theorem dX0_determinant_3 : decode cX0_determinant 3 = .ok (.iload_n 1, 1) := by decide +kernel
theorem dX0_determinant_4 : decode cX0_determinant 4 = .ok (.invokevirtual 35, 3) := by decide +kernel
theorem dX0_determinant_7 : decode cX0_determinant 7 = .ok (.iload_n 1, 1) := by decide +kernel
theorem dX0_determinant_8 : decode cX0_determinant 8 = .ok (.if_icmp .ne 10, 3) := by decide +kernel
theorem dX0_determinant_11 : decode cX0_determinant 11 = .ok (.aload_n 0, 1) := by decide +kernel
theorem dX0_determinant_12 : decode cX0_determinant 12 = .ok (.getfield 15, 3) := by decide +kernel
theorem dX0_determinant_15 : decode cX0_determinant 15 = .ok (.goto 4, 3) := by decide +kernel
theorem dX0_determinant_18 : decode cX0_determinant 18 = .ok (.iconst 0, 1) := by decide +kernel
theorem dX0_determinant_19 : decode cX0_determinant 19 = .ok (.ireturn, 1) := by decide +kernel
theorem dX0_reduce_0 : decode cX0_reduce 0 = .ok (.aload_n 0, 1) := by decide +kernel
theorem dX0_reduce_1 : decode cX0_reduce 1 = .ok (.iconst 1, 1) := by decide +kernel
theorem dX0_reduce_2 : decode cX0_reduce 2 = .ok (.putfield 15, 3) := by decide +kernel
theorem dX0_reduce_5 : decode cX0_reduce 5 = .ok (.iconst 0, 1) := by decide +kernel
theorem dX0_reduce_6 : decode cX0_reduce 6 = .ok (.istore 4, 2) := by decide +kernel
theorem dX0_reduce_8 : decode cX0_reduce 8 = .ok (.iconst 0, 1) := by decide +kernel
theorem dX0_reduce_9 : decode cX0_reduce 9 = .ok (.istore 5, 2) := by decide +kernel
theorem dX0_reduce_11 : decode cX0_reduce 11 = .ok (.iload 5, 2) := by decide +kernel
theorem dX0_reduce_13 : decode cX0_reduce 13 = .ok (.iload_n 3, 1) := by decide +kernel
theorem dX0_reduce_14 : decode cX0_reduce 14 = .ok (.if_icmp .ge 63, 3) := by decide +kernel
theorem dX0_reduce_17 : decode cX0_reduce 17 = .ok (.iload 4, 2) := by decide +kernel
theorem dX0_reduce_19 : decode cX0_reduce 19 = .ok (.iload_n 1, 1) := by decide +kernel
theorem dX0_reduce_20 : decode cX0_reduce 20 = .ok (.if_icmp .ge 57, 3) := by decide +kernel
theorem dX0_reduce_23 : decode cX0_reduce 23 = .ok (.aload_n 0, 1) := by decide +kernel
theorem dX0_reduce_24 : decode cX0_reduce 24 = .ok (.iload 5, 2) := by decide +kernel
theorem dX0_reduce_26 : decode cX0_reduce 26 = .ok (.iload 4, 2) := by decide +kernel
theorem dX0_reduce_28 : decode cX0_reduce 28 = .ok (.iload_n 1, 1) := by decide +kernel
theorem dX0_reduce_29 : decode cX0_reduce 29 = .ok (.invokevirtual 39, 3) := by decide +kernel
theorem dX0_reduce_32 : decode cX0_reduce 32 = .ok (.istore 6, 2) := by decide +kernel
theorem dX0_reduce_34 : decode cX0_reduce 34 = .ok (.iload 6, 2) := by decide +kernel
theorem dX0_reduce_36 : decode cX0_reduce 36 = .ok (.iconst (-1), 1) := by decide +kernel
theorem dX0_reduce_37 : decode cX0_reduce 37 = .ok (.if_icmp .eq 34, 3) := by decide +kernel
theorem dX0_reduce_40 : decode cX0_reduce 40 = .ok (.aload_n 0, 1) := by decide +kernel
theorem dX0_reduce_41 : decode cX0_reduce 41 = .ok (.iload 6, 2) := by decide +kernel
theorem dX0_reduce_43 : decode cX0_reduce 43 = .ok (.iload 4, 2) := by decide +kernel
theorem dX0_reduce_45 : decode cX0_reduce 45 = .ok (.iload_n 2, 1) := by decide +kernel
theorem dX0_reduce_46 : decode cX0_reduce 46 = .ok (.invokevirtual 42, 3) := by decide +kernel
theorem dX0_reduce_49 : decode cX0_reduce 49 = .ok (.aload_n 0, 1) := by decide +kernel
theorem dX0_reduce_50 : decode cX0_reduce 50 = .ok (.iload 4, 2) := by decide +kernel
theorem dX0_reduce_52 : decode cX0_reduce 52 = .ok (.iload 5, 2) := by decide +kernel
theorem dX0_reduce_54 : decode cX0_reduce 54 = .ok (.iload_n 2, 1) := by decide +kernel
theorem dX0_reduce_55 : decode cX0_reduce 55 = .ok (.invokevirtual 45, 3) := by decide +kernel
theorem dX0_reduce_58 : decode cX0_reduce 58 = .ok (.aload_n 0, 1) := by decide +kernel
theorem dX0_reduce_59 : decode cX0_reduce 59 = .ok (.iload 5, 2) := by decide +kernel
theorem dX0_reduce_61 : decode cX0_reduce 61 = .ok (.iload 4, 2) := by decide +kernel
theorem dX0_reduce_63 : decode cX0_reduce 63 = .ok (.iload_n 1, 1) := by decide +kernel
theorem dX0_reduce_64 : decode cX0_reduce 64 = .ok (.iload_n 2, 1) := by decide +kernel
theorem dX0_reduce_65 : decode cX0_reduce 65 = .ok (.invokevirtual 48, 3) := by decide +kernel
theorem dX0_reduce_68 : decode cX0_reduce 68 = .ok (.iinc 4 1, 3) := by decide +kernel
theorem dX0_reduce_71 : decode cX0_reduce 71 = .ok (.iinc 5 1, 3) := by decide +kernel
theorem dX0_reduce_74 : decode cX0_reduce 74 = .ok (.goto (-63), 3) := by decide +kernel
theorem dX0_reduce_77 : decode cX0_reduce 77 = .ok (.iload 4, 2) := by decide +kernel
theorem dX0_reduce_79 : decode cX0_reduce 79 = .ok (.ireturn, 1) := by decide +kernel
theorem dX0_rowWith_0 : decode cX0_rowWith 0 = .ok (.iload_n 2, 1) := by decide +kernel
theorem dX0_rowWith_1 : decode cX0_rowWith 1 = .ok (.istore 4, 2) := by decide +kernel
theorem dX0_rowWith_3 : decode cX0_rowWith 3 = .ok (.iload 4, 2) := by decide +kernel
theorem dX0_rowWith_5 : decode cX0_rowWith 5 = .ok (.iload_n 3, 1) := by decide +kernel
theorem dX0_rowWith_6 : decode cX0_rowWith 6 = .ok (.if_icmp .ge 22, 3) := by decide +kernel
theorem dX0_rowWith_9 : decode cX0_rowWith 9 = .ok (.aload_n 0, 1) := by decide +kernel
theorem dX0_rowWith_10 : decode cX0_rowWith 10 = .ok (.iload 4, 2) := by decide +kernel
theorem dX0_rowWith_12 : decode cX0_rowWith 12 = .ok (.iload_n 1, 1) := by decide +kernel
theorem dX0_rowWith_13 : decode cX0_rowWith 13 = .ok (.invokevirtual 52, 3) := by decide +kernel
theorem dX0_rowWith_16 : decode cX0_rowWith 16 = .ok (.ifCond .eq 6, 3) := by decide +kernel
theorem dX0_rowWith_19 : decode cX0_rowWith 19 = .ok (.iload 4, 2) := by decide +kernel
theorem dX0_rowWith_21 : decode cX0_rowWith 21 = .ok (.ireturn, 1) := by decide +kernel
theorem dX0_rowWith_22 : decode cX0_rowWith 22 = .ok (.iinc 4 1, 3) := by decide +kernel
theorem dX0_rowWith_25 : decode cX0_rowWith 25 = .ok (.goto (-22), 3) := by decide +kernel
theorem dX0_rowWith_28 : decode cX0_rowWith 28 = .ok (.iconst (-1), 1) := by decide +kernel
theorem dX0_rowWith_29 : decode cX0_rowWith 29 = .ok (.ireturn, 1) := by decide +kernel
theorem dX0_bringUp_0 : decode cX0_bringUp 0 = .ok (.iload_n 1, 1) := by decide +kernel
theorem dX0_bringUp_1 : decode cX0_bringUp 1 = .ok (.iload_n 2, 1) := by decide +kernel
theorem dX0_bringUp_2 : decode cX0_bringUp 2 = .ok (.if_icmp .ne 4, 3) := by decide +kernel
theorem dX0_bringUp_5 : decode cX0_bringUp 5 = .ok (.return_, 1) := by decide +kernel
theorem dX0_bringUp_6 : decode cX0_bringUp 6 = .ok (.aload_n 0, 1) := by decide +kernel
theorem dX0_bringUp_7 : decode cX0_bringUp 7 = .ok (.sipush 10007, 3) := by decide +kernel
theorem dX0_bringUp_10 : decode cX0_bringUp 10 = .ok (.aload_n 0, 1) := by decide +kernel
theorem dX0_bringUp_11 : decode cX0_bringUp 11 = .ok (.getfield 15, 3) := by decide +kernel
theorem dX0_bringUp_14 : decode cX0_bringUp 14 = .ok (.isub, 1) := by decide +kernel
theorem dX0_bringUp_15 : decode cX0_bringUp 15 = .ok (.putfield 15, 3) := by decide +kernel
theorem dX0_bringUp_18 : decode cX0_bringUp 18 = .ok (.iconst 0, 1) := by decide +kernel
theorem dX0_bringUp_19 : decode cX0_bringUp 19 = .ok (.istore 4, 2) := by decide +kernel
theorem dX0_bringUp_21 : decode cX0_bringUp 21 = .ok (.iload 4, 2) := by decide +kernel
theorem dX0_bringUp_23 : decode cX0_bringUp 23 = .ok (.iload_n 3, 1) := by decide +kernel
theorem dX0_bringUp_24 : decode cX0_bringUp 24 = .ok (.if_icmp .ge 41, 3) := by decide +kernel
theorem dX0_bringUp_27 : decode cX0_bringUp 27 = .ok (.aload_n 0, 1) := by decide +kernel
theorem dX0_bringUp_28 : decode cX0_bringUp 28 = .ok (.iload_n 2, 1) := by decide +kernel
theorem dX0_bringUp_29 : decode cX0_bringUp 29 = .ok (.iload 4, 2) := by decide +kernel
theorem dX0_bringUp_31 : decode cX0_bringUp 31 = .ok (.invokevirtual 52, 3) := by decide +kernel
theorem dX0_bringUp_34 : decode cX0_bringUp 34 = .ok (.istore 5, 2) := by decide +kernel
theorem dX0_bringUp_36 : decode cX0_bringUp 36 = .ok (.aload_n 0, 1) := by decide +kernel
theorem dX0_bringUp_37 : decode cX0_bringUp 37 = .ok (.iload_n 2, 1) := by decide +kernel
theorem dX0_bringUp_38 : decode cX0_bringUp 38 = .ok (.iload 4, 2) := by decide +kernel
theorem dX0_bringUp_40 : decode cX0_bringUp 40 = .ok (.aload_n 0, 1) := by decide +kernel
theorem dX0_bringUp_41 : decode cX0_bringUp 41 = .ok (.iload_n 1, 1) := by decide +kernel
theorem dX0_bringUp_42 : decode cX0_bringUp 42 = .ok (.iload 4, 2) := by decide +kernel
theorem dX0_bringUp_44 : decode cX0_bringUp 44 = .ok (.invokevirtual 52, 3) := by decide +kernel
theorem dX0_bringUp_47 : decode cX0_bringUp 47 = .ok (.invokevirtual 25, 3) := by decide +kernel
theorem dX0_bringUp_50 : decode cX0_bringUp 50 = .ok (.aload_n 0, 1) := by decide +kernel
theorem dX0_bringUp_51 : decode cX0_bringUp 51 = .ok (.iload_n 1, 1) := by decide +kernel
theorem dX0_bringUp_52 : decode cX0_bringUp 52 = .ok (.iload 4, 2) := by decide +kernel
theorem dX0_bringUp_54 : decode cX0_bringUp 54 = .ok (.iload 5, 2) := by decide +kernel
theorem dX0_bringUp_56 : decode cX0_bringUp 56 = .ok (.invokevirtual 25, 3) := by decide +kernel
theorem dX0_bringUp_59 : decode cX0_bringUp 59 = .ok (.iinc 4 1, 3) := by decide +kernel
theorem dX0_bringUp_62 : decode cX0_bringUp 62 = .ok (.goto (-41), 3) := by decide +kernel
theorem dX0_bringUp_65 : decode cX0_bringUp 65 = .ok (.return_, 1) := by decide +kernel
theorem dX0_divideRow_0 : decode cX0_divideRow 0 = .ok (.aload_n 0, 1) := by decide +kernel
theorem dX0_divideRow_1 : decode cX0_divideRow 1 = .ok (.iload_n 1, 1) := by decide +kernel
theorem dX0_divideRow_2 : decode cX0_divideRow 2 = .ok (.iload_n 2, 1) := by decide +kernel
theorem dX0_divideRow_3 : decode cX0_divideRow 3 = .ok (.invokevirtual 52, 3) := by decide +kernel
theorem dX0_divideRow_6 : decode cX0_divideRow 6 = .ok (.istore 4, 2) := by decide +kernel
theorem dX0_divideRow_8 : decode cX0_divideRow 8 = .ok (.aload_n 0, 1) := by decide +kernel
theorem dX0_divideRow_9 : decode cX0_divideRow 9 = .ok (.aload_n 0, 1) := by decide +kernel
theorem dX0_divideRow_10 : decode cX0_divideRow 10 = .ok (.getfield 15, 3) := by decide +kernel
theorem dX0_divideRow_13 : decode cX0_divideRow 13 = .ok (.iload 4, 2) := by decide +kernel
theorem dX0_divideRow_15 : decode cX0_divideRow 15 = .ok (.imul, 1) := by decide +kernel
theorem dX0_divideRow_16 : decode cX0_divideRow 16 = .ok (.sipush 10007, 3) := by decide +kernel
theorem dX0_divideRow_19 : decode cX0_divideRow 19 = .ok (.irem, 1) := by decide +kernel
theorem dX0_divideRow_20 : decode cX0_divideRow 20 = .ok (.putfield 15, 3) := by decide +kernel
theorem dX0_divideRow_23 : decode cX0_divideRow 23 = .ok (.iload 4, 2) := by decide +kernel
theorem dX0_divideRow_25 : decode cX0_divideRow 25 = .ok (.invokestatic 56, 3) := by decide +kernel
theorem dX0_divideRow_28 : decode cX0_divideRow 28 = .ok (.istore 5, 2) := by decide +kernel
theorem dX0_divideRow_30 : decode cX0_divideRow 30 = .ok (.iconst 0, 1) := by decide +kernel
theorem dX0_divideRow_31 : decode cX0_divideRow 31 = .ok (.istore 6, 2) := by decide +kernel
theorem dX0_divideRow_33 : decode cX0_divideRow 33 = .ok (.iload 6, 2) := by decide +kernel
theorem dX0_divideRow_35 : decode cX0_divideRow 35 = .ok (.iload_n 3, 1) := by decide +kernel
theorem dX0_divideRow_36 : decode cX0_divideRow 36 = .ok (.if_icmp .ge 30, 3) := by decide +kernel
theorem dX0_divideRow_39 : decode cX0_divideRow 39 = .ok (.aload_n 0, 1) := by decide +kernel
theorem dX0_divideRow_40 : decode cX0_divideRow 40 = .ok (.iload_n 1, 1) := by decide +kernel
theorem dX0_divideRow_41 : decode cX0_divideRow 41 = .ok (.iload 6, 2) := by decide +kernel
theorem dX0_divideRow_43 : decode cX0_divideRow 43 = .ok (.aload_n 0, 1) := by decide +kernel
theorem dX0_divideRow_44 : decode cX0_divideRow 44 = .ok (.iload_n 1, 1) := by decide +kernel
theorem dX0_divideRow_45 : decode cX0_divideRow 45 = .ok (.iload 6, 2) := by decide +kernel
theorem dX0_divideRow_47 : decode cX0_divideRow 47 = .ok (.invokevirtual 52, 3) := by decide +kernel
theorem dX0_divideRow_50 : decode cX0_divideRow 50 = .ok (.iload 5, 2) := by decide +kernel
theorem dX0_divideRow_52 : decode cX0_divideRow 52 = .ok (.imul, 1) := by decide +kernel
theorem dX0_divideRow_53 : decode cX0_divideRow 53 = .ok (.sipush 10007, 3) := by decide +kernel
theorem dX0_divideRow_56 : decode cX0_divideRow 56 = .ok (.irem, 1) := by decide +kernel
theorem dX0_divideRow_57 : decode cX0_divideRow 57 = .ok (.invokevirtual 25, 3) := by decide +kernel
theorem dX0_divideRow_60 : decode cX0_divideRow 60 = .ok (.iinc 6 1, 3) := by decide +kernel
theorem dX0_divideRow_63 : decode cX0_divideRow 63 = .ok (.goto (-30), 3) := by decide +kernel
theorem dX0_divideRow_66 : decode cX0_divideRow 66 = .ok (.return_, 1) := by decide +kernel
theorem dX0_clearPlace_0 : decode cX0_clearPlace 0 = .ok (.iconst 0, 1) := by decide +kernel
theorem dX0_clearPlace_1 : decode cX0_clearPlace 1 = .ok (.istore 5, 2) := by decide +kernel
theorem dX0_clearPlace_3 : decode cX0_clearPlace 3 = .ok (.iload 5, 2) := by decide +kernel
theorem dX0_clearPlace_5 : decode cX0_clearPlace 5 = .ok (.iload_n 3, 1) := by decide +kernel
theorem dX0_clearPlace_6 : decode cX0_clearPlace 6 = .ok (.if_icmp .ge 83, 3) := by decide +kernel
theorem dX0_clearPlace_9 : decode cX0_clearPlace 9 = .ok (.sipush 10007, 3) := by decide +kernel
theorem dX0_clearPlace_12 : decode cX0_clearPlace 12 = .ok (.aload_n 0, 1) := by decide +kernel
theorem dX0_clearPlace_13 : decode cX0_clearPlace 13 = .ok (.iload 5, 2) := by decide +kernel
theorem dX0_clearPlace_15 : decode cX0_clearPlace 15 = .ok (.iload_n 1, 1) := by decide +kernel
theorem dX0_clearPlace_16 : decode cX0_clearPlace 16 = .ok (.invokevirtual 52, 3) := by decide +kernel
theorem dX0_clearPlace_19 : decode cX0_clearPlace 19 = .ok (.isub, 1) := by decide +kernel
theorem dX0_clearPlace_20 : decode cX0_clearPlace 20 = .ok (.istore 6, 2) := by decide +kernel
theorem dX0_clearPlace_22 : decode cX0_clearPlace 22 = .ok (.iload 5, 2) := by decide +kernel
theorem dX0_clearPlace_24 : decode cX0_clearPlace 24 = .ok (.iload_n 2, 1) := by decide +kernel
theorem dX0_clearPlace_25 : decode cX0_clearPlace 25 = .ok (.if_icmp .eq 58, 3) := by decide +kernel
theorem dX0_clearPlace_28 : decode cX0_clearPlace 28 = .ok (.iload 6, 2) := by decide +kernel
theorem dX0_clearPlace_30 : decode cX0_clearPlace 30 = .ok (.sipush 10007, 3) := by decide +kernel
theorem dX0_clearPlace_33 : decode cX0_clearPlace 33 = .ok (.if_icmp .eq 50, 3) := by decide +kernel
theorem dX0_clearPlace_36 : decode cX0_clearPlace 36 = .ok (.iconst 0, 1) := by decide +kernel
theorem dX0_clearPlace_37 : decode cX0_clearPlace 37 = .ok (.istore 7, 2) := by decide +kernel
theorem dX0_clearPlace_39 : decode cX0_clearPlace 39 = .ok (.iload 7, 2) := by decide +kernel
theorem dX0_clearPlace_41 : decode cX0_clearPlace 41 = .ok (.iload 4, 2) := by decide +kernel
theorem dX0_clearPlace_43 : decode cX0_clearPlace 43 = .ok (.if_icmp .ge 40, 3) := by decide +kernel
theorem dX0_clearPlace_46 : decode cX0_clearPlace 46 = .ok (.aload_n 0, 1) := by decide +kernel
theorem dX0_clearPlace_47 : decode cX0_clearPlace 47 = .ok (.iload 5, 2) := by decide +kernel
theorem dX0_clearPlace_49 : decode cX0_clearPlace 49 = .ok (.iload 7, 2) := by decide +kernel
theorem dX0_clearPlace_51 : decode cX0_clearPlace 51 = .ok (.aload_n 0, 1) := by decide +kernel
theorem dX0_clearPlace_52 : decode cX0_clearPlace 52 = .ok (.iload 5, 2) := by decide +kernel
theorem dX0_clearPlace_54 : decode cX0_clearPlace 54 = .ok (.iload 7, 2) := by decide +kernel
theorem dX0_clearPlace_56 : decode cX0_clearPlace 56 = .ok (.invokevirtual 52, 3) := by decide +kernel
theorem dX0_clearPlace_59 : decode cX0_clearPlace 59 = .ok (.iload 6, 2) := by decide +kernel
theorem dX0_clearPlace_61 : decode cX0_clearPlace 61 = .ok (.aload_n 0, 1) := by decide +kernel
theorem dX0_clearPlace_62 : decode cX0_clearPlace 62 = .ok (.iload_n 2, 1) := by decide +kernel
theorem dX0_clearPlace_63 : decode cX0_clearPlace 63 = .ok (.iload 7, 2) := by decide +kernel
theorem dX0_clearPlace_65 : decode cX0_clearPlace 65 = .ok (.invokevirtual 52, 3) := by decide +kernel
theorem dX0_clearPlace_68 : decode cX0_clearPlace 68 = .ok (.imul, 1) := by decide +kernel
theorem dX0_clearPlace_69 : decode cX0_clearPlace 69 = .ok (.iadd, 1) := by decide +kernel
theorem dX0_clearPlace_70 : decode cX0_clearPlace 70 = .ok (.sipush 10007, 3) := by decide +kernel
theorem dX0_clearPlace_73 : decode cX0_clearPlace 73 = .ok (.irem, 1) := by decide +kernel
theorem dX0_clearPlace_74 : decode cX0_clearPlace 74 = .ok (.invokevirtual 25, 3) := by decide +kernel
theorem dX0_clearPlace_77 : decode cX0_clearPlace 77 = .ok (.iinc 7 1, 3) := by decide +kernel
theorem dX0_clearPlace_80 : decode cX0_clearPlace 80 = .ok (.goto (-41), 3) := by decide +kernel
theorem dX0_clearPlace_83 : decode cX0_clearPlace 83 = .ok (.iinc 5 1, 3) := by decide +kernel
theorem dX0_clearPlace_86 : decode cX0_clearPlace 86 = .ok (.goto (-83), 3) := by decide +kernel
theorem dX0_clearPlace_89 : decode cX0_clearPlace 89 = .ok (.return_, 1) := by decide +kernel
end
section
theorem dX1_reduced_0 : decode cX1_reduced 0 = .ok (.iload_n 0, 1) := by decide +kernel
theorem dX1_reduced_1 : decode cX1_reduced 1 = .ok (.sipush 10007, 3) := by decide +kernel
theorem dX1_reduced_4 : decode cX1_reduced 4 = .ok (.invokestatic 9, 3) := by decide +kernel
theorem dX1_reduced_7 : decode cX1_reduced 7 = .ok (.ireturn, 1) := by decide +kernel
theorem dX1_power_0 : decode cX1_power 0 = .ok (.iconst 1, 1) := by decide +kernel
theorem dX1_power_1 : decode cX1_power 1 = .ok (.istore_n 2, 1) := by decide +kernel
theorem dX1_power_2 : decode cX1_power 2 = .ok (.iload_n 0, 1) := by decide +kernel
theorem dX1_power_3 : decode cX1_power 3 = .ok (.istore_n 3, 1) := by decide +kernel
theorem dX1_power_4 : decode cX1_power 4 = .ok (.iload_n 1, 1) := by decide +kernel
theorem dX1_power_5 : decode cX1_power 5 = .ok (.istore 4, 2) := by decide +kernel
theorem dX1_power_7 : decode cX1_power 7 = .ok (.iload 4, 2) := by decide +kernel
theorem dX1_power_9 : decode cX1_power 9 = .ok (.ifCond .le 36, 3) := by decide +kernel
theorem dX1_power_12 : decode cX1_power 12 = .ok (.iload 4, 2) := by decide +kernel
theorem dX1_power_14 : decode cX1_power 14 = .ok (.iconst 2, 1) := by decide +kernel
theorem dX1_power_15 : decode cX1_power 15 = .ok (.irem, 1) := by decide +kernel
theorem dX1_power_16 : decode cX1_power 16 = .ok (.iconst 1, 1) := by decide +kernel
theorem dX1_power_17 : decode cX1_power 17 = .ok (.if_icmp .ne 11, 3) := by decide +kernel
theorem dX1_power_20 : decode cX1_power 20 = .ok (.iload_n 2, 1) := by decide +kernel
theorem dX1_power_21 : decode cX1_power 21 = .ok (.iload_n 3, 1) := by decide +kernel
theorem dX1_power_22 : decode cX1_power 22 = .ok (.imul, 1) := by decide +kernel
theorem dX1_power_23 : decode cX1_power 23 = .ok (.sipush 10007, 3) := by decide +kernel
theorem dX1_power_26 : decode cX1_power 26 = .ok (.irem, 1) := by decide +kernel
theorem dX1_power_27 : decode cX1_power 27 = .ok (.istore_n 2, 1) := by decide +kernel
theorem dX1_power_28 : decode cX1_power 28 = .ok (.iload_n 3, 1) := by decide +kernel
theorem dX1_power_29 : decode cX1_power 29 = .ok (.iload_n 3, 1) := by decide +kernel
theorem dX1_power_30 : decode cX1_power 30 = .ok (.imul, 1) := by decide +kernel
theorem dX1_power_31 : decode cX1_power 31 = .ok (.sipush 10007, 3) := by decide +kernel
theorem dX1_power_34 : decode cX1_power 34 = .ok (.irem, 1) := by decide +kernel
theorem dX1_power_35 : decode cX1_power 35 = .ok (.istore_n 3, 1) := by decide +kernel
theorem dX1_power_36 : decode cX1_power 36 = .ok (.iload 4, 2) := by decide +kernel
theorem dX1_power_38 : decode cX1_power 38 = .ok (.iconst 2, 1) := by decide +kernel
theorem dX1_power_39 : decode cX1_power 39 = .ok (.idiv, 1) := by decide +kernel
theorem dX1_power_40 : decode cX1_power 40 = .ok (.istore 4, 2) := by decide +kernel
theorem dX1_power_42 : decode cX1_power 42 = .ok (.goto (-35), 3) := by decide +kernel
theorem dX1_power_45 : decode cX1_power 45 = .ok (.iload_n 2, 1) := by decide +kernel
theorem dX1_power_46 : decode cX1_power 46 = .ok (.ireturn, 1) := by decide +kernel
theorem dX1_inverse_0 : decode cX1_inverse 0 = .ok (.iload_n 0, 1) := by decide +kernel
theorem dX1_inverse_1 : decode cX1_inverse 1 = .ok (.sipush 10005, 3) := by decide +kernel
theorem dX1_inverse_4 : decode cX1_inverse 4 = .ok (.invokestatic 15, 3) := by decide +kernel
theorem dX1_inverse_7 : decode cX1_inverse 7 = .ok (.ireturn, 1) := by decide +kernel
theorem dX1_factorial_0 : decode cX1_factorial 0 = .ok (.iconst 1, 1) := by decide +kernel
theorem dX1_factorial_1 : decode cX1_factorial 1 = .ok (.istore_n 1, 1) := by decide +kernel
theorem dX1_factorial_2 : decode cX1_factorial 2 = .ok (.iconst 2, 1) := by decide +kernel
theorem dX1_factorial_3 : decode cX1_factorial 3 = .ok (.istore_n 2, 1) := by decide +kernel
theorem dX1_factorial_4 : decode cX1_factorial 4 = .ok (.iload_n 2, 1) := by decide +kernel
theorem dX1_factorial_5 : decode cX1_factorial 5 = .ok (.iload_n 0, 1) := by decide +kernel
theorem dX1_factorial_6 : decode cX1_factorial 6 = .ok (.if_icmp .gt 17, 3) := by decide +kernel
theorem dX1_factorial_9 : decode cX1_factorial 9 = .ok (.iload_n 1, 1) := by decide +kernel
theorem dX1_factorial_10 : decode cX1_factorial 10 = .ok (.iload_n 2, 1) := by decide +kernel
theorem dX1_factorial_11 : decode cX1_factorial 11 = .ok (.imul, 1) := by decide +kernel
theorem dX1_factorial_12 : decode cX1_factorial 12 = .ok (.sipush 10007, 3) := by decide +kernel
theorem dX1_factorial_15 : decode cX1_factorial 15 = .ok (.irem, 1) := by decide +kernel
theorem dX1_factorial_16 : decode cX1_factorial 16 = .ok (.istore_n 1, 1) := by decide +kernel
theorem dX1_factorial_17 : decode cX1_factorial 17 = .ok (.iinc 2 1, 3) := by decide +kernel
theorem dX1_factorial_20 : decode cX1_factorial 20 = .ok (.goto (-16), 3) := by decide +kernel
theorem dX1_factorial_23 : decode cX1_factorial 23 = .ok (.iload_n 1, 1) := by decide +kernel
theorem dX1_factorial_24 : decode cX1_factorial 24 = .ok (.ireturn, 1) := by decide +kernel
theorem dX1_choose_0 : decode cX1_choose 0 = .ok (.iconst 1, 1) := by decide +kernel
theorem dX1_choose_1 : decode cX1_choose 1 = .ok (.istore_n 2, 1) := by decide +kernel
theorem dX1_choose_2 : decode cX1_choose 2 = .ok (.iconst 1, 1) := by decide +kernel
theorem dX1_choose_3 : decode cX1_choose 3 = .ok (.istore_n 3, 1) := by decide +kernel
theorem dX1_choose_4 : decode cX1_choose 4 = .ok (.iload_n 3, 1) := by decide +kernel
theorem dX1_choose_5 : decode cX1_choose 5 = .ok (.iload_n 1, 1) := by decide +kernel
theorem dX1_choose_6 : decode cX1_choose 6 = .ok (.if_icmp .gt 19, 3) := by decide +kernel
theorem dX1_choose_9 : decode cX1_choose 9 = .ok (.iload_n 2, 1) := by decide +kernel
theorem dX1_choose_10 : decode cX1_choose 10 = .ok (.iload_n 0, 1) := by decide +kernel
theorem dX1_choose_11 : decode cX1_choose 11 = .ok (.iload_n 3, 1) := by decide +kernel
theorem dX1_choose_12 : decode cX1_choose 12 = .ok (.isub, 1) := by decide +kernel
theorem dX1_choose_13 : decode cX1_choose 13 = .ok (.iconst 1, 1) := by decide +kernel
theorem dX1_choose_14 : decode cX1_choose 14 = .ok (.iadd, 1) := by decide +kernel
theorem dX1_choose_15 : decode cX1_choose 15 = .ok (.imul, 1) := by decide +kernel
theorem dX1_choose_16 : decode cX1_choose 16 = .ok (.iload_n 3, 1) := by decide +kernel
theorem dX1_choose_17 : decode cX1_choose 17 = .ok (.idiv, 1) := by decide +kernel
theorem dX1_choose_18 : decode cX1_choose 18 = .ok (.istore_n 2, 1) := by decide +kernel
theorem dX1_choose_19 : decode cX1_choose 19 = .ok (.iinc 3 1, 3) := by decide +kernel
theorem dX1_choose_22 : decode cX1_choose 22 = .ok (.goto (-18), 3) := by decide +kernel
theorem dX1_choose_25 : decode cX1_choose 25 = .ok (.iload_n 2, 1) := by decide +kernel
theorem dX1_choose_26 : decode cX1_choose 26 = .ok (.ireturn, 1) := by decide +kernel
end
section
theorem dX2_clear_0 : decode cX2_clear 0 = .ok (.iconst 0, 1) := by decide +kernel
theorem dX2_clear_1 : decode cX2_clear 1 = .ok (.istore_n 1, 1) := by decide +kernel
theorem dX2_clear_2 : decode cX2_clear 2 = .ok (.iload_n 1, 1) := by decide +kernel
theorem dX2_clear_3 : decode cX2_clear 3 = .ok (.aload_n 0, 1) := by decide +kernel
theorem dX2_clear_4 : decode cX2_clear 4 = .ok (.arraylength, 1) := by decide +kernel
theorem dX2_clear_5 : decode cX2_clear 5 = .ok (.if_icmp .ge 13, 3) := by decide +kernel
theorem dX2_clear_8 : decode cX2_clear 8 = .ok (.aload_n 0, 1) := by decide +kernel
theorem dX2_clear_9 : decode cX2_clear 9 = .ok (.iload_n 1, 1) := by decide +kernel
theorem dX2_clear_10 : decode cX2_clear 10 = .ok (.iconst 0, 1) := by decide +kernel
theorem dX2_clear_11 : decode cX2_clear 11 = .ok (.iastore, 1) := by decide +kernel
theorem dX2_clear_12 : decode cX2_clear 12 = .ok (.iinc 1 1, 3) := by decide +kernel
theorem dX2_clear_15 : decode cX2_clear 15 = .ok (.goto (-13), 3) := by decide +kernel
theorem dX2_clear_18 : decode cX2_clear 18 = .ok (.return_, 1) := by decide +kernel
theorem dX2_multiply_0 : decode cX2_multiply 0 = .ok (.iconst 0, 1) := by decide +kernel
theorem dX2_multiply_1 : decode cX2_multiply 1 = .ok (.istore_n 2, 1) := by decide +kernel
theorem dX2_multiply_2 : decode cX2_multiply 2 = .ok (.iload_n 2, 1) := by decide +kernel
theorem dX2_multiply_3 : decode cX2_multiply 3 = .ok (.aload_n 0, 1) := by decide +kernel
theorem dX2_multiply_4 : decode cX2_multiply 4 = .ok (.arraylength, 1) := by decide +kernel
theorem dX2_multiply_5 : decode cX2_multiply 5 = .ok (.if_icmp .ge 21, 3) := by decide +kernel
theorem dX2_multiply_8 : decode cX2_multiply 8 = .ok (.aload_n 0, 1) := by decide +kernel
theorem dX2_multiply_9 : decode cX2_multiply 9 = .ok (.iload_n 2, 1) := by decide +kernel
theorem dX2_multiply_10 : decode cX2_multiply 10 = .ok (.aload_n 0, 1) := by decide +kernel
theorem dX2_multiply_11 : decode cX2_multiply 11 = .ok (.iload_n 2, 1) := by decide +kernel
theorem dX2_multiply_12 : decode cX2_multiply 12 = .ok (.iaload, 1) := by decide +kernel
theorem dX2_multiply_13 : decode cX2_multiply 13 = .ok (.iload_n 1, 1) := by decide +kernel
theorem dX2_multiply_14 : decode cX2_multiply 14 = .ok (.imul, 1) := by decide +kernel
theorem dX2_multiply_15 : decode cX2_multiply 15 = .ok (.sipush 10007, 3) := by decide +kernel
theorem dX2_multiply_18 : decode cX2_multiply 18 = .ok (.irem, 1) := by decide +kernel
theorem dX2_multiply_19 : decode cX2_multiply 19 = .ok (.iastore, 1) := by decide +kernel
theorem dX2_multiply_20 : decode cX2_multiply 20 = .ok (.iinc 2 1, 3) := by decide +kernel
theorem dX2_multiply_23 : decode cX2_multiply 23 = .ok (.goto (-21), 3) := by decide +kernel
theorem dX2_multiply_26 : decode cX2_multiply 26 = .ok (.return_, 1) := by decide +kernel
theorem dX2_addTimes_0 : decode cX2_addTimes 0 = .ok (.iconst 0, 1) := by decide +kernel
theorem dX2_addTimes_1 : decode cX2_addTimes 1 = .ok (.istore_n 3, 1) := by decide +kernel
theorem dX2_addTimes_2 : decode cX2_addTimes 2 = .ok (.iload_n 3, 1) := by decide +kernel
theorem dX2_addTimes_3 : decode cX2_addTimes 3 = .ok (.aload_n 0, 1) := by decide +kernel
theorem dX2_addTimes_4 : decode cX2_addTimes 4 = .ok (.arraylength, 1) := by decide +kernel
theorem dX2_addTimes_5 : decode cX2_addTimes 5 = .ok (.if_icmp .ge 31, 3) := by decide +kernel
theorem dX2_addTimes_8 : decode cX2_addTimes 8 = .ok (.iload_n 3, 1) := by decide +kernel
theorem dX2_addTimes_9 : decode cX2_addTimes 9 = .ok (.aload_n 1, 1) := by decide +kernel
theorem dX2_addTimes_10 : decode cX2_addTimes 10 = .ok (.arraylength, 1) := by decide +kernel
theorem dX2_addTimes_11 : decode cX2_addTimes 11 = .ok (.if_icmp .ge 25, 3) := by decide +kernel
theorem dX2_addTimes_14 : decode cX2_addTimes 14 = .ok (.aload_n 0, 1) := by decide +kernel
theorem dX2_addTimes_15 : decode cX2_addTimes 15 = .ok (.iload_n 3, 1) := by decide +kernel
theorem dX2_addTimes_16 : decode cX2_addTimes 16 = .ok (.aload_n 0, 1) := by decide +kernel
theorem dX2_addTimes_17 : decode cX2_addTimes 17 = .ok (.iload_n 3, 1) := by decide +kernel
theorem dX2_addTimes_18 : decode cX2_addTimes 18 = .ok (.iaload, 1) := by decide +kernel
theorem dX2_addTimes_19 : decode cX2_addTimes 19 = .ok (.aload_n 1, 1) := by decide +kernel
theorem dX2_addTimes_20 : decode cX2_addTimes 20 = .ok (.iload_n 3, 1) := by decide +kernel
theorem dX2_addTimes_21 : decode cX2_addTimes 21 = .ok (.iaload, 1) := by decide +kernel
theorem dX2_addTimes_22 : decode cX2_addTimes 22 = .ok (.iload_n 2, 1) := by decide +kernel
theorem dX2_addTimes_23 : decode cX2_addTimes 23 = .ok (.imul, 1) := by decide +kernel
theorem dX2_addTimes_24 : decode cX2_addTimes 24 = .ok (.iadd, 1) := by decide +kernel
theorem dX2_addTimes_25 : decode cX2_addTimes 25 = .ok (.sipush 10007, 3) := by decide +kernel
theorem dX2_addTimes_28 : decode cX2_addTimes 28 = .ok (.irem, 1) := by decide +kernel
theorem dX2_addTimes_29 : decode cX2_addTimes 29 = .ok (.iastore, 1) := by decide +kernel
theorem dX2_addTimes_30 : decode cX2_addTimes 30 = .ok (.iinc 3 1, 3) := by decide +kernel
theorem dX2_addTimes_33 : decode cX2_addTimes 33 = .ok (.goto (-31), 3) := by decide +kernel
theorem dX2_addTimes_36 : decode cX2_addTimes 36 = .ok (.return_, 1) := by decide +kernel
theorem dX2_addProduct_0 : decode cX2_addProduct 0 = .ok (.iconst 0, 1) := by decide +kernel
theorem dX2_addProduct_1 : decode cX2_addProduct 1 = .ok (.istore 6, 2) := by decide +kernel
theorem dX2_addProduct_3 : decode cX2_addProduct 3 = .ok (.iload 6, 2) := by decide +kernel
theorem dX2_addProduct_5 : decode cX2_addProduct 5 = .ok (.iload_n 2, 1) := by decide +kernel
theorem dX2_addProduct_6 : decode cX2_addProduct 6 = .ok (.if_icmp .gt 74, 3) := by decide +kernel
theorem dX2_addProduct_9 : decode cX2_addProduct 9 = .ok (.aload_n 1, 1) := by decide +kernel
theorem dX2_addProduct_10 : decode cX2_addProduct 10 = .ok (.iload 6, 2) := by decide +kernel
theorem dX2_addProduct_12 : decode cX2_addProduct 12 = .ok (.iaload, 1) := by decide +kernel
theorem dX2_addProduct_13 : decode cX2_addProduct 13 = .ok (.iload 5, 2) := by decide +kernel
theorem dX2_addProduct_15 : decode cX2_addProduct 15 = .ok (.imul, 1) := by decide +kernel
theorem dX2_addProduct_16 : decode cX2_addProduct 16 = .ok (.sipush 10007, 3) := by decide +kernel
theorem dX2_addProduct_19 : decode cX2_addProduct 19 = .ok (.irem, 1) := by decide +kernel
theorem dX2_addProduct_20 : decode cX2_addProduct 20 = .ok (.istore 7, 2) := by decide +kernel
theorem dX2_addProduct_22 : decode cX2_addProduct 22 = .ok (.iconst 0, 1) := by decide +kernel
theorem dX2_addProduct_23 : decode cX2_addProduct 23 = .ok (.istore 8, 2) := by decide +kernel
theorem dX2_addProduct_25 : decode cX2_addProduct 25 = .ok (.iload 8, 2) := by decide +kernel
theorem dX2_addProduct_27 : decode cX2_addProduct 27 = .ok (.iload 4, 2) := by decide +kernel
theorem dX2_addProduct_29 : decode cX2_addProduct 29 = .ok (.if_icmp .gt 45, 3) := by decide +kernel
theorem dX2_addProduct_32 : decode cX2_addProduct 32 = .ok (.iload 6, 2) := by decide +kernel
theorem dX2_addProduct_34 : decode cX2_addProduct 34 = .ok (.iload 8, 2) := by decide +kernel
theorem dX2_addProduct_36 : decode cX2_addProduct 36 = .ok (.iadd, 1) := by decide +kernel
theorem dX2_addProduct_37 : decode cX2_addProduct 37 = .ok (.aload_n 0, 1) := by decide +kernel
theorem dX2_addProduct_38 : decode cX2_addProduct 38 = .ok (.arraylength, 1) := by decide +kernel
theorem dX2_addProduct_39 : decode cX2_addProduct 39 = .ok (.if_icmp .ge 35, 3) := by decide +kernel
theorem dX2_addProduct_42 : decode cX2_addProduct 42 = .ok (.aload_n 0, 1) := by decide +kernel
theorem dX2_addProduct_43 : decode cX2_addProduct 43 = .ok (.iload 6, 2) := by decide +kernel
theorem dX2_addProduct_45 : decode cX2_addProduct 45 = .ok (.iload 8, 2) := by decide +kernel
theorem dX2_addProduct_47 : decode cX2_addProduct 47 = .ok (.iadd, 1) := by decide +kernel
theorem dX2_addProduct_48 : decode cX2_addProduct 48 = .ok (.aload_n 0, 1) := by decide +kernel
theorem dX2_addProduct_49 : decode cX2_addProduct 49 = .ok (.iload 6, 2) := by decide +kernel
theorem dX2_addProduct_51 : decode cX2_addProduct 51 = .ok (.iload 8, 2) := by decide +kernel
theorem dX2_addProduct_53 : decode cX2_addProduct 53 = .ok (.iadd, 1) := by decide +kernel
theorem dX2_addProduct_54 : decode cX2_addProduct 54 = .ok (.iaload, 1) := by decide +kernel
theorem dX2_addProduct_55 : decode cX2_addProduct 55 = .ok (.iload 7, 2) := by decide +kernel
theorem dX2_addProduct_57 : decode cX2_addProduct 57 = .ok (.aload_n 3, 1) := by decide +kernel
theorem dX2_addProduct_58 : decode cX2_addProduct 58 = .ok (.iload 8, 2) := by decide +kernel
theorem dX2_addProduct_60 : decode cX2_addProduct 60 = .ok (.iaload, 1) := by decide +kernel
theorem dX2_addProduct_61 : decode cX2_addProduct 61 = .ok (.imul, 1) := by decide +kernel
theorem dX2_addProduct_62 : decode cX2_addProduct 62 = .ok (.iadd, 1) := by decide +kernel
theorem dX2_addProduct_63 : decode cX2_addProduct 63 = .ok (.sipush 10007, 3) := by decide +kernel
theorem dX2_addProduct_66 : decode cX2_addProduct 66 = .ok (.irem, 1) := by decide +kernel
theorem dX2_addProduct_67 : decode cX2_addProduct 67 = .ok (.iastore, 1) := by decide +kernel
theorem dX2_addProduct_68 : decode cX2_addProduct 68 = .ok (.iinc 8 1, 3) := by decide +kernel
theorem dX2_addProduct_71 : decode cX2_addProduct 71 = .ok (.goto (-46), 3) := by decide +kernel
theorem dX2_addProduct_74 : decode cX2_addProduct 74 = .ok (.iinc 6 1, 3) := by decide +kernel
theorem dX2_addProduct_77 : decode cX2_addProduct 77 = .ok (.goto (-74), 3) := by decide +kernel
theorem dX2_addProduct_80 : decode cX2_addProduct 80 = .ok (.return_, 1) := by decide +kernel
theorem dX2_timesLine_0 : decode cX2_timesLine 0 = .ok (.iload_n 1, 1) := by decide +kernel
theorem dX2_timesLine_1 : decode cX2_timesLine 1 = .ok (.iconst 1, 1) := by decide +kernel
theorem dX2_timesLine_2 : decode cX2_timesLine 2 = .ok (.iadd, 1) := by decide +kernel
theorem dX2_timesLine_3 : decode cX2_timesLine 3 = .ok (.istore 4, 2) := by decide +kernel
theorem dX2_timesLine_5 : decode cX2_timesLine 5 = .ok (.iload 4, 2) := by decide +kernel
theorem dX2_timesLine_7 : decode cX2_timesLine 7 = .ok (.ifCond .le 32, 3) := by decide +kernel
theorem dX2_timesLine_10 : decode cX2_timesLine 10 = .ok (.aload_n 0, 1) := by decide +kernel
theorem dX2_timesLine_11 : decode cX2_timesLine 11 = .ok (.iload 4, 2) := by decide +kernel
theorem dX2_timesLine_13 : decode cX2_timesLine 13 = .ok (.iload_n 2, 1) := by decide +kernel
theorem dX2_timesLine_14 : decode cX2_timesLine 14 = .ok (.aload_n 0, 1) := by decide +kernel
theorem dX2_timesLine_15 : decode cX2_timesLine 15 = .ok (.iload 4, 2) := by decide +kernel
theorem dX2_timesLine_17 : decode cX2_timesLine 17 = .ok (.iaload, 1) := by decide +kernel
theorem dX2_timesLine_18 : decode cX2_timesLine 18 = .ok (.imul, 1) := by decide +kernel
theorem dX2_timesLine_19 : decode cX2_timesLine 19 = .ok (.iload_n 3, 1) := by decide +kernel
theorem dX2_timesLine_20 : decode cX2_timesLine 20 = .ok (.aload_n 0, 1) := by decide +kernel
theorem dX2_timesLine_21 : decode cX2_timesLine 21 = .ok (.iload 4, 2) := by decide +kernel
theorem dX2_timesLine_23 : decode cX2_timesLine 23 = .ok (.iconst 1, 1) := by decide +kernel
theorem dX2_timesLine_24 : decode cX2_timesLine 24 = .ok (.isub, 1) := by decide +kernel
theorem dX2_timesLine_25 : decode cX2_timesLine 25 = .ok (.iaload, 1) := by decide +kernel
theorem dX2_timesLine_26 : decode cX2_timesLine 26 = .ok (.imul, 1) := by decide +kernel
theorem dX2_timesLine_27 : decode cX2_timesLine 27 = .ok (.iadd, 1) := by decide +kernel
theorem dX2_timesLine_28 : decode cX2_timesLine 28 = .ok (.sipush 10007, 3) := by decide +kernel
theorem dX2_timesLine_31 : decode cX2_timesLine 31 = .ok (.irem, 1) := by decide +kernel
theorem dX2_timesLine_32 : decode cX2_timesLine 32 = .ok (.iastore, 1) := by decide +kernel
theorem dX2_timesLine_33 : decode cX2_timesLine 33 = .ok (.iinc 4 (-1), 3) := by decide +kernel
theorem dX2_timesLine_36 : decode cX2_timesLine 36 = .ok (.goto (-31), 3) := by decide +kernel
theorem dX2_timesLine_39 : decode cX2_timesLine 39 = .ok (.aload_n 0, 1) := by decide +kernel
theorem dX2_timesLine_40 : decode cX2_timesLine 40 = .ok (.iconst 0, 1) := by decide +kernel
theorem dX2_timesLine_41 : decode cX2_timesLine 41 = .ok (.iload_n 2, 1) := by decide +kernel
theorem dX2_timesLine_42 : decode cX2_timesLine 42 = .ok (.aload_n 0, 1) := by decide +kernel
theorem dX2_timesLine_43 : decode cX2_timesLine 43 = .ok (.iconst 0, 1) := by decide +kernel
theorem dX2_timesLine_44 : decode cX2_timesLine 44 = .ok (.iaload, 1) := by decide +kernel
theorem dX2_timesLine_45 : decode cX2_timesLine 45 = .ok (.imul, 1) := by decide +kernel
theorem dX2_timesLine_46 : decode cX2_timesLine 46 = .ok (.sipush 10007, 3) := by decide +kernel
theorem dX2_timesLine_49 : decode cX2_timesLine 49 = .ok (.irem, 1) := by decide +kernel
theorem dX2_timesLine_50 : decode cX2_timesLine 50 = .ok (.iastore, 1) := by decide +kernel
theorem dX2_timesLine_51 : decode cX2_timesLine 51 = .ok (.return_, 1) := by decide +kernel
theorem dX2_addPower_0 : decode cX2_addPower 0 = .ok (.iload_n 3, 1) := by decide +kernel
theorem dX2_addPower_1 : decode cX2_addPower 1 = .ok (.istore 4, 2) := by decide +kernel
theorem dX2_addPower_3 : decode cX2_addPower 3 = .ok (.iconst 0, 1) := by decide +kernel
theorem dX2_addPower_4 : decode cX2_addPower 4 = .ok (.istore 5, 2) := by decide +kernel
theorem dX2_addPower_6 : decode cX2_addPower 6 = .ok (.iload 5, 2) := by decide +kernel
theorem dX2_addPower_8 : decode cX2_addPower 8 = .ok (.iload_n 1, 1) := by decide +kernel
theorem dX2_addPower_9 : decode cX2_addPower 9 = .ok (.if_icmp .gt 41, 3) := by decide +kernel
theorem dX2_addPower_12 : decode cX2_addPower 12 = .ok (.aload_n 0, 1) := by decide +kernel
theorem dX2_addPower_13 : decode cX2_addPower 13 = .ok (.iload 5, 2) := by decide +kernel
theorem dX2_addPower_15 : decode cX2_addPower 15 = .ok (.aload_n 0, 1) := by decide +kernel
theorem dX2_addPower_16 : decode cX2_addPower 16 = .ok (.iload 5, 2) := by decide +kernel
theorem dX2_addPower_18 : decode cX2_addPower 18 = .ok (.iaload, 1) := by decide +kernel
theorem dX2_addPower_19 : decode cX2_addPower 19 = .ok (.iload 4, 2) := by decide +kernel
theorem dX2_addPower_21 : decode cX2_addPower 21 = .ok (.iload_n 1, 1) := by decide +kernel
theorem dX2_addPower_22 : decode cX2_addPower 22 = .ok (.iload 5, 2) := by decide +kernel
theorem dX2_addPower_24 : decode cX2_addPower 24 = .ok (.invokestatic 9, 3) := by decide +kernel
theorem dX2_addPower_27 : decode cX2_addPower 27 = .ok (.imul, 1) := by decide +kernel
theorem dX2_addPower_28 : decode cX2_addPower 28 = .ok (.iadd, 1) := by decide +kernel
theorem dX2_addPower_29 : decode cX2_addPower 29 = .ok (.sipush 10007, 3) := by decide +kernel
theorem dX2_addPower_32 : decode cX2_addPower 32 = .ok (.irem, 1) := by decide +kernel
theorem dX2_addPower_33 : decode cX2_addPower 33 = .ok (.iastore, 1) := by decide +kernel
theorem dX2_addPower_34 : decode cX2_addPower 34 = .ok (.iload 4, 2) := by decide +kernel
theorem dX2_addPower_36 : decode cX2_addPower 36 = .ok (.iload_n 2, 1) := by decide +kernel
theorem dX2_addPower_37 : decode cX2_addPower 37 = .ok (.imul, 1) := by decide +kernel
theorem dX2_addPower_38 : decode cX2_addPower 38 = .ok (.sipush 10007, 3) := by decide +kernel
theorem dX2_addPower_41 : decode cX2_addPower 41 = .ok (.irem, 1) := by decide +kernel
theorem dX2_addPower_42 : decode cX2_addPower 42 = .ok (.istore 4, 2) := by decide +kernel
theorem dX2_addPower_44 : decode cX2_addPower 44 = .ok (.iinc 5 1, 3) := by decide +kernel
theorem dX2_addPower_47 : decode cX2_addPower 47 = .ok (.goto (-41), 3) := by decide +kernel
theorem dX2_addPower_50 : decode cX2_addPower 50 = .ok (.return_, 1) := by decide +kernel
theorem dX2_divideByChoices_0 : decode cX2_divideByChoices 0 = .ok (.iconst 0, 1) := by decide +kernel
theorem dX2_divideByChoices_1 : decode cX2_divideByChoices 1 = .ok (.istore_n 2, 1) := by decide +kernel
theorem dX2_divideByChoices_2 : decode cX2_divideByChoices 2 = .ok (.iload_n 2, 1) := by decide +kernel
theorem dX2_divideByChoices_3 : decode cX2_divideByChoices 3 = .ok (.iload_n 1, 1) := by decide +kernel
theorem dX2_divideByChoices_4 : decode cX2_divideByChoices 4 = .ok (.if_icmp .gt 28, 3) := by decide +kernel
theorem dX2_divideByChoices_7 : decode cX2_divideByChoices 7 = .ok (.aload_n 0, 1) := by decide +kernel
theorem dX2_divideByChoices_8 : decode cX2_divideByChoices 8 = .ok (.iload_n 2, 1) := by decide +kernel
theorem dX2_divideByChoices_9 : decode cX2_divideByChoices 9 = .ok (.aload_n 0, 1) := by decide +kernel
theorem dX2_divideByChoices_10 : decode cX2_divideByChoices 10 = .ok (.iload_n 2, 1) := by decide +kernel
theorem dX2_divideByChoices_11 : decode cX2_divideByChoices 11 = .ok (.iaload, 1) := by decide +kernel
theorem dX2_divideByChoices_12 : decode cX2_divideByChoices 12 = .ok (.iload_n 1, 1) := by decide +kernel
theorem dX2_divideByChoices_13 : decode cX2_divideByChoices 13 = .ok (.iload_n 2, 1) := by decide +kernel
theorem dX2_divideByChoices_14 : decode cX2_divideByChoices 14 = .ok (.invokestatic 9, 3) := by decide +kernel
theorem dX2_divideByChoices_17 : decode cX2_divideByChoices 17 = .ok (.invokestatic 15, 3) := by decide +kernel
theorem dX2_divideByChoices_20 : decode cX2_divideByChoices 20 = .ok (.imul, 1) := by decide +kernel
theorem dX2_divideByChoices_21 : decode cX2_divideByChoices 21 = .ok (.sipush 10007, 3) := by decide +kernel
theorem dX2_divideByChoices_24 : decode cX2_divideByChoices 24 = .ok (.irem, 1) := by decide +kernel
theorem dX2_divideByChoices_25 : decode cX2_divideByChoices 25 = .ok (.iastore, 1) := by decide +kernel
theorem dX2_divideByChoices_26 : decode cX2_divideByChoices 26 = .ok (.iinc 2 1, 3) := by decide +kernel
theorem dX2_divideByChoices_29 : decode cX2_divideByChoices 29 = .ok (.goto (-27), 3) := by decide +kernel
theorem dX2_divideByChoices_32 : decode cX2_divideByChoices 32 = .ok (.return_, 1) := by decide +kernel
theorem dX2_changed_0 : decode cX2_changed 0 = .ok (.iconst 0, 1) := by decide +kernel
theorem dX2_changed_1 : decode cX2_changed 1 = .ok (.istore 5, 2) := by decide +kernel
theorem dX2_changed_3 : decode cX2_changed 3 = .ok (.iload 5, 2) := by decide +kernel
theorem dX2_changed_5 : decode cX2_changed 5 = .ok (.aload 4, 2) := by decide +kernel
theorem dX2_changed_7 : decode cX2_changed 7 = .ok (.arraylength, 1) := by decide +kernel
theorem dX2_changed_8 : decode cX2_changed 8 = .ok (.if_icmp .ge 28, 3) := by decide +kernel
theorem dX2_changed_11 : decode cX2_changed 11 = .ok (.aload 4, 2) := by decide +kernel
theorem dX2_changed_13 : decode cX2_changed 13 = .ok (.iload 5, 2) := by decide +kernel
theorem dX2_changed_15 : decode cX2_changed 15 = .ok (.iload 5, 2) := by decide +kernel
theorem dX2_changed_17 : decode cX2_changed 17 = .ok (.iload_n 1, 1) := by decide +kernel
theorem dX2_changed_18 : decode cX2_changed 18 = .ok (.if_icmp .gt 10, 3) := by decide +kernel
theorem dX2_changed_21 : decode cX2_changed 21 = .ok (.aload_n 0, 1) := by decide +kernel
theorem dX2_changed_22 : decode cX2_changed 22 = .ok (.iload 5, 2) := by decide +kernel
theorem dX2_changed_24 : decode cX2_changed 24 = .ok (.iaload, 1) := by decide +kernel
theorem dX2_changed_25 : decode cX2_changed 25 = .ok (.goto 4, 3) := by decide +kernel
theorem dX2_changed_28 : decode cX2_changed 28 = .ok (.iconst 0, 1) := by decide +kernel
theorem dX2_changed_29 : decode cX2_changed 29 = .ok (.iastore, 1) := by decide +kernel
theorem dX2_changed_30 : decode cX2_changed 30 = .ok (.iinc 5 1, 3) := by decide +kernel
theorem dX2_changed_33 : decode cX2_changed 33 = .ok (.goto (-30), 3) := by decide +kernel
theorem dX2_changed_36 : decode cX2_changed 36 = .ok (.iload_n 1, 1) := by decide +kernel
theorem dX2_changed_37 : decode cX2_changed 37 = .ok (.istore 5, 2) := by decide +kernel
theorem dX2_changed_39 : decode cX2_changed 39 = .ok (.iconst 0, 1) := by decide +kernel
theorem dX2_changed_40 : decode cX2_changed 40 = .ok (.istore 6, 2) := by decide +kernel
theorem dX2_changed_42 : decode cX2_changed 42 = .ok (.iload 6, 2) := by decide +kernel
theorem dX2_changed_44 : decode cX2_changed 44 = .ok (.iload_n 2, 1) := by decide +kernel
theorem dX2_changed_45 : decode cX2_changed 45 = .ok (.if_icmp .ge 19, 3) := by decide +kernel
theorem dX2_changed_48 : decode cX2_changed 48 = .ok (.aload 4, 2) := by decide +kernel
theorem dX2_changed_50 : decode cX2_changed 50 = .ok (.iload 5, 2) := by decide +kernel
theorem dX2_changed_52 : decode cX2_changed 52 = .ok (.invokestatic 19, 3) := by decide +kernel
theorem dX2_changed_55 : decode cX2_changed 55 = .ok (.iinc 5 (-1), 3) := by decide +kernel
theorem dX2_changed_58 : decode cX2_changed 58 = .ok (.iinc 6 1, 3) := by decide +kernel
theorem dX2_changed_61 : decode cX2_changed 61 = .ok (.goto (-19), 3) := by decide +kernel
theorem dX2_changed_64 : decode cX2_changed 64 = .ok (.iconst 0, 1) := by decide +kernel
theorem dX2_changed_65 : decode cX2_changed 65 = .ok (.istore 6, 2) := by decide +kernel
theorem dX2_changed_67 : decode cX2_changed 67 = .ok (.iload 6, 2) := by decide +kernel
theorem dX2_changed_69 : decode cX2_changed 69 = .ok (.iload_n 3, 1) := by decide +kernel
theorem dX2_changed_70 : decode cX2_changed 70 = .ok (.if_icmp .ge 19, 3) := by decide +kernel
theorem dX2_changed_73 : decode cX2_changed 73 = .ok (.aload 4, 2) := by decide +kernel
theorem dX2_changed_75 : decode cX2_changed 75 = .ok (.iload 5, 2) := by decide +kernel
theorem dX2_changed_77 : decode cX2_changed 77 = .ok (.invokestatic 25, 3) := by decide +kernel
theorem dX2_changed_80 : decode cX2_changed 80 = .ok (.iinc 5 (-1), 3) := by decide +kernel
theorem dX2_changed_83 : decode cX2_changed 83 = .ok (.iinc 6 1, 3) := by decide +kernel
theorem dX2_changed_86 : decode cX2_changed 86 = .ok (.goto (-19), 3) := by decide +kernel
theorem dX2_changed_89 : decode cX2_changed 89 = .ok (.return_, 1) := by decide +kernel
theorem dX2_changeByX_0 : decode cX2_changeByX 0 = .ok (.iconst 0, 1) := by decide +kernel
theorem dX2_changeByX_1 : decode cX2_changeByX 1 = .ok (.istore_n 2, 1) := by decide +kernel
theorem dX2_changeByX_2 : decode cX2_changeByX 2 = .ok (.iload_n 2, 1) := by decide +kernel
theorem dX2_changeByX_3 : decode cX2_changeByX 3 = .ok (.iload_n 1, 1) := by decide +kernel
theorem dX2_changeByX_4 : decode cX2_changeByX 4 = .ok (.if_icmp .gt 23, 3) := by decide +kernel
theorem dX2_changeByX_7 : decode cX2_changeByX 7 = .ok (.aload_n 0, 1) := by decide +kernel
theorem dX2_changeByX_8 : decode cX2_changeByX 8 = .ok (.iload_n 2, 1) := by decide +kernel
theorem dX2_changeByX_9 : decode cX2_changeByX 9 = .ok (.aload_n 0, 1) := by decide +kernel
theorem dX2_changeByX_10 : decode cX2_changeByX 10 = .ok (.iload_n 2, 1) := by decide +kernel
theorem dX2_changeByX_11 : decode cX2_changeByX 11 = .ok (.iaload, 1) := by decide +kernel
theorem dX2_changeByX_12 : decode cX2_changeByX 12 = .ok (.iload_n 1, 1) := by decide +kernel
theorem dX2_changeByX_13 : decode cX2_changeByX 13 = .ok (.iload_n 2, 1) := by decide +kernel
theorem dX2_changeByX_14 : decode cX2_changeByX 14 = .ok (.isub, 1) := by decide +kernel
theorem dX2_changeByX_15 : decode cX2_changeByX 15 = .ok (.imul, 1) := by decide +kernel
theorem dX2_changeByX_16 : decode cX2_changeByX 16 = .ok (.sipush 10007, 3) := by decide +kernel
theorem dX2_changeByX_19 : decode cX2_changeByX 19 = .ok (.irem, 1) := by decide +kernel
theorem dX2_changeByX_20 : decode cX2_changeByX 20 = .ok (.iastore, 1) := by decide +kernel
theorem dX2_changeByX_21 : decode cX2_changeByX 21 = .ok (.iinc 2 1, 3) := by decide +kernel
theorem dX2_changeByX_24 : decode cX2_changeByX 24 = .ok (.goto (-22), 3) := by decide +kernel
theorem dX2_changeByX_27 : decode cX2_changeByX 27 = .ok (.return_, 1) := by decide +kernel
theorem dX2_changeByY_0 : decode cX2_changeByY 0 = .ok (.iconst 1, 1) := by decide +kernel
theorem dX2_changeByY_1 : decode cX2_changeByY 1 = .ok (.istore_n 2, 1) := by decide +kernel
theorem dX2_changeByY_2 : decode cX2_changeByY 2 = .ok (.iload_n 2, 1) := by decide +kernel
theorem dX2_changeByY_3 : decode cX2_changeByY 3 = .ok (.iload_n 1, 1) := by decide +kernel
theorem dX2_changeByY_4 : decode cX2_changeByY 4 = .ok (.if_icmp .gt 23, 3) := by decide +kernel
theorem dX2_changeByY_7 : decode cX2_changeByY 7 = .ok (.aload_n 0, 1) := by decide +kernel
theorem dX2_changeByY_8 : decode cX2_changeByY 8 = .ok (.iload_n 2, 1) := by decide +kernel
theorem dX2_changeByY_9 : decode cX2_changeByY 9 = .ok (.iconst 1, 1) := by decide +kernel
theorem dX2_changeByY_10 : decode cX2_changeByY 10 = .ok (.isub, 1) := by decide +kernel
theorem dX2_changeByY_11 : decode cX2_changeByY 11 = .ok (.aload_n 0, 1) := by decide +kernel
theorem dX2_changeByY_12 : decode cX2_changeByY 12 = .ok (.iload_n 2, 1) := by decide +kernel
theorem dX2_changeByY_13 : decode cX2_changeByY 13 = .ok (.iaload, 1) := by decide +kernel
theorem dX2_changeByY_14 : decode cX2_changeByY 14 = .ok (.iload_n 2, 1) := by decide +kernel
theorem dX2_changeByY_15 : decode cX2_changeByY 15 = .ok (.imul, 1) := by decide +kernel
theorem dX2_changeByY_16 : decode cX2_changeByY 16 = .ok (.sipush 10007, 3) := by decide +kernel
theorem dX2_changeByY_19 : decode cX2_changeByY 19 = .ok (.irem, 1) := by decide +kernel
theorem dX2_changeByY_20 : decode cX2_changeByY 20 = .ok (.iastore, 1) := by decide +kernel
theorem dX2_changeByY_21 : decode cX2_changeByY 21 = .ok (.iinc 2 1, 3) := by decide +kernel
theorem dX2_changeByY_24 : decode cX2_changeByY 24 = .ok (.goto (-22), 3) := by decide +kernel
theorem dX2_changeByY_27 : decode cX2_changeByY 27 = .ok (.iload_n 1, 1) := by decide +kernel
theorem dX2_changeByY_28 : decode cX2_changeByY 28 = .ok (.ifCond .lt 7, 3) := by decide +kernel
theorem dX2_changeByY_31 : decode cX2_changeByY 31 = .ok (.aload_n 0, 1) := by decide +kernel
theorem dX2_changeByY_32 : decode cX2_changeByY 32 = .ok (.iload_n 1, 1) := by decide +kernel
theorem dX2_changeByY_33 : decode cX2_changeByY 33 = .ok (.iconst 0, 1) := by decide +kernel
theorem dX2_changeByY_34 : decode cX2_changeByY 34 = .ok (.iastore, 1) := by decide +kernel
theorem dX2_changeByY_35 : decode cX2_changeByY 35 = .ok (.return_, 1) := by decide +kernel
theorem dX2_valueAt_0 : decode cX2_valueAt 0 = .ok (.aload_n 0, 1) := by decide +kernel
theorem dX2_valueAt_1 : decode cX2_valueAt 1 = .ok (.iconst 0, 1) := by decide +kernel
theorem dX2_valueAt_2 : decode cX2_valueAt 2 = .ok (.iaload, 1) := by decide +kernel
theorem dX2_valueAt_3 : decode cX2_valueAt 3 = .ok (.istore 4, 2) := by decide +kernel
theorem dX2_valueAt_5 : decode cX2_valueAt 5 = .ok (.iconst 1, 1) := by decide +kernel
theorem dX2_valueAt_6 : decode cX2_valueAt 6 = .ok (.istore 5, 2) := by decide +kernel
theorem dX2_valueAt_8 : decode cX2_valueAt 8 = .ok (.iconst 1, 1) := by decide +kernel
theorem dX2_valueAt_9 : decode cX2_valueAt 9 = .ok (.istore 6, 2) := by decide +kernel
theorem dX2_valueAt_11 : decode cX2_valueAt 11 = .ok (.iload 6, 2) := by decide +kernel
theorem dX2_valueAt_13 : decode cX2_valueAt 13 = .ok (.iload_n 1, 1) := by decide +kernel
theorem dX2_valueAt_14 : decode cX2_valueAt 14 = .ok (.if_icmp .gt 37, 3) := by decide +kernel
theorem dX2_valueAt_17 : decode cX2_valueAt 17 = .ok (.iload 5, 2) := by decide +kernel
theorem dX2_valueAt_19 : decode cX2_valueAt 19 = .ok (.iload_n 3, 1) := by decide +kernel
theorem dX2_valueAt_20 : decode cX2_valueAt 20 = .ok (.imul, 1) := by decide +kernel
theorem dX2_valueAt_21 : decode cX2_valueAt 21 = .ok (.sipush 10007, 3) := by decide +kernel
theorem dX2_valueAt_24 : decode cX2_valueAt 24 = .ok (.irem, 1) := by decide +kernel
theorem dX2_valueAt_25 : decode cX2_valueAt 25 = .ok (.istore 5, 2) := by decide +kernel
theorem dX2_valueAt_27 : decode cX2_valueAt 27 = .ok (.iload 4, 2) := by decide +kernel
theorem dX2_valueAt_29 : decode cX2_valueAt 29 = .ok (.iload_n 2, 1) := by decide +kernel
theorem dX2_valueAt_30 : decode cX2_valueAt 30 = .ok (.imul, 1) := by decide +kernel
theorem dX2_valueAt_31 : decode cX2_valueAt 31 = .ok (.aload_n 0, 1) := by decide +kernel
theorem dX2_valueAt_32 : decode cX2_valueAt 32 = .ok (.iload 6, 2) := by decide +kernel
theorem dX2_valueAt_34 : decode cX2_valueAt 34 = .ok (.iaload, 1) := by decide +kernel
theorem dX2_valueAt_35 : decode cX2_valueAt 35 = .ok (.iload 5, 2) := by decide +kernel
theorem dX2_valueAt_37 : decode cX2_valueAt 37 = .ok (.imul, 1) := by decide +kernel
theorem dX2_valueAt_38 : decode cX2_valueAt 38 = .ok (.iadd, 1) := by decide +kernel
theorem dX2_valueAt_39 : decode cX2_valueAt 39 = .ok (.sipush 10007, 3) := by decide +kernel
theorem dX2_valueAt_42 : decode cX2_valueAt 42 = .ok (.irem, 1) := by decide +kernel
theorem dX2_valueAt_43 : decode cX2_valueAt 43 = .ok (.istore 4, 2) := by decide +kernel
theorem dX2_valueAt_45 : decode cX2_valueAt 45 = .ok (.iinc 6 1, 3) := by decide +kernel
theorem dX2_valueAt_48 : decode cX2_valueAt 48 = .ok (.goto (-37), 3) := by decide +kernel
theorem dX2_valueAt_51 : decode cX2_valueAt 51 = .ok (.iload 4, 2) := by decide +kernel
theorem dX2_valueAt_53 : decode cX2_valueAt 53 = .ok (.ireturn, 1) := by decide +kernel
theorem dX2_ratio_0 : decode cX2_ratio 0 = .ok (.iconst 1, 1) := by decide +kernel
theorem dX2_ratio_1 : decode cX2_ratio 1 = .ok (.istore_n 3, 1) := by decide +kernel
theorem dX2_ratio_2 : decode cX2_ratio 2 = .ok (.iconst 0, 1) := by decide +kernel
theorem dX2_ratio_3 : decode cX2_ratio 3 = .ok (.istore 4, 2) := by decide +kernel
theorem dX2_ratio_5 : decode cX2_ratio 5 = .ok (.iload 4, 2) := by decide +kernel
theorem dX2_ratio_7 : decode cX2_ratio 7 = .ok (.iload_n 2, 1) := by decide +kernel
theorem dX2_ratio_8 : decode cX2_ratio 8 = .ok (.if_icmp .gt 36, 3) := by decide +kernel
theorem dX2_ratio_11 : decode cX2_ratio 11 = .ok (.aload_n 0, 1) := by decide +kernel
theorem dX2_ratio_12 : decode cX2_ratio 12 = .ok (.iload 4, 2) := by decide +kernel
theorem dX2_ratio_14 : decode cX2_ratio 14 = .ok (.iaload, 1) := by decide +kernel
theorem dX2_ratio_15 : decode cX2_ratio 15 = .ok (.ifCond .eq 23, 3) := by decide +kernel
theorem dX2_ratio_18 : decode cX2_ratio 18 = .ok (.aload_n 1, 1) := by decide +kernel
theorem dX2_ratio_19 : decode cX2_ratio 19 = .ok (.iload 4, 2) := by decide +kernel
theorem dX2_ratio_21 : decode cX2_ratio 21 = .ok (.iaload, 1) := by decide +kernel
theorem dX2_ratio_22 : decode cX2_ratio 22 = .ok (.aload_n 0, 1) := by decide +kernel
theorem dX2_ratio_23 : decode cX2_ratio 23 = .ok (.iload 4, 2) := by decide +kernel
theorem dX2_ratio_25 : decode cX2_ratio 25 = .ok (.iaload, 1) := by decide +kernel
theorem dX2_ratio_26 : decode cX2_ratio 26 = .ok (.invokestatic 15, 3) := by decide +kernel
theorem dX2_ratio_29 : decode cX2_ratio 29 = .ok (.imul, 1) := by decide +kernel
theorem dX2_ratio_30 : decode cX2_ratio 30 = .ok (.sipush 10007, 3) := by decide +kernel
theorem dX2_ratio_33 : decode cX2_ratio 33 = .ok (.irem, 1) := by decide +kernel
theorem dX2_ratio_34 : decode cX2_ratio 34 = .ok (.istore_n 3, 1) := by decide +kernel
theorem dX2_ratio_35 : decode cX2_ratio 35 = .ok (.goto 9, 3) := by decide +kernel
theorem dX2_ratio_38 : decode cX2_ratio 38 = .ok (.iinc 4 1, 3) := by decide +kernel
theorem dX2_ratio_41 : decode cX2_ratio 41 = .ok (.goto (-36), 3) := by decide +kernel
theorem dX2_ratio_44 : decode cX2_ratio 44 = .ok (.iconst 0, 1) := by decide +kernel
theorem dX2_ratio_45 : decode cX2_ratio 45 = .ok (.istore 4, 2) := by decide +kernel
theorem dX2_ratio_47 : decode cX2_ratio 47 = .ok (.iload 4, 2) := by decide +kernel
theorem dX2_ratio_49 : decode cX2_ratio 49 = .ok (.iload_n 2, 1) := by decide +kernel
theorem dX2_ratio_50 : decode cX2_ratio 50 = .ok (.if_icmp .gt 28, 3) := by decide +kernel
theorem dX2_ratio_53 : decode cX2_ratio 53 = .ok (.aload_n 0, 1) := by decide +kernel
theorem dX2_ratio_54 : decode cX2_ratio 54 = .ok (.iload 4, 2) := by decide +kernel
theorem dX2_ratio_56 : decode cX2_ratio 56 = .ok (.iaload, 1) := by decide +kernel
theorem dX2_ratio_57 : decode cX2_ratio 57 = .ok (.iload_n 3, 1) := by decide +kernel
theorem dX2_ratio_58 : decode cX2_ratio 58 = .ok (.imul, 1) := by decide +kernel
theorem dX2_ratio_59 : decode cX2_ratio 59 = .ok (.sipush 10007, 3) := by decide +kernel
theorem dX2_ratio_62 : decode cX2_ratio 62 = .ok (.irem, 1) := by decide +kernel
theorem dX2_ratio_63 : decode cX2_ratio 63 = .ok (.aload_n 1, 1) := by decide +kernel
theorem dX2_ratio_64 : decode cX2_ratio 64 = .ok (.iload 4, 2) := by decide +kernel
theorem dX2_ratio_66 : decode cX2_ratio 66 = .ok (.iaload, 1) := by decide +kernel
theorem dX2_ratio_67 : decode cX2_ratio 67 = .ok (.if_icmp .eq 5, 3) := by decide +kernel
theorem dX2_ratio_70 : decode cX2_ratio 70 = .ok (.iconst 0, 1) := by decide +kernel
theorem dX2_ratio_71 : decode cX2_ratio 71 = .ok (.ireturn, 1) := by decide +kernel
theorem dX2_ratio_72 : decode cX2_ratio 72 = .ok (.iinc 4 1, 3) := by decide +kernel
theorem dX2_ratio_75 : decode cX2_ratio 75 = .ok (.goto (-28), 3) := by decide +kernel
theorem dX2_ratio_78 : decode cX2_ratio 78 = .ok (.iload_n 3, 1) := by decide +kernel
theorem dX2_ratio_79 : decode cX2_ratio 79 = .ok (.ireturn, 1) := by decide +kernel
theorem dX2_valueAtPlace_0 : decode cX2_valueAtPlace 0 = .ok (.iload_n 2, 1) := by decide +kernel
theorem dX2_valueAtPlace_1 : decode cX2_valueAtPlace 1 = .ok (.sipush 10007, 3) := by decide +kernel
theorem dX2_valueAtPlace_4 : decode cX2_valueAtPlace 4 = .ok (.if_icmp .ne 7, 3) := by decide +kernel
theorem dX2_valueAtPlace_7 : decode cX2_valueAtPlace 7 = .ok (.aload_n 0, 1) := by decide +kernel
theorem dX2_valueAtPlace_8 : decode cX2_valueAtPlace 8 = .ok (.iload_n 1, 1) := by decide +kernel
theorem dX2_valueAtPlace_9 : decode cX2_valueAtPlace 9 = .ok (.iaload, 1) := by decide +kernel
theorem dX2_valueAtPlace_10 : decode cX2_valueAtPlace 10 = .ok (.ireturn, 1) := by decide +kernel
theorem dX2_valueAtPlace_11 : decode cX2_valueAtPlace 11 = .ok (.aload_n 0, 1) := by decide +kernel
theorem dX2_valueAtPlace_12 : decode cX2_valueAtPlace 12 = .ok (.iload_n 1, 1) := by decide +kernel
theorem dX2_valueAtPlace_13 : decode cX2_valueAtPlace 13 = .ok (.iaload, 1) := by decide +kernel
theorem dX2_valueAtPlace_14 : decode cX2_valueAtPlace 14 = .ok (.istore_n 3, 1) := by decide +kernel
theorem dX2_valueAtPlace_15 : decode cX2_valueAtPlace 15 = .ok (.iload_n 1, 1) := by decide +kernel
theorem dX2_valueAtPlace_16 : decode cX2_valueAtPlace 16 = .ok (.iconst 1, 1) := by decide +kernel
theorem dX2_valueAtPlace_17 : decode cX2_valueAtPlace 17 = .ok (.isub, 1) := by decide +kernel
theorem dX2_valueAtPlace_18 : decode cX2_valueAtPlace 18 = .ok (.istore 4, 2) := by decide +kernel
theorem dX2_valueAtPlace_20 : decode cX2_valueAtPlace 20 = .ok (.iload 4, 2) := by decide +kernel
theorem dX2_valueAtPlace_22 : decode cX2_valueAtPlace 22 = .ok (.ifCond .lt 22, 3) := by decide +kernel
theorem dX2_valueAtPlace_25 : decode cX2_valueAtPlace 25 = .ok (.iload_n 3, 1) := by decide +kernel
theorem dX2_valueAtPlace_26 : decode cX2_valueAtPlace 26 = .ok (.iload_n 2, 1) := by decide +kernel
theorem dX2_valueAtPlace_27 : decode cX2_valueAtPlace 27 = .ok (.imul, 1) := by decide +kernel
theorem dX2_valueAtPlace_28 : decode cX2_valueAtPlace 28 = .ok (.aload_n 0, 1) := by decide +kernel
theorem dX2_valueAtPlace_29 : decode cX2_valueAtPlace 29 = .ok (.iload 4, 2) := by decide +kernel
theorem dX2_valueAtPlace_31 : decode cX2_valueAtPlace 31 = .ok (.iaload, 1) := by decide +kernel
theorem dX2_valueAtPlace_32 : decode cX2_valueAtPlace 32 = .ok (.iadd, 1) := by decide +kernel
theorem dX2_valueAtPlace_33 : decode cX2_valueAtPlace 33 = .ok (.sipush 10007, 3) := by decide +kernel
theorem dX2_valueAtPlace_36 : decode cX2_valueAtPlace 36 = .ok (.irem, 1) := by decide +kernel
theorem dX2_valueAtPlace_37 : decode cX2_valueAtPlace 37 = .ok (.istore_n 3, 1) := by decide +kernel
theorem dX2_valueAtPlace_38 : decode cX2_valueAtPlace 38 = .ok (.iinc 4 (-1), 3) := by decide +kernel
theorem dX2_valueAtPlace_41 : decode cX2_valueAtPlace 41 = .ok (.goto (-21), 3) := by decide +kernel
theorem dX2_valueAtPlace_44 : decode cX2_valueAtPlace 44 = .ok (.iload_n 3, 1) := by decide +kernel
theorem dX2_valueAtPlace_45 : decode cX2_valueAtPlace 45 = .ok (.ireturn, 1) := by decide +kernel
theorem dX2_strip_0 : decode cX2_strip 0 = .ok (.iconst 0, 1) := by decide +kernel
theorem dX2_strip_1 : decode cX2_strip 1 = .ok (.istore_n 2, 1) := by decide +kernel
theorem dX2_strip_2 : decode cX2_strip 2 = .ok (.iload_n 2, 1) := by decide +kernel
theorem dX2_strip_3 : decode cX2_strip 3 = .ok (.iload_n 1, 1) := by decide +kernel
theorem dX2_strip_4 : decode cX2_strip 4 = .ok (.if_icmp .gt 15, 3) := by decide +kernel
theorem dX2_strip_7 : decode cX2_strip 7 = .ok (.aload_n 0, 1) := by decide +kernel
theorem dX2_strip_8 : decode cX2_strip 8 = .ok (.iload_n 2, 1) := by decide +kernel
theorem dX2_strip_9 : decode cX2_strip 9 = .ok (.iaload, 1) := by decide +kernel
theorem dX2_strip_10 : decode cX2_strip 10 = .ok (.ifCond .ne 9, 3) := by decide +kernel
theorem dX2_strip_13 : decode cX2_strip 13 = .ok (.iinc 2 1, 3) := by decide +kernel
theorem dX2_strip_16 : decode cX2_strip 16 = .ok (.goto (-14), 3) := by decide +kernel
theorem dX2_strip_19 : decode cX2_strip 19 = .ok (.iconst 0, 1) := by decide +kernel
theorem dX2_strip_20 : decode cX2_strip 20 = .ok (.istore_n 3, 1) := by decide +kernel
theorem dX2_strip_21 : decode cX2_strip 21 = .ok (.iload_n 3, 1) := by decide +kernel
theorem dX2_strip_22 : decode cX2_strip 22 = .ok (.aload_n 0, 1) := by decide +kernel
theorem dX2_strip_23 : decode cX2_strip 23 = .ok (.arraylength, 1) := by decide +kernel
theorem dX2_strip_24 : decode cX2_strip 24 = .ok (.if_icmp .ge 28, 3) := by decide +kernel
theorem dX2_strip_27 : decode cX2_strip 27 = .ok (.aload_n 0, 1) := by decide +kernel
theorem dX2_strip_28 : decode cX2_strip 28 = .ok (.iload_n 3, 1) := by decide +kernel
theorem dX2_strip_29 : decode cX2_strip 29 = .ok (.iload_n 3, 1) := by decide +kernel
theorem dX2_strip_30 : decode cX2_strip 30 = .ok (.iload_n 2, 1) := by decide +kernel
theorem dX2_strip_31 : decode cX2_strip 31 = .ok (.iadd, 1) := by decide +kernel
theorem dX2_strip_32 : decode cX2_strip 32 = .ok (.iload_n 1, 1) := by decide +kernel
theorem dX2_strip_33 : decode cX2_strip 33 = .ok (.if_icmp .gt 11, 3) := by decide +kernel
theorem dX2_strip_36 : decode cX2_strip 36 = .ok (.aload_n 0, 1) := by decide +kernel
theorem dX2_strip_37 : decode cX2_strip 37 = .ok (.iload_n 3, 1) := by decide +kernel
theorem dX2_strip_38 : decode cX2_strip 38 = .ok (.iload_n 2, 1) := by decide +kernel
theorem dX2_strip_39 : decode cX2_strip 39 = .ok (.iadd, 1) := by decide +kernel
theorem dX2_strip_40 : decode cX2_strip 40 = .ok (.iaload, 1) := by decide +kernel
theorem dX2_strip_41 : decode cX2_strip 41 = .ok (.goto 4, 3) := by decide +kernel
theorem dX2_strip_44 : decode cX2_strip 44 = .ok (.iconst 0, 1) := by decide +kernel
theorem dX2_strip_45 : decode cX2_strip 45 = .ok (.iastore, 1) := by decide +kernel
theorem dX2_strip_46 : decode cX2_strip 46 = .ok (.iinc 3 1, 3) := by decide +kernel
theorem dX2_strip_49 : decode cX2_strip 49 = .ok (.goto (-28), 3) := by decide +kernel
theorem dX2_strip_52 : decode cX2_strip 52 = .ok (.iload_n 1, 1) := by decide +kernel
theorem dX2_strip_53 : decode cX2_strip 53 = .ok (.iload_n 2, 1) := by decide +kernel
theorem dX2_strip_54 : decode cX2_strip 54 = .ok (.isub, 1) := by decide +kernel
theorem dX2_strip_55 : decode cX2_strip 55 = .ok (.ireturn, 1) := by decide +kernel
theorem dX2_lower_0 : decode cX2_lower 0 = .ok (.sipush 10007, 3) := by decide +kernel
theorem dX2_lower_3 : decode cX2_lower 3 = .ok (.aload_n 0, 1) := by decide +kernel
theorem dX2_lower_4 : decode cX2_lower 4 = .ok (.iconst 0, 1) := by decide +kernel
theorem dX2_lower_5 : decode cX2_lower 5 = .ok (.iaload, 1) := by decide +kernel
theorem dX2_lower_6 : decode cX2_lower 6 = .ok (.aload_n 2, 1) := by decide +kernel
theorem dX2_lower_7 : decode cX2_lower 7 = .ok (.iconst 0, 1) := by decide +kernel
theorem dX2_lower_8 : decode cX2_lower 8 = .ok (.iaload, 1) := by decide +kernel
theorem dX2_lower_9 : decode cX2_lower 9 = .ok (.invokestatic 15, 3) := by decide +kernel
theorem dX2_lower_12 : decode cX2_lower 12 = .ok (.imul, 1) := by decide +kernel
theorem dX2_lower_13 : decode cX2_lower 13 = .ok (.sipush 10007, 3) := by decide +kernel
theorem dX2_lower_16 : decode cX2_lower 16 = .ok (.irem, 1) := by decide +kernel
theorem dX2_lower_17 : decode cX2_lower 17 = .ok (.isub, 1) := by decide +kernel
theorem dX2_lower_18 : decode cX2_lower 18 = .ok (.istore 4, 2) := by decide +kernel
theorem dX2_lower_20 : decode cX2_lower 20 = .ok (.iconst 0, 1) := by decide +kernel
theorem dX2_lower_21 : decode cX2_lower 21 = .ok (.istore 5, 2) := by decide +kernel
theorem dX2_lower_23 : decode cX2_lower 23 = .ok (.iload 5, 2) := by decide +kernel
theorem dX2_lower_25 : decode cX2_lower 25 = .ok (.iload_n 3, 1) := by decide +kernel
theorem dX2_lower_26 : decode cX2_lower 26 = .ok (.if_icmp .gt 29, 3) := by decide +kernel
theorem dX2_lower_29 : decode cX2_lower 29 = .ok (.aload_n 0, 1) := by decide +kernel
theorem dX2_lower_30 : decode cX2_lower 30 = .ok (.iload 5, 2) := by decide +kernel
theorem dX2_lower_32 : decode cX2_lower 32 = .ok (.aload_n 0, 1) := by decide +kernel
theorem dX2_lower_33 : decode cX2_lower 33 = .ok (.iload 5, 2) := by decide +kernel
theorem dX2_lower_35 : decode cX2_lower 35 = .ok (.iaload, 1) := by decide +kernel
theorem dX2_lower_36 : decode cX2_lower 36 = .ok (.iload 4, 2) := by decide +kernel
theorem dX2_lower_38 : decode cX2_lower 38 = .ok (.aload_n 2, 1) := by decide +kernel
theorem dX2_lower_39 : decode cX2_lower 39 = .ok (.iload 5, 2) := by decide +kernel
theorem dX2_lower_41 : decode cX2_lower 41 = .ok (.iaload, 1) := by decide +kernel
theorem dX2_lower_42 : decode cX2_lower 42 = .ok (.imul, 1) := by decide +kernel
theorem dX2_lower_43 : decode cX2_lower 43 = .ok (.iadd, 1) := by decide +kernel
theorem dX2_lower_44 : decode cX2_lower 44 = .ok (.sipush 10007, 3) := by decide +kernel
theorem dX2_lower_47 : decode cX2_lower 47 = .ok (.irem, 1) := by decide +kernel
theorem dX2_lower_48 : decode cX2_lower 48 = .ok (.iastore, 1) := by decide +kernel
theorem dX2_lower_49 : decode cX2_lower 49 = .ok (.iinc 5 1, 3) := by decide +kernel
theorem dX2_lower_52 : decode cX2_lower 52 = .ok (.goto (-29), 3) := by decide +kernel
theorem dX2_lower_55 : decode cX2_lower 55 = .ok (.aload_n 0, 1) := by decide +kernel
theorem dX2_lower_56 : decode cX2_lower 56 = .ok (.iload_n 1, 1) := by decide +kernel
theorem dX2_lower_57 : decode cX2_lower 57 = .ok (.invokestatic 28, 3) := by decide +kernel
theorem dX2_lower_60 : decode cX2_lower 60 = .ok (.ireturn, 1) := by decide +kernel
end
section
theorem dX3_init_0 : decode cX3_init 0 = .ok (.aload_n 0, 1) := by decide +kernel
theorem dX3_init_1 : decode cX3_init 1 = .ok (.invokespecial 3, 3) := by decide +kernel
theorem dX3_init_4 : decode cX3_init 4 = .ok (.aload_n 0, 1) := by decide +kernel
theorem dX3_init_5 : decode cX3_init 5 = .ok (.bipush 12, 2) := by decide +kernel
theorem dX3_init_7 : decode cX3_init 7 = .ok (.newarray .int, 2) := by decide +kernel
theorem dX3_init_9 : decode cX3_init 9 = .ok (.putfield 9, 3) := by decide +kernel
theorem dX3_init_12 : decode cX3_init 12 = .ok (.aload_n 0, 1) := by decide +kernel
theorem dX3_init_13 : decode cX3_init 13 = .ok (.iconst 2, 1) := by decide +kernel
theorem dX3_init_14 : decode cX3_init 14 = .ok (.putfield 15, 3) := by decide +kernel
theorem dX3_init_17 : decode cX3_init 17 = .ok (.aload_n 0, 1) := by decide +kernel
theorem dX3_init_18 : decode cX3_init 18 = .ok (.iconst (-1), 1) := by decide +kernel
theorem dX3_init_19 : decode cX3_init 19 = .ok (.putfield 19, 3) := by decide +kernel
theorem dX3_init_22 : decode cX3_init 22 = .ok (.return_, 1) := by decide +kernel
theorem dX3_isLost_0 : decode cX3_isLost 0 = .ok (.aload_n 0, 1) := by decide +kernel
theorem dX3_isLost_1 : decode cX3_isLost 1 = .ok (.getfield 19, 3) := by decide +kernel
theorem dX3_isLost_4 : decode cX3_isLost 4 = .ok (.iconst (-1), 1) := by decide +kernel
theorem dX3_isLost_5 : decode cX3_isLost 5 = .ok (.if_icmp .ne 7, 3) := by decide +kernel
theorem dX3_isLost_8 : decode cX3_isLost 8 = .ok (.iconst 1, 1) := by decide +kernel
theorem dX3_isLost_9 : decode cX3_isLost 9 = .ok (.goto 4, 3) := by decide +kernel
theorem dX3_isLost_12 : decode cX3_isLost 12 = .ok (.iconst 0, 1) := by decide +kernel
theorem dX3_isLost_13 : decode cX3_isLost 13 = .ok (.ireturn, 1) := by decide +kernel
theorem dX3_isForm_0 : decode cX3_isForm 0 = .ok (.aload_n 0, 1) := by decide +kernel
theorem dX3_isForm_1 : decode cX3_isForm 1 = .ok (.getfield 19, 3) := by decide +kernel
theorem dX3_isForm_4 : decode cX3_isForm 4 = .ok (.iconst 1, 1) := by decide +kernel
theorem dX3_isForm_5 : decode cX3_isForm 5 = .ok (.if_icmp .lt 16, 3) := by decide +kernel
theorem dX3_isForm_8 : decode cX3_isForm 8 = .ok (.aload_n 0, 1) := by decide +kernel
theorem dX3_isForm_9 : decode cX3_isForm 9 = .ok (.getfield 19, 3) := by decide +kernel
theorem dX3_isForm_12 : decode cX3_isForm 12 = .ok (.bipush 9, 2) := by decide +kernel
theorem dX3_isForm_14 : decode cX3_isForm 14 = .ok (.if_icmp .gt 7, 3) := by decide +kernel
theorem dX3_isForm_17 : decode cX3_isForm 17 = .ok (.iconst 1, 1) := by decide +kernel
theorem dX3_isForm_18 : decode cX3_isForm 18 = .ok (.goto 4, 3) := by decide +kernel
theorem dX3_isForm_21 : decode cX3_isForm 21 = .ok (.iconst 0, 1) := by decide +kernel
theorem dX3_isForm_22 : decode cX3_isForm 22 = .ok (.ireturn, 1) := by decide +kernel
theorem dX3_isNought_0 : decode cX3_isNought 0 = .ok (.iconst 0, 1) := by decide +kernel
theorem dX3_isNought_1 : decode cX3_isNought 1 = .ok (.istore_n 1, 1) := by decide +kernel
theorem dX3_isNought_2 : decode cX3_isNought 2 = .ok (.iload_n 1, 1) := by decide +kernel
theorem dX3_isNought_3 : decode cX3_isNought 3 = .ok (.aload_n 0, 1) := by decide +kernel
theorem dX3_isNought_4 : decode cX3_isNought 4 = .ok (.getfield 19, 3) := by decide +kernel
theorem dX3_isNought_7 : decode cX3_isNought 7 = .ok (.if_icmp .ge 19, 3) := by decide +kernel
theorem dX3_isNought_10 : decode cX3_isNought 10 = .ok (.aload_n 0, 1) := by decide +kernel
theorem dX3_isNought_11 : decode cX3_isNought 11 = .ok (.iload_n 1, 1) := by decide +kernel
theorem dX3_isNought_12 : decode cX3_isNought 12 = .ok (.invokevirtual 22, 3) := by decide +kernel
theorem dX3_isNought_15 : decode cX3_isNought 15 = .ok (.ifCond .eq 5, 3) := by decide +kernel
theorem dX3_isNought_18 : decode cX3_isNought 18 = .ok (.iconst 0, 1) := by decide +kernel
theorem dX3_isNought_19 : decode cX3_isNought 19 = .ok (.ireturn, 1) := by decide +kernel
theorem dX3_isNought_20 : decode cX3_isNought 20 = .ok (.iinc 1 1, 3) := by decide +kernel
theorem dX3_isNought_23 : decode cX3_isNought 23 = .ok (.goto (-21), 3) := by decide +kernel
theorem dX3_isNought_26 : decode cX3_isNought 26 = .ok (.iconst 1, 1) := by decide +kernel
theorem dX3_isNought_27 : decode cX3_isNought 27 = .ok (.ireturn, 1) := by decide +kernel
theorem dX3_top_0 : decode cX3_top 0 = .ok (.aload_n 0, 1) := by decide +kernel
theorem dX3_top_1 : decode cX3_top 1 = .ok (.getfield 19, 3) := by decide +kernel
theorem dX3_top_4 : decode cX3_top 4 = .ok (.iconst 1, 1) := by decide +kernel
theorem dX3_top_5 : decode cX3_top 5 = .ok (.isub, 1) := by decide +kernel
theorem dX3_top_6 : decode cX3_top 6 = .ok (.ireturn, 1) := by decide +kernel
theorem dX3_number_0 : decode cX3_number 0 = .ok (.aload_n 0, 1) := by decide +kernel
theorem dX3_number_1 : decode cX3_number 1 = .ok (.iload_n 1, 1) := by decide +kernel
theorem dX3_number_2 : decode cX3_number 2 = .ok (.iconst 1, 1) := by decide +kernel
theorem dX3_number_3 : decode cX3_number 3 = .ok (.invokevirtual 26, 3) := by decide +kernel
theorem dX3_number_6 : decode cX3_number 6 = .ok (.ifCond .eq 15, 3) := by decide +kernel
theorem dX3_number_9 : decode cX3_number 9 = .ok (.aload_n 0, 1) := by decide +kernel
theorem dX3_number_10 : decode cX3_number 10 = .ok (.getfield 9, 3) := by decide +kernel
theorem dX3_number_13 : decode cX3_number 13 = .ok (.iload_n 1, 1) := by decide +kernel
theorem dX3_number_14 : decode cX3_number 14 = .ok (.iaload, 1) := by decide +kernel
theorem dX3_number_15 : decode cX3_number 15 = .ok (.invokestatic 30, 3) := by decide +kernel
theorem dX3_number_18 : decode cX3_number 18 = .ok (.goto 4, 3) := by decide +kernel
theorem dX3_number_21 : decode cX3_number 21 = .ok (.iconst 0, 1) := by decide +kernel
theorem dX3_number_22 : decode cX3_number 22 = .ok (.ireturn, 1) := by decide +kernel
theorem dX3_holds_0 : decode cX3_holds 0 = .ok (.iload_n 1, 1) := by decide +kernel
theorem dX3_holds_1 : decode cX3_holds 1 = .ok (.ifCond .lt 21, 3) := by decide +kernel
theorem dX3_holds_4 : decode cX3_holds 4 = .ok (.iload_n 2, 1) := by decide +kernel
theorem dX3_holds_5 : decode cX3_holds 5 = .ok (.ifCond .lt 17, 3) := by decide +kernel
theorem dX3_holds_8 : decode cX3_holds 8 = .ok (.iload_n 2, 1) := by decide +kernel
theorem dX3_holds_9 : decode cX3_holds 9 = .ok (.aload_n 0, 1) := by decide +kernel
theorem dX3_holds_10 : decode cX3_holds 10 = .ok (.getfield 19, 3) := by decide +kernel
theorem dX3_holds_13 : decode cX3_holds 13 = .ok (.iload_n 1, 1) := by decide +kernel
theorem dX3_holds_14 : decode cX3_holds 14 = .ok (.isub, 1) := by decide +kernel
theorem dX3_holds_15 : decode cX3_holds 15 = .ok (.if_icmp .gt 7, 3) := by decide +kernel
theorem dX3_holds_18 : decode cX3_holds 18 = .ok (.iconst 1, 1) := by decide +kernel
theorem dX3_holds_19 : decode cX3_holds 19 = .ok (.goto 4, 3) := by decide +kernel
theorem dX3_holds_22 : decode cX3_holds 22 = .ok (.iconst 0, 1) := by decide +kernel
theorem dX3_holds_23 : decode cX3_holds 23 = .ok (.ireturn, 1) := by decide +kernel
theorem dX3_startsUnlike_0 : decode cX3_startsUnlike 0 = .ok (.iconst 0, 1) := by decide +kernel
theorem dX3_startsUnlike_1 : decode cX3_startsUnlike 1 = .ok (.istore_n 2, 1) := by decide +kernel
theorem dX3_startsUnlike_2 : decode cX3_startsUnlike 2 = .ok (.iload_n 2, 1) := by decide +kernel
theorem dX3_startsUnlike_3 : decode cX3_startsUnlike 3 = .ok (.iload_n 1, 1) := by decide +kernel
theorem dX3_startsUnlike_4 : decode cX3_startsUnlike 4 = .ok (.if_icmp .ge 37, 3) := by decide +kernel
theorem dX3_startsUnlike_7 : decode cX3_startsUnlike 7 = .ok (.iconst 0, 1) := by decide +kernel
theorem dX3_startsUnlike_8 : decode cX3_startsUnlike 8 = .ok (.istore_n 3, 1) := by decide +kernel
theorem dX3_startsUnlike_9 : decode cX3_startsUnlike 9 = .ok (.iload_n 3, 1) := by decide +kernel
theorem dX3_startsUnlike_10 : decode cX3_startsUnlike 10 = .ok (.iload_n 2, 1) := by decide +kernel
theorem dX3_startsUnlike_11 : decode cX3_startsUnlike 11 = .ok (.if_icmp .ge 24, 3) := by decide +kernel
theorem dX3_startsUnlike_14 : decode cX3_startsUnlike 14 = .ok (.aload_n 0, 1) := by decide +kernel
theorem dX3_startsUnlike_15 : decode cX3_startsUnlike 15 = .ok (.iload_n 2, 1) := by decide +kernel
theorem dX3_startsUnlike_16 : decode cX3_startsUnlike 16 = .ok (.invokevirtual 22, 3) := by decide +kernel
theorem dX3_startsUnlike_19 : decode cX3_startsUnlike 19 = .ok (.aload_n 0, 1) := by decide +kernel
theorem dX3_startsUnlike_20 : decode cX3_startsUnlike 20 = .ok (.iload_n 3, 1) := by decide +kernel
theorem dX3_startsUnlike_21 : decode cX3_startsUnlike 21 = .ok (.invokevirtual 22, 3) := by decide +kernel
theorem dX3_startsUnlike_24 : decode cX3_startsUnlike 24 = .ok (.if_icmp .ne 5, 3) := by decide +kernel
theorem dX3_startsUnlike_27 : decode cX3_startsUnlike 27 = .ok (.iconst 0, 1) := by decide +kernel
theorem dX3_startsUnlike_28 : decode cX3_startsUnlike 28 = .ok (.ireturn, 1) := by decide +kernel
theorem dX3_startsUnlike_29 : decode cX3_startsUnlike 29 = .ok (.iinc 3 1, 3) := by decide +kernel
theorem dX3_startsUnlike_32 : decode cX3_startsUnlike 32 = .ok (.goto (-23), 3) := by decide +kernel
theorem dX3_startsUnlike_35 : decode cX3_startsUnlike 35 = .ok (.iinc 2 1, 3) := by decide +kernel
theorem dX3_startsUnlike_38 : decode cX3_startsUnlike 38 = .ok (.goto (-36), 3) := by decide +kernel
theorem dX3_startsUnlike_41 : decode cX3_startsUnlike 41 = .ok (.iconst 1, 1) := by decide +kernel
theorem dX3_startsUnlike_42 : decode cX3_startsUnlike 42 = .ok (.ireturn, 1) := by decide +kernel
theorem dX3_forget_0 : decode cX3_forget 0 = .ok (.aload_n 0, 1) := by decide +kernel
theorem dX3_forget_1 : decode cX3_forget 1 = .ok (.iconst (-1), 1) := by decide +kernel
theorem dX3_forget_2 : decode cX3_forget 2 = .ok (.putfield 19, 3) := by decide +kernel
theorem dX3_forget_5 : decode cX3_forget 5 = .ok (.return_, 1) := by decide +kernel
theorem dX3_renew_0 : decode cX3_renew 0 = .ok (.aload_n 0, 1) := by decide +kernel
theorem dX3_renew_1 : decode cX3_renew 1 = .ok (.iload_n 1, 1) := by decide +kernel
theorem dX3_renew_2 : decode cX3_renew 2 = .ok (.putfield 15, 3) := by decide +kernel
theorem dX3_renew_5 : decode cX3_renew 5 = .ok (.aload_n 0, 1) := by decide +kernel
theorem dX3_renew_6 : decode cX3_renew 6 = .ok (.iload_n 2, 1) := by decide +kernel
theorem dX3_renew_7 : decode cX3_renew 7 = .ok (.putfield 19, 3) := by decide +kernel
theorem dX3_renew_10 : decode cX3_renew 10 = .ok (.iconst 0, 1) := by decide +kernel
theorem dX3_renew_11 : decode cX3_renew 11 = .ok (.istore_n 3, 1) := by decide +kernel
theorem dX3_renew_12 : decode cX3_renew 12 = .ok (.iload_n 3, 1) := by decide +kernel
theorem dX3_renew_13 : decode cX3_renew 13 = .ok (.bipush 12, 2) := by decide +kernel
theorem dX3_renew_15 : decode cX3_renew 15 = .ok (.if_icmp .ge 16, 3) := by decide +kernel
theorem dX3_renew_18 : decode cX3_renew 18 = .ok (.aload_n 0, 1) := by decide +kernel
theorem dX3_renew_19 : decode cX3_renew 19 = .ok (.getfield 9, 3) := by decide +kernel
theorem dX3_renew_22 : decode cX3_renew 22 = .ok (.iload_n 3, 1) := by decide +kernel
theorem dX3_renew_23 : decode cX3_renew 23 = .ok (.iconst 0, 1) := by decide +kernel
theorem dX3_renew_24 : decode cX3_renew 24 = .ok (.iastore, 1) := by decide +kernel
theorem dX3_renew_25 : decode cX3_renew 25 = .ok (.iinc 3 1, 3) := by decide +kernel
theorem dX3_renew_28 : decode cX3_renew 28 = .ok (.goto (-16), 3) := by decide +kernel
theorem dX3_renew_31 : decode cX3_renew 31 = .ok (.return_, 1) := by decide +kernel
theorem dX3_store_0 : decode cX3_store 0 = .ok (.aload_n 0, 1) := by decide +kernel
theorem dX3_store_1 : decode cX3_store 1 = .ok (.iload_n 1, 1) := by decide +kernel
theorem dX3_store_2 : decode cX3_store 2 = .ok (.iconst 1, 1) := by decide +kernel
theorem dX3_store_3 : decode cX3_store 3 = .ok (.invokevirtual 26, 3) := by decide +kernel
theorem dX3_store_6 : decode cX3_store 6 = .ok (.ifCond .ne 4, 3) := by decide +kernel
theorem dX3_store_9 : decode cX3_store 9 = .ok (.return_, 1) := by decide +kernel
theorem dX3_store_10 : decode cX3_store 10 = .ok (.aload_n 0, 1) := by decide +kernel
theorem dX3_store_11 : decode cX3_store 11 = .ok (.getfield 15, 3) := by decide +kernel
theorem dX3_store_14 : decode cX3_store 14 = .ok (.lookupswitch 48 #[(0, 26), (1, 37)], 26) := by decide +kernel
theorem dX3_store_40 : decode cX3_store 40 = .ok (.aload_n 0, 1) := by decide +kernel
theorem dX3_store_41 : decode cX3_store 41 = .ok (.getfield 9, 3) := by decide +kernel
theorem dX3_store_44 : decode cX3_store 44 = .ok (.iload_n 1, 1) := by decide +kernel
theorem dX3_store_45 : decode cX3_store 45 = .ok (.iload_n 2, 1) := by decide +kernel
theorem dX3_store_46 : decode cX3_store 46 = .ok (.i2b, 1) := by decide +kernel
theorem dX3_store_47 : decode cX3_store 47 = .ok (.iastore, 1) := by decide +kernel
theorem dX3_store_48 : decode cX3_store 48 = .ok (.goto 21, 3) := by decide +kernel
theorem dX3_store_51 : decode cX3_store 51 = .ok (.aload_n 0, 1) := by decide +kernel
theorem dX3_store_52 : decode cX3_store 52 = .ok (.getfield 9, 3) := by decide +kernel
theorem dX3_store_55 : decode cX3_store 55 = .ok (.iload_n 1, 1) := by decide +kernel
theorem dX3_store_56 : decode cX3_store 56 = .ok (.iload_n 2, 1) := by decide +kernel
theorem dX3_store_57 : decode cX3_store 57 = .ok (.i2s, 1) := by decide +kernel
theorem dX3_store_58 : decode cX3_store 58 = .ok (.iastore, 1) := by decide +kernel
theorem dX3_store_59 : decode cX3_store 59 = .ok (.goto 10, 3) := by decide +kernel
theorem dX3_store_62 : decode cX3_store 62 = .ok (.aload_n 0, 1) := by decide +kernel
theorem dX3_store_63 : decode cX3_store 63 = .ok (.getfield 9, 3) := by decide +kernel
theorem dX3_store_66 : decode cX3_store 66 = .ok (.iload_n 1, 1) := by decide +kernel
theorem dX3_store_67 : decode cX3_store 67 = .ok (.iload_n 2, 1) := by decide +kernel
theorem dX3_store_68 : decode cX3_store 68 = .ok (.iastore, 1) := by decide +kernel
theorem dX3_store_69 : decode cX3_store 69 = .ok (.return_, 1) := by decide +kernel
theorem dX3_become_0 : decode cX3_become 0 = .ok (.aload_n 0, 1) := by decide +kernel
theorem dX3_become_1 : decode cX3_become 1 = .ok (.iconst 2, 1) := by decide +kernel
theorem dX3_become_2 : decode cX3_become 2 = .ok (.iload_n 2, 1) := by decide +kernel
theorem dX3_become_3 : decode cX3_become 3 = .ok (.invokevirtual 35, 3) := by decide +kernel
theorem dX3_become_6 : decode cX3_become 6 = .ok (.iconst 0, 1) := by decide +kernel
theorem dX3_become_7 : decode cX3_become 7 = .ok (.istore_n 3, 1) := by decide +kernel
theorem dX3_become_8 : decode cX3_become 8 = .ok (.iload_n 3, 1) := by decide +kernel
theorem dX3_become_9 : decode cX3_become 9 = .ok (.iload_n 2, 1) := by decide +kernel
theorem dX3_become_10 : decode cX3_become 10 = .ok (.if_icmp .ge 23, 3) := by decide +kernel
theorem dX3_become_13 : decode cX3_become 13 = .ok (.iload_n 3, 1) := by decide +kernel
theorem dX3_become_14 : decode cX3_become 14 = .ok (.aload_n 1, 1) := by decide +kernel
theorem dX3_become_15 : decode cX3_become 15 = .ok (.arraylength, 1) := by decide +kernel
theorem dX3_become_16 : decode cX3_become 16 = .ok (.if_icmp .ge 17, 3) := by decide +kernel
theorem dX3_become_19 : decode cX3_become 19 = .ok (.aload_n 0, 1) := by decide +kernel
theorem dX3_become_20 : decode cX3_become 20 = .ok (.iload_n 3, 1) := by decide +kernel
theorem dX3_become_21 : decode cX3_become 21 = .ok (.aload_n 1, 1) := by decide +kernel
theorem dX3_become_22 : decode cX3_become 22 = .ok (.iload_n 3, 1) := by decide +kernel
theorem dX3_become_23 : decode cX3_become 23 = .ok (.iaload, 1) := by decide +kernel
theorem dX3_become_24 : decode cX3_become 24 = .ok (.invokevirtual 39, 3) := by decide +kernel
theorem dX3_become_27 : decode cX3_become 27 = .ok (.iinc 3 1, 3) := by decide +kernel
theorem dX3_become_30 : decode cX3_become 30 = .ok (.goto (-22), 3) := by decide +kernel
theorem dX3_become_33 : decode cX3_become 33 = .ok (.return_, 1) := by decide +kernel
theorem dX3_addTo_0 : decode cX3_addTo 0 = .ok (.ldc2_w 42, 3) := by decide +kernel
theorem dX3_addTo_3 : decode cX3_addTo 3 = .ok (.lload_n 1, 1) := by decide +kernel
theorem dX3_addTo_4 : decode cX3_addTo 4 = .ok (.lmul, 1) := by decide +kernel
theorem dX3_addTo_5 : decode cX3_addTo 5 = .ok (.aload_n 0, 1) := by decide +kernel
theorem dX3_addTo_6 : decode cX3_addTo 6 = .ok (.invokevirtual 44, 3) := by decide +kernel
theorem dX3_addTo_9 : decode cX3_addTo 9 = .ok (.i2l, 1) := by decide +kernel
theorem dX3_addTo_10 : decode cX3_addTo 10 = .ok (.ladd, 1) := by decide +kernel
theorem dX3_addTo_11 : decode cX3_addTo 11 = .ok (.lstore_n 3, 1) := by decide +kernel
theorem dX3_addTo_12 : decode cX3_addTo 12 = .ok (.iconst 0, 1) := by decide +kernel
theorem dX3_addTo_13 : decode cX3_addTo 13 = .ok (.istore 5, 2) := by decide +kernel
theorem dX3_addTo_15 : decode cX3_addTo 15 = .ok (.iload 5, 2) := by decide +kernel
theorem dX3_addTo_17 : decode cX3_addTo 17 = .ok (.aload_n 0, 1) := by decide +kernel
theorem dX3_addTo_18 : decode cX3_addTo 18 = .ok (.getfield 19, 3) := by decide +kernel
theorem dX3_addTo_21 : decode cX3_addTo 21 = .ok (.if_icmp .ge 23, 3) := by decide +kernel
theorem dX3_addTo_24 : decode cX3_addTo 24 = .ok (.ldc2_w 42, 3) := by decide +kernel
theorem dX3_addTo_27 : decode cX3_addTo 27 = .ok (.lload_n 3, 1) := by decide +kernel
theorem dX3_addTo_28 : decode cX3_addTo 28 = .ok (.lmul, 1) := by decide +kernel
theorem dX3_addTo_29 : decode cX3_addTo 29 = .ok (.aload_n 0, 1) := by decide +kernel
theorem dX3_addTo_30 : decode cX3_addTo 30 = .ok (.iload 5, 2) := by decide +kernel
theorem dX3_addTo_32 : decode cX3_addTo 32 = .ok (.invokevirtual 22, 3) := by decide +kernel
theorem dX3_addTo_35 : decode cX3_addTo 35 = .ok (.i2l, 1) := by decide +kernel
theorem dX3_addTo_36 : decode cX3_addTo 36 = .ok (.ladd, 1) := by decide +kernel
theorem dX3_addTo_37 : decode cX3_addTo 37 = .ok (.lstore_n 3, 1) := by decide +kernel
theorem dX3_addTo_38 : decode cX3_addTo 38 = .ok (.iinc 5 1, 3) := by decide +kernel
theorem dX3_addTo_41 : decode cX3_addTo 41 = .ok (.goto (-26), 3) := by decide +kernel
theorem dX3_addTo_44 : decode cX3_addTo 44 = .ok (.lload_n 3, 1) := by decide +kernel
theorem dX3_addTo_45 : decode cX3_addTo 45 = .ok (.lreturn, 1) := by decide +kernel
end
section
theorem dX4_init_0 : decode cX4_init 0 = .ok (.aload_n 0, 1) := by decide +kernel
theorem dX4_init_1 : decode cX4_init 1 = .ok (.invokespecial 3, 3) := by decide +kernel
theorem dX4_init_4 : decode cX4_init 4 = .ok (.aload_n 0, 1) := by decide +kernel
theorem dX4_init_5 : decode cX4_init 5 = .ok (.bipush 10, 2) := by decide +kernel
theorem dX4_init_7 : decode cX4_init 7 = .ok (.anewarray 9, 3) := by decide +kernel
theorem dX4_init_10 : decode cX4_init 10 = .ok (.putfield 11, 3) := by decide +kernel
theorem dX4_init_13 : decode cX4_init 13 = .ok (.aload_n 0, 1) := by decide +kernel
theorem dX4_init_14 : decode cX4_init 14 = .ok (.iconst 0, 1) := by decide +kernel
theorem dX4_init_15 : decode cX4_init 15 = .ok (.putfield 15, 3) := by decide +kernel
theorem dX4_init_18 : decode cX4_init 18 = .ok (.aload_n 0, 1) := by decide +kernel
theorem dX4_init_19 : decode cX4_init 19 = .ok (.bipush 9, 2) := by decide +kernel
theorem dX4_init_21 : decode cX4_init 21 = .ok (.newarray .int, 2) := by decide +kernel
theorem dX4_init_23 : decode cX4_init 23 = .ok (.putfield 19, 3) := by decide +kernel
theorem dX4_init_26 : decode cX4_init 26 = .ok (.aload_n 0, 1) := by decide +kernel
theorem dX4_init_27 : decode cX4_init 27 = .ok (.bipush 9, 2) := by decide +kernel
theorem dX4_init_29 : decode cX4_init 29 = .ok (.newarray .int, 2) := by decide +kernel
theorem dX4_init_31 : decode cX4_init 31 = .ok (.putfield 23, 3) := by decide +kernel
theorem dX4_init_34 : decode cX4_init 34 = .ok (.aload_n 0, 1) := by decide +kernel
theorem dX4_init_35 : decode cX4_init 35 = .ok (.bipush 9, 2) := by decide +kernel
theorem dX4_init_37 : decode cX4_init 37 = .ok (.newarray .int, 2) := by decide +kernel
theorem dX4_init_39 : decode cX4_init 39 = .ok (.putfield 26, 3) := by decide +kernel
theorem dX4_init_42 : decode cX4_init 42 = .ok (.aload_n 0, 1) := by decide +kernel
theorem dX4_init_43 : decode cX4_init 43 = .ok (.bipush 9, 2) := by decide +kernel
theorem dX4_init_45 : decode cX4_init 45 = .ok (.newarray .int, 2) := by decide +kernel
theorem dX4_init_47 : decode cX4_init 47 = .ok (.putfield 29, 3) := by decide +kernel
theorem dX4_init_50 : decode cX4_init 50 = .ok (.aload_n 0, 1) := by decide +kernel
theorem dX4_init_51 : decode cX4_init 51 = .ok (.bipush 9, 2) := by decide +kernel
theorem dX4_init_53 : decode cX4_init 53 = .ok (.newarray .int, 2) := by decide +kernel
theorem dX4_init_55 : decode cX4_init 55 = .ok (.putfield 32, 3) := by decide +kernel
theorem dX4_init_58 : decode cX4_init 58 = .ok (.aload_n 0, 1) := by decide +kernel
theorem dX4_init_59 : decode cX4_init 59 = .ok (.new 35, 3) := by decide +kernel
theorem dX4_init_62 : decode cX4_init 62 = .ok (.dup, 1) := by decide +kernel
theorem dX4_init_63 : decode cX4_init 63 = .ok (.invokespecial 37, 3) := by decide +kernel
theorem dX4_init_66 : decode cX4_init 66 = .ok (.putfield 38, 3) := by decide +kernel
theorem dX4_init_69 : decode cX4_init 69 = .ok (.aload_n 0, 1) := by decide +kernel
theorem dX4_init_70 : decode cX4_init 70 = .ok (.sipush 297, 3) := by decide +kernel
theorem dX4_init_73 : decode cX4_init 73 = .ok (.newarray .int, 2) := by decide +kernel
theorem dX4_init_75 : decode cX4_init 75 = .ok (.putfield 42, 3) := by decide +kernel
theorem dX4_init_78 : decode cX4_init 78 = .ok (.iconst 0, 1) := by decide +kernel
theorem dX4_init_79 : decode cX4_init 79 = .ok (.istore_n 1, 1) := by decide +kernel
theorem dX4_init_80 : decode cX4_init 80 = .ok (.iload_n 1, 1) := by decide +kernel
theorem dX4_init_81 : decode cX4_init 81 = .ok (.bipush 10, 2) := by decide +kernel
theorem dX4_init_83 : decode cX4_init 83 = .ok (.if_icmp .ge 22, 3) := by decide +kernel
theorem dX4_init_86 : decode cX4_init 86 = .ok (.aload_n 0, 1) := by decide +kernel
theorem dX4_init_87 : decode cX4_init 87 = .ok (.getfield 11, 3) := by decide +kernel
theorem dX4_init_90 : decode cX4_init 90 = .ok (.iload_n 1, 1) := by decide +kernel
theorem dX4_init_91 : decode cX4_init 91 = .ok (.new 9, 3) := by decide +kernel
theorem dX4_init_94 : decode cX4_init 94 = .ok (.dup, 1) := by decide +kernel
theorem dX4_init_95 : decode cX4_init 95 = .ok (.invokespecial 45, 3) := by decide +kernel
theorem dX4_init_98 : decode cX4_init 98 = .ok (.aastore, 1) := by decide +kernel
theorem dX4_init_99 : decode cX4_init 99 = .ok (.iinc 1 1, 3) := by decide +kernel
theorem dX4_init_102 : decode cX4_init 102 = .ok (.goto (-22), 3) := by decide +kernel
theorem dX4_init_105 : decode cX4_init 105 = .ok (.return_, 1) := by decide +kernel
theorem dX4_sheet_0 : decode cX4_sheet 0 = .ok (.iload_n 1, 1) := by decide +kernel
theorem dX4_sheet_1 : decode cX4_sheet 1 = .ok (.invokestatic 46, 3) := by decide +kernel
theorem dX4_sheet_4 : decode cX4_sheet 4 = .ok (.ifCond .ne 16, 3) := by decide +kernel
theorem dX4_sheet_7 : decode cX4_sheet 7 = .ok (.iload_n 2, 1) := by decide +kernel
theorem dX4_sheet_8 : decode cX4_sheet 8 = .ok (.invokestatic 50, 3) := by decide +kernel
theorem dX4_sheet_11 : decode cX4_sheet 11 = .ok (.ifCond .ne 9, 3) := by decide +kernel
theorem dX4_sheet_14 : decode cX4_sheet 14 = .ok (.iload_n 3, 1) := by decide +kernel
theorem dX4_sheet_15 : decode cX4_sheet 15 = .ok (.bipush 12, 2) := by decide +kernel
theorem dX4_sheet_17 : decode cX4_sheet 17 = .ok (.if_icmp .le 6, 3) := by decide +kernel
theorem dX4_sheet_20 : decode cX4_sheet 20 = .ok (.bipush (-2), 2) := by decide +kernel
theorem dX4_sheet_22 : decode cX4_sheet 22 = .ok (.ireturn, 1) := by decide +kernel
theorem dX4_sheet_23 : decode cX4_sheet 23 = .ok (.iload_n 3, 1) := by decide +kernel
theorem dX4_sheet_24 : decode cX4_sheet 24 = .ok (.ifCond .ge 9, 3) := by decide +kernel
theorem dX4_sheet_27 : decode cX4_sheet 27 = .ok (.aload_n 0, 1) := by decide +kernel
theorem dX4_sheet_28 : decode cX4_sheet 28 = .ok (.iconst 5, 1) := by decide +kernel
theorem dX4_sheet_29 : decode cX4_sheet 29 = .ok (.invokevirtual 53, 3) := by decide +kernel
theorem dX4_sheet_32 : decode cX4_sheet 32 = .ok (.ireturn, 1) := by decide +kernel
theorem dX4_sheet_33 : decode cX4_sheet 33 = .ok (.aload_n 0, 1) := by decide +kernel
theorem dX4_sheet_34 : decode cX4_sheet 34 = .ok (.getfield 11, 3) := by decide +kernel
theorem dX4_sheet_37 : decode cX4_sheet 37 = .ok (.iload_n 1, 1) := by decide +kernel
theorem dX4_sheet_38 : decode cX4_sheet 38 = .ok (.aaload, 1) := by decide +kernel
theorem dX4_sheet_39 : decode cX4_sheet 39 = .ok (.iload_n 2, 1) := by decide +kernel
theorem dX4_sheet_40 : decode cX4_sheet 40 = .ok (.iload_n 3, 1) := by decide +kernel
theorem dX4_sheet_41 : decode cX4_sheet 41 = .ok (.invokevirtual 57, 3) := by decide +kernel
theorem dX4_sheet_44 : decode cX4_sheet 44 = .ok (.iload_n 3, 1) := by decide +kernel
theorem dX4_sheet_45 : decode cX4_sheet 45 = .ok (.ireturn, 1) := by decide +kernel
theorem dX4_lose_0 : decode cX4_lose 0 = .ok (.aload_n 0, 1) := by decide +kernel
theorem dX4_lose_1 : decode cX4_lose 1 = .ok (.iload_n 1, 1) := by decide +kernel
theorem dX4_lose_2 : decode cX4_lose 2 = .ok (.iload_n 1, 1) := by decide +kernel
theorem dX4_lose_3 : decode cX4_lose 3 = .ok (.invokevirtual 61, 3) := by decide +kernel
theorem dX4_lose_6 : decode cX4_lose 6 = .ok (.istore_n 2, 1) := by decide +kernel
theorem dX4_lose_7 : decode cX4_lose 7 = .ok (.iload_n 2, 1) := by decide +kernel
theorem dX4_lose_8 : decode cX4_lose 8 = .ok (.ifCond .eq 5, 3) := by decide +kernel
theorem dX4_lose_11 : decode cX4_lose 11 = .ok (.iload_n 2, 1) := by decide +kernel
theorem dX4_lose_12 : decode cX4_lose 12 = .ok (.ireturn, 1) := by decide +kernel
theorem dX4_lose_13 : decode cX4_lose 13 = .ok (.aload_n 0, 1) := by decide +kernel
theorem dX4_lose_14 : decode cX4_lose 14 = .ok (.getfield 11, 3) := by decide +kernel
theorem dX4_lose_17 : decode cX4_lose 17 = .ok (.iload_n 1, 1) := by decide +kernel
theorem dX4_lose_18 : decode cX4_lose 18 = .ok (.aaload, 1) := by decide +kernel
theorem dX4_lose_19 : decode cX4_lose 19 = .ok (.getfield 65, 3) := by decide +kernel
theorem dX4_lose_22 : decode cX4_lose 22 = .ok (.istore_n 3, 1) := by decide +kernel
theorem dX4_lose_23 : decode cX4_lose 23 = .ok (.aload_n 0, 1) := by decide +kernel
theorem dX4_lose_24 : decode cX4_lose 24 = .ok (.getfield 11, 3) := by decide +kernel
theorem dX4_lose_27 : decode cX4_lose 27 = .ok (.iload_n 1, 1) := by decide +kernel
theorem dX4_lose_28 : decode cX4_lose 28 = .ok (.aaload, 1) := by decide +kernel
theorem dX4_lose_29 : decode cX4_lose 29 = .ok (.invokevirtual 68, 3) := by decide +kernel
theorem dX4_lose_32 : decode cX4_lose 32 = .ok (.iload_n 3, 1) := by decide +kernel
theorem dX4_lose_33 : decode cX4_lose 33 = .ok (.ireturn, 1) := by decide +kernel
theorem dX4_put_0 : decode cX4_put 0 = .ok (.aload_n 0, 1) := by decide +kernel
theorem dX4_put_1 : decode cX4_put 1 = .ok (.iload_n 1, 1) := by decide +kernel
theorem dX4_put_2 : decode cX4_put 2 = .ok (.iload_n 2, 1) := by decide +kernel
theorem dX4_put_3 : decode cX4_put 3 = .ok (.iload_n 3, 1) := by decide +kernel
theorem dX4_put_4 : decode cX4_put 4 = .ok (.invokevirtual 71, 3) := by decide +kernel
theorem dX4_put_7 : decode cX4_put 7 = .ok (.istore 5, 2) := by decide +kernel
theorem dX4_put_9 : decode cX4_put 9 = .ok (.iload 5, 2) := by decide +kernel
theorem dX4_put_11 : decode cX4_put 11 = .ok (.ifCond .eq 6, 3) := by decide +kernel
theorem dX4_put_14 : decode cX4_put 14 = .ok (.iload 5, 2) := by decide +kernel
theorem dX4_put_16 : decode cX4_put 16 = .ok (.ireturn, 1) := by decide +kernel
theorem dX4_put_17 : decode cX4_put 17 = .ok (.aload_n 0, 1) := by decide +kernel
theorem dX4_put_18 : decode cX4_put 18 = .ok (.getfield 11, 3) := by decide +kernel
theorem dX4_put_21 : decode cX4_put 21 = .ok (.iload_n 1, 1) := by decide +kernel
theorem dX4_put_22 : decode cX4_put 22 = .ok (.aaload, 1) := by decide +kernel
theorem dX4_put_23 : decode cX4_put 23 = .ok (.iload_n 3, 1) := by decide +kernel
theorem dX4_put_24 : decode cX4_put 24 = .ok (.iload 4, 2) := by decide +kernel
theorem dX4_put_26 : decode cX4_put 26 = .ok (.invokevirtual 75, 3) := by decide +kernel
theorem dX4_put_29 : decode cX4_put 29 = .ok (.iconst 1, 1) := by decide +kernel
theorem dX4_put_30 : decode cX4_put 30 = .ok (.ireturn, 1) := by decide +kernel
theorem dX4_get_0 : decode cX4_get 0 = .ok (.aload_n 0, 1) := by decide +kernel
theorem dX4_get_1 : decode cX4_get 1 = .ok (.iload_n 1, 1) := by decide +kernel
theorem dX4_get_2 : decode cX4_get 2 = .ok (.iload_n 2, 1) := by decide +kernel
theorem dX4_get_3 : decode cX4_get 3 = .ok (.iload_n 3, 1) := by decide +kernel
theorem dX4_get_4 : decode cX4_get 4 = .ok (.invokevirtual 71, 3) := by decide +kernel
theorem dX4_get_7 : decode cX4_get 7 = .ok (.ifCond .ne 17, 3) := by decide +kernel
theorem dX4_get_10 : decode cX4_get 10 = .ok (.aload_n 0, 1) := by decide +kernel
theorem dX4_get_11 : decode cX4_get 11 = .ok (.getfield 11, 3) := by decide +kernel
theorem dX4_get_14 : decode cX4_get 14 = .ok (.iload_n 1, 1) := by decide +kernel
theorem dX4_get_15 : decode cX4_get 15 = .ok (.aaload, 1) := by decide +kernel
theorem dX4_get_16 : decode cX4_get 16 = .ok (.getfield 78, 3) := by decide +kernel
theorem dX4_get_19 : decode cX4_get 19 = .ok (.iload_n 3, 1) := by decide +kernel
theorem dX4_get_20 : decode cX4_get 20 = .ok (.iaload, 1) := by decide +kernel
theorem dX4_get_21 : decode cX4_get 21 = .ok (.goto 5, 3) := by decide +kernel
theorem dX4_get_24 : decode cX4_get 24 = .ok (.ldc 81, 2) := by decide +kernel
theorem dX4_get_26 : decode cX4_get 26 = .ok (.ireturn, 1) := by decide +kernel
theorem dX4_copy_0 : decode cX4_copy 0 = .ok (.aload_n 0, 1) := by decide +kernel
theorem dX4_copy_1 : decode cX4_copy 1 = .ok (.iload_n 1, 1) := by decide +kernel
theorem dX4_copy_2 : decode cX4_copy 2 = .ok (.iload_n 3, 1) := by decide +kernel
theorem dX4_copy_3 : decode cX4_copy 3 = .ok (.invokevirtual 61, 3) := by decide +kernel
theorem dX4_copy_6 : decode cX4_copy 6 = .ok (.istore 6, 2) := by decide +kernel
theorem dX4_copy_8 : decode cX4_copy 8 = .ok (.iload 6, 2) := by decide +kernel
theorem dX4_copy_10 : decode cX4_copy 10 = .ok (.ifCond .eq 6, 3) := by decide +kernel
theorem dX4_copy_13 : decode cX4_copy 13 = .ok (.iload 6, 2) := by decide +kernel
theorem dX4_copy_15 : decode cX4_copy 15 = .ok (.ireturn, 1) := by decide +kernel
theorem dX4_copy_16 : decode cX4_copy 16 = .ok (.aload_n 0, 1) := by decide +kernel
theorem dX4_copy_17 : decode cX4_copy 17 = .ok (.getfield 11, 3) := by decide +kernel
theorem dX4_copy_20 : decode cX4_copy 20 = .ok (.iload_n 1, 1) := by decide +kernel
theorem dX4_copy_21 : decode cX4_copy 21 = .ok (.aaload, 1) := by decide +kernel
theorem dX4_copy_22 : decode cX4_copy 22 = .ok (.astore 7, 2) := by decide +kernel
theorem dX4_copy_24 : decode cX4_copy 24 = .ok (.aload_n 0, 1) := by decide +kernel
theorem dX4_copy_25 : decode cX4_copy 25 = .ok (.getfield 11, 3) := by decide +kernel
theorem dX4_copy_28 : decode cX4_copy 28 = .ok (.iload_n 3, 1) := by decide +kernel
theorem dX4_copy_29 : decode cX4_copy 29 = .ok (.aaload, 1) := by decide +kernel
theorem dX4_copy_30 : decode cX4_copy 30 = .ok (.astore 8, 2) := by decide +kernel
theorem dX4_copy_32 : decode cX4_copy 32 = .ok (.aload 7, 2) := by decide +kernel
theorem dX4_copy_34 : decode cX4_copy 34 = .ok (.getfield 82, 3) := by decide +kernel
theorem dX4_copy_37 : decode cX4_copy 37 = .ok (.aload 8, 2) := by decide +kernel
theorem dX4_copy_39 : decode cX4_copy 39 = .ok (.getfield 82, 3) := by decide +kernel
theorem dX4_copy_42 : decode cX4_copy 42 = .ok (.if_icmp .eq 9, 3) := by decide +kernel
theorem dX4_copy_45 : decode cX4_copy 45 = .ok (.aload_n 0, 1) := by decide +kernel
theorem dX4_copy_46 : decode cX4_copy 46 = .ok (.iconst 4, 1) := by decide +kernel
theorem dX4_copy_47 : decode cX4_copy 47 = .ok (.invokevirtual 53, 3) := by decide +kernel
theorem dX4_copy_50 : decode cX4_copy 50 = .ok (.ireturn, 1) := by decide +kernel
theorem dX4_copy_51 : decode cX4_copy 51 = .ok (.aload 7, 2) := by decide +kernel
theorem dX4_copy_53 : decode cX4_copy 53 = .ok (.iload_n 2, 1) := by decide +kernel
theorem dX4_copy_54 : decode cX4_copy 54 = .ok (.iload 5, 2) := by decide +kernel
theorem dX4_copy_56 : decode cX4_copy 56 = .ok (.invokevirtual 85, 3) := by decide +kernel
theorem dX4_copy_59 : decode cX4_copy 59 = .ok (.ifCond .eq 15, 3) := by decide +kernel
theorem dX4_copy_62 : decode cX4_copy 62 = .ok (.aload 8, 2) := by decide +kernel
theorem dX4_copy_64 : decode cX4_copy 64 = .ok (.iload 4, 2) := by decide +kernel
theorem dX4_copy_66 : decode cX4_copy 66 = .ok (.iload 5, 2) := by decide +kernel
theorem dX4_copy_68 : decode cX4_copy 68 = .ok (.invokevirtual 85, 3) := by decide +kernel
theorem dX4_copy_71 : decode cX4_copy 71 = .ok (.ifCond .ne 9, 3) := by decide +kernel
theorem dX4_copy_74 : decode cX4_copy 74 = .ok (.aload_n 0, 1) := by decide +kernel
theorem dX4_copy_75 : decode cX4_copy 75 = .ok (.iconst 2, 1) := by decide +kernel
theorem dX4_copy_76 : decode cX4_copy 76 = .ok (.invokevirtual 53, 3) := by decide +kernel
theorem dX4_copy_79 : decode cX4_copy 79 = .ok (.ireturn, 1) := by decide +kernel
theorem dX4_copy_80 : decode cX4_copy 80 = .ok (.aload 7, 2) := by decide +kernel
theorem dX4_copy_82 : decode cX4_copy 82 = .ok (.getfield 78, 3) := by decide +kernel
theorem dX4_copy_85 : decode cX4_copy 85 = .ok (.iload_n 2, 1) := by decide +kernel
theorem dX4_copy_86 : decode cX4_copy 86 = .ok (.aload 8, 2) := by decide +kernel
theorem dX4_copy_88 : decode cX4_copy 88 = .ok (.getfield 78, 3) := by decide +kernel
theorem dX4_copy_91 : decode cX4_copy 91 = .ok (.iload 4, 2) := by decide +kernel
theorem dX4_copy_93 : decode cX4_copy 93 = .ok (.iload 5, 2) := by decide +kernel
theorem dX4_copy_95 : decode cX4_copy 95 = .ok (.invokestatic 89, 3) := by decide +kernel
theorem dX4_copy_98 : decode cX4_copy 98 = .ok (.iconst 1, 1) := by decide +kernel
theorem dX4_copy_99 : decode cX4_copy 99 = .ok (.ireturn, 1) := by decide +kernel
theorem dX4_term_0 : decode cX4_term 0 = .ok (.iload_n 2, 1) := by decide +kernel
theorem dX4_term_1 : decode cX4_term 1 = .ok (.ifCond .lt 9, 3) := by decide +kernel
theorem dX4_term_4 : decode cX4_term 4 = .ok (.iload_n 2, 1) := by decide +kernel
theorem dX4_term_5 : decode cX4_term 5 = .ok (.bipush 8, 2) := by decide +kernel
theorem dX4_term_7 : decode cX4_term 7 = .ok (.if_icmp .le 6, 3) := by decide +kernel
theorem dX4_term_10 : decode cX4_term 10 = .ok (.bipush (-2), 2) := by decide +kernel
theorem dX4_term_12 : decode cX4_term 12 = .ok (.ireturn, 1) := by decide +kernel
theorem dX4_term_13 : decode cX4_term 13 = .ok (.aload_n 0, 1) := by decide +kernel
theorem dX4_term_14 : decode cX4_term 14 = .ok (.iload_n 1, 1) := by decide +kernel
theorem dX4_term_15 : decode cX4_term 15 = .ok (.iload_n 1, 1) := by decide +kernel
theorem dX4_term_16 : decode cX4_term 16 = .ok (.invokevirtual 95, 3) := by decide +kernel
theorem dX4_term_19 : decode cX4_term 19 = .ok (.istore_n 3, 1) := by decide +kernel
theorem dX4_term_20 : decode cX4_term 20 = .ok (.iload_n 3, 1) := by decide +kernel
theorem dX4_term_21 : decode cX4_term 21 = .ok (.ifCond .eq 7, 3) := by decide +kernel
theorem dX4_term_24 : decode cX4_term 24 = .ok (.iload_n 3, 1) := by decide +kernel
theorem dX4_term_25 : decode cX4_term 25 = .ok (.goto 13, 3) := by decide +kernel
theorem dX4_term_28 : decode cX4_term 28 = .ok (.aload_n 0, 1) := by decide +kernel
theorem dX4_term_29 : decode cX4_term 29 = .ok (.getfield 11, 3) := by decide +kernel
theorem dX4_term_32 : decode cX4_term 32 = .ok (.iload_n 1, 1) := by decide +kernel
theorem dX4_term_33 : decode cX4_term 33 = .ok (.aaload, 1) := by decide +kernel
theorem dX4_term_34 : decode cX4_term 34 = .ok (.iload_n 2, 1) := by decide +kernel
theorem dX4_term_35 : decode cX4_term 35 = .ok (.invokevirtual 98, 3) := by decide +kernel
theorem dX4_term_38 : decode cX4_term 38 = .ok (.ireturn, 1) := by decide +kernel
theorem dX4_degree_0 : decode cX4_degree 0 = .ok (.aload_n 0, 1) := by decide +kernel
theorem dX4_degree_1 : decode cX4_degree 1 = .ok (.iload_n 1, 1) := by decide +kernel
theorem dX4_degree_2 : decode cX4_degree 2 = .ok (.iload_n 1, 1) := by decide +kernel
theorem dX4_degree_3 : decode cX4_degree 3 = .ok (.invokevirtual 95, 3) := by decide +kernel
theorem dX4_degree_6 : decode cX4_degree 6 = .ok (.istore_n 2, 1) := by decide +kernel
theorem dX4_degree_7 : decode cX4_degree 7 = .ok (.iload_n 2, 1) := by decide +kernel
theorem dX4_degree_8 : decode cX4_degree 8 = .ok (.ifCond .eq 7, 3) := by decide +kernel
theorem dX4_degree_11 : decode cX4_degree 11 = .ok (.iload_n 2, 1) := by decide +kernel
theorem dX4_degree_12 : decode cX4_degree 12 = .ok (.goto 12, 3) := by decide +kernel
theorem dX4_degree_15 : decode cX4_degree 15 = .ok (.aload_n 0, 1) := by decide +kernel
theorem dX4_degree_16 : decode cX4_degree 16 = .ok (.getfield 11, 3) := by decide +kernel
theorem dX4_degree_19 : decode cX4_degree 19 = .ok (.iload_n 1, 1) := by decide +kernel
theorem dX4_degree_20 : decode cX4_degree 20 = .ok (.aaload, 1) := by decide +kernel
theorem dX4_degree_21 : decode cX4_degree 21 = .ok (.invokevirtual 101, 3) := by decide +kernel
theorem dX4_degree_24 : decode cX4_degree 24 = .ok (.ireturn, 1) := by decide +kernel
theorem dX4_value_0 : decode cX4_value 0 = .ok (.aload_n 0, 1) := by decide +kernel
theorem dX4_value_1 : decode cX4_value 1 = .ok (.iload_n 1, 1) := by decide +kernel
theorem dX4_value_2 : decode cX4_value 2 = .ok (.iload_n 1, 1) := by decide +kernel
theorem dX4_value_3 : decode cX4_value 3 = .ok (.invokevirtual 95, 3) := by decide +kernel
theorem dX4_value_6 : decode cX4_value 6 = .ok (.istore 4, 2) := by decide +kernel
theorem dX4_value_8 : decode cX4_value 8 = .ok (.iload 4, 2) := by decide +kernel
theorem dX4_value_10 : decode cX4_value 10 = .ok (.ifCond .eq 6, 3) := by decide +kernel
theorem dX4_value_13 : decode cX4_value 13 = .ok (.iload 4, 2) := by decide +kernel
theorem dX4_value_15 : decode cX4_value 15 = .ok (.ireturn, 1) := by decide +kernel
theorem dX4_value_16 : decode cX4_value 16 = .ok (.aload_n 0, 1) := by decide +kernel
theorem dX4_value_17 : decode cX4_value 17 = .ok (.iload_n 1, 1) := by decide +kernel
theorem dX4_value_18 : decode cX4_value 18 = .ok (.aload_n 0, 1) := by decide +kernel
theorem dX4_value_19 : decode cX4_value 19 = .ok (.getfield 19, 3) := by decide +kernel
theorem dX4_value_22 : decode cX4_value 22 = .ok (.invokevirtual 105, 3) := by decide +kernel
theorem dX4_value_25 : decode cX4_value 25 = .ok (.istore 5, 2) := by decide +kernel
theorem dX4_value_27 : decode cX4_value 27 = .ok (.aload_n 0, 1) := by decide +kernel
theorem dX4_value_28 : decode cX4_value 28 = .ok (.getfield 19, 3) := by decide +kernel
theorem dX4_value_31 : decode cX4_value 31 = .ok (.iload 5, 2) := by decide +kernel
theorem dX4_value_33 : decode cX4_value 33 = .ok (.iload_n 2, 1) := by decide +kernel
theorem dX4_value_34 : decode cX4_value 34 = .ok (.invokestatic 109, 3) := by decide +kernel
theorem dX4_value_37 : decode cX4_value 37 = .ok (.iload_n 3, 1) := by decide +kernel
theorem dX4_value_38 : decode cX4_value 38 = .ok (.invokestatic 109, 3) := by decide +kernel
theorem dX4_value_41 : decode cX4_value 41 = .ok (.invokestatic 114, 3) := by decide +kernel
theorem dX4_value_44 : decode cX4_value 44 = .ok (.ireturn, 1) := by decide +kernel
theorem dX4_join_0 : decode cX4_join 0 = .ok (.iload_n 3, 1) := by decide +kernel
theorem dX4_join_1 : decode cX4_join 1 = .ok (.invokestatic 46, 3) := by decide +kernel
theorem dX4_join_4 : decode cX4_join 4 = .ok (.ifCond .ne 14, 3) := by decide +kernel
theorem dX4_join_7 : decode cX4_join 7 = .ok (.iload 4, 2) := by decide +kernel
theorem dX4_join_9 : decode cX4_join 9 = .ok (.ifCond .lt 9, 3) := by decide +kernel
theorem dX4_join_12 : decode cX4_join 12 = .ok (.iload 4, 2) := by decide +kernel
theorem dX4_join_14 : decode cX4_join 14 = .ok (.iconst 3, 1) := by decide +kernel
theorem dX4_join_15 : decode cX4_join 15 = .ok (.if_icmp .le 6, 3) := by decide +kernel
theorem dX4_join_18 : decode cX4_join 18 = .ok (.bipush (-2), 2) := by decide +kernel
theorem dX4_join_20 : decode cX4_join 20 = .ok (.ireturn, 1) := by decide +kernel
theorem dX4_join_21 : decode cX4_join 21 = .ok (.aload_n 0, 1) := by decide +kernel
theorem dX4_join_22 : decode cX4_join 22 = .ok (.iload_n 1, 1) := by decide +kernel
theorem dX4_join_23 : decode cX4_join 23 = .ok (.iload_n 2, 1) := by decide +kernel
theorem dX4_join_24 : decode cX4_join 24 = .ok (.invokevirtual 95, 3) := by decide +kernel
theorem dX4_join_27 : decode cX4_join 27 = .ok (.istore 5, 2) := by decide +kernel
theorem dX4_join_29 : decode cX4_join 29 = .ok (.iload 5, 2) := by decide +kernel
theorem dX4_join_31 : decode cX4_join 31 = .ok (.ifCond .eq 6, 3) := by decide +kernel
theorem dX4_join_34 : decode cX4_join 34 = .ok (.iload 5, 2) := by decide +kernel
theorem dX4_join_36 : decode cX4_join 36 = .ok (.ireturn, 1) := by decide +kernel
theorem dX4_join_37 : decode cX4_join 37 = .ok (.aload_n 0, 1) := by decide +kernel
theorem dX4_join_38 : decode cX4_join 38 = .ok (.iload_n 1, 1) := by decide +kernel
theorem dX4_join_39 : decode cX4_join 39 = .ok (.aload_n 0, 1) := by decide +kernel
theorem dX4_join_40 : decode cX4_join 40 = .ok (.getfield 19, 3) := by decide +kernel
theorem dX4_join_43 : decode cX4_join 43 = .ok (.invokevirtual 105, 3) := by decide +kernel
theorem dX4_join_46 : decode cX4_join 46 = .ok (.istore 6, 2) := by decide +kernel
theorem dX4_join_48 : decode cX4_join 48 = .ok (.aload_n 0, 1) := by decide +kernel
theorem dX4_join_49 : decode cX4_join 49 = .ok (.iload_n 2, 1) := by decide +kernel
theorem dX4_join_50 : decode cX4_join 50 = .ok (.aload_n 0, 1) := by decide +kernel
theorem dX4_join_51 : decode cX4_join 51 = .ok (.getfield 23, 3) := by decide +kernel
theorem dX4_join_54 : decode cX4_join 54 = .ok (.invokevirtual 105, 3) := by decide +kernel
theorem dX4_join_57 : decode cX4_join 57 = .ok (.istore 7, 2) := by decide +kernel
theorem dX4_join_59 : decode cX4_join 59 = .ok (.iload 6, 2) := by decide +kernel
theorem dX4_join_61 : decode cX4_join 61 = .ok (.iload 7, 2) := by decide +kernel
theorem dX4_join_63 : decode cX4_join 63 = .ok (.iload 4, 2) := by decide +kernel
theorem dX4_join_65 : decode cX4_join 65 = .ok (.invokestatic 120, 3) := by decide +kernel
theorem dX4_join_68 : decode cX4_join 68 = .ok (.ifCond .ne 6, 3) := by decide +kernel
theorem dX4_join_71 : decode cX4_join 71 = .ok (.bipush (-3), 2) := by decide +kernel
theorem dX4_join_73 : decode cX4_join 73 = .ok (.ireturn, 1) := by decide +kernel
theorem dX4_join_74 : decode cX4_join 74 = .ok (.aload_n 0, 1) := by decide +kernel
theorem dX4_join_75 : decode cX4_join 75 = .ok (.iload 6, 2) := by decide +kernel
theorem dX4_join_77 : decode cX4_join 77 = .ok (.iload 7, 2) := by decide +kernel
theorem dX4_join_79 : decode cX4_join 79 = .ok (.iload 4, 2) := by decide +kernel
theorem dX4_join_81 : decode cX4_join 81 = .ok (.invokevirtual 124, 3) := by decide +kernel
theorem dX4_join_84 : decode cX4_join 84 = .ok (.aload_n 0, 1) := by decide +kernel
theorem dX4_join_85 : decode cX4_join 85 = .ok (.iload_n 3, 1) := by decide +kernel
theorem dX4_join_86 : decode cX4_join 86 = .ok (.iload 4, 2) := by decide +kernel
theorem dX4_join_88 : decode cX4_join 88 = .ok (.iconst 2, 1) := by decide +kernel
theorem dX4_join_89 : decode cX4_join 89 = .ok (.if_icmp .ne 11, 3) := by decide +kernel
theorem dX4_join_92 : decode cX4_join 92 = .ok (.iload 6, 2) := by decide +kernel
theorem dX4_join_94 : decode cX4_join 94 = .ok (.iload 7, 2) := by decide +kernel
theorem dX4_join_96 : decode cX4_join 96 = .ok (.iadd, 1) := by decide +kernel
theorem dX4_join_97 : decode cX4_join 97 = .ok (.goto 5, 3) := by decide +kernel
theorem dX4_join_100 : decode cX4_join 100 = .ok (.iload 6, 2) := by decide +kernel
theorem dX4_join_102 : decode cX4_join 102 = .ok (.invokevirtual 128, 3) := by decide +kernel
theorem dX4_join_105 : decode cX4_join 105 = .ok (.ireturn, 1) := by decide +kernel
theorem dX4_mix_0 : decode cX4_mix 0 = .ok (.iload 6, 2) := by decide +kernel
theorem dX4_mix_2 : decode cX4_mix 2 = .ok (.invokestatic 46, 3) := by decide +kernel
theorem dX4_mix_5 : decode cX4_mix 5 = .ok (.ifCond .eq 6, 3) := by decide +kernel
theorem dX4_mix_8 : decode cX4_mix 8 = .ok (.bipush (-2), 2) := by decide +kernel
theorem dX4_mix_10 : decode cX4_mix 10 = .ok (.ireturn, 1) := by decide +kernel
theorem dX4_mix_11 : decode cX4_mix 11 = .ok (.aload_n 0, 1) := by decide +kernel
theorem dX4_mix_12 : decode cX4_mix 12 = .ok (.iload_n 1, 1) := by decide +kernel
theorem dX4_mix_13 : decode cX4_mix 13 = .ok (.iload_n 1, 1) := by decide +kernel
theorem dX4_mix_14 : decode cX4_mix 14 = .ok (.invokevirtual 95, 3) := by decide +kernel
theorem dX4_mix_17 : decode cX4_mix 17 = .ok (.istore 7, 2) := by decide +kernel
theorem dX4_mix_19 : decode cX4_mix 19 = .ok (.iload 7, 2) := by decide +kernel
theorem dX4_mix_21 : decode cX4_mix 21 = .ok (.ifCond .eq 6, 3) := by decide +kernel
theorem dX4_mix_24 : decode cX4_mix 24 = .ok (.iload 7, 2) := by decide +kernel
theorem dX4_mix_26 : decode cX4_mix 26 = .ok (.ireturn, 1) := by decide +kernel
theorem dX4_mix_27 : decode cX4_mix 27 = .ok (.iload_n 2, 1) := by decide +kernel
theorem dX4_mix_28 : decode cX4_mix 28 = .ok (.invokestatic 109, 3) := by decide +kernel
theorem dX4_mix_31 : decode cX4_mix 31 = .ok (.istore 8, 2) := by decide +kernel
theorem dX4_mix_33 : decode cX4_mix 33 = .ok (.iload_n 3, 1) := by decide +kernel
theorem dX4_mix_34 : decode cX4_mix 34 = .ok (.invokestatic 109, 3) := by decide +kernel
theorem dX4_mix_37 : decode cX4_mix 37 = .ok (.istore 9, 2) := by decide +kernel
theorem dX4_mix_39 : decode cX4_mix 39 = .ok (.iload 4, 2) := by decide +kernel
theorem dX4_mix_41 : decode cX4_mix 41 = .ok (.invokestatic 109, 3) := by decide +kernel
theorem dX4_mix_44 : decode cX4_mix 44 = .ok (.istore 10, 2) := by decide +kernel
theorem dX4_mix_46 : decode cX4_mix 46 = .ok (.iload 5, 2) := by decide +kernel
theorem dX4_mix_48 : decode cX4_mix 48 = .ok (.invokestatic 109, 3) := by decide +kernel
theorem dX4_mix_51 : decode cX4_mix 51 = .ok (.istore 11, 2) := by decide +kernel
theorem dX4_mix_53 : decode cX4_mix 53 = .ok (.aload_n 0, 1) := by decide +kernel
theorem dX4_mix_54 : decode cX4_mix 54 = .ok (.iload_n 1, 1) := by decide +kernel
theorem dX4_mix_55 : decode cX4_mix 55 = .ok (.aload_n 0, 1) := by decide +kernel
theorem dX4_mix_56 : decode cX4_mix 56 = .ok (.getfield 19, 3) := by decide +kernel
theorem dX4_mix_59 : decode cX4_mix 59 = .ok (.invokevirtual 105, 3) := by decide +kernel
theorem dX4_mix_62 : decode cX4_mix 62 = .ok (.istore 12, 2) := by decide +kernel
theorem dX4_mix_64 : decode cX4_mix 64 = .ok (.aload_n 0, 1) := by decide +kernel
theorem dX4_mix_65 : decode cX4_mix 65 = .ok (.iload 12, 2) := by decide +kernel
theorem dX4_mix_67 : decode cX4_mix 67 = .ok (.iload 8, 2) := by decide +kernel
theorem dX4_mix_69 : decode cX4_mix 69 = .ok (.iload 9, 2) := by decide +kernel
theorem dX4_mix_71 : decode cX4_mix 71 = .ok (.iload 10, 2) := by decide +kernel
theorem dX4_mix_73 : decode cX4_mix 73 = .ok (.iload 11, 2) := by decide +kernel
theorem dX4_mix_75 : decode cX4_mix 75 = .ok (.invokevirtual 131, 3) := by decide +kernel
theorem dX4_mix_78 : decode cX4_mix 78 = .ok (.aload_n 0, 1) := by decide +kernel
theorem dX4_mix_79 : decode cX4_mix 79 = .ok (.iload 6, 2) := by decide +kernel
theorem dX4_mix_81 : decode cX4_mix 81 = .ok (.iload 12, 2) := by decide +kernel
theorem dX4_mix_83 : decode cX4_mix 83 = .ok (.invokevirtual 128, 3) := by decide +kernel
theorem dX4_mix_86 : decode cX4_mix 86 = .ok (.pop, 1) := by decide +kernel
theorem dX4_mix_87 : decode cX4_mix 87 = .ok (.iload 8, 2) := by decide +kernel
theorem dX4_mix_89 : decode cX4_mix 89 = .ok (.iload 11, 2) := by decide +kernel
theorem dX4_mix_91 : decode cX4_mix 91 = .ok (.imul, 1) := by decide +kernel
theorem dX4_mix_92 : decode cX4_mix 92 = .ok (.iload 9, 2) := by decide +kernel
theorem dX4_mix_94 : decode cX4_mix 94 = .ok (.iload 10, 2) := by decide +kernel
theorem dX4_mix_96 : decode cX4_mix 96 = .ok (.imul, 1) := by decide +kernel
theorem dX4_mix_97 : decode cX4_mix 97 = .ok (.isub, 1) := by decide +kernel
theorem dX4_mix_98 : decode cX4_mix 98 = .ok (.invokestatic 109, 3) := by decide +kernel
theorem dX4_mix_101 : decode cX4_mix 101 = .ok (.ireturn, 1) := by decide +kernel
theorem dX4_change_0 : decode cX4_change 0 = .ok (.iload_n 3, 1) := by decide +kernel
theorem dX4_change_1 : decode cX4_change 1 = .ok (.invokestatic 46, 3) := by decide +kernel
theorem dX4_change_4 : decode cX4_change 4 = .ok (.ifCond .ne 12, 3) := by decide +kernel
theorem dX4_change_7 : decode cX4_change 7 = .ok (.iload_n 2, 1) := by decide +kernel
theorem dX4_change_8 : decode cX4_change 8 = .ok (.ifCond .lt 8, 3) := by decide +kernel
theorem dX4_change_11 : decode cX4_change 11 = .ok (.iload_n 2, 1) := by decide +kernel
theorem dX4_change_12 : decode cX4_change 12 = .ok (.iconst 1, 1) := by decide +kernel
theorem dX4_change_13 : decode cX4_change 13 = .ok (.if_icmp .le 6, 3) := by decide +kernel
theorem dX4_change_16 : decode cX4_change 16 = .ok (.bipush (-2), 2) := by decide +kernel
theorem dX4_change_18 : decode cX4_change 18 = .ok (.ireturn, 1) := by decide +kernel
theorem dX4_change_19 : decode cX4_change 19 = .ok (.aload_n 0, 1) := by decide +kernel
theorem dX4_change_20 : decode cX4_change 20 = .ok (.iload_n 1, 1) := by decide +kernel
theorem dX4_change_21 : decode cX4_change 21 = .ok (.iload_n 1, 1) := by decide +kernel
theorem dX4_change_22 : decode cX4_change 22 = .ok (.invokevirtual 95, 3) := by decide +kernel
theorem dX4_change_25 : decode cX4_change 25 = .ok (.istore 4, 2) := by decide +kernel
theorem dX4_change_27 : decode cX4_change 27 = .ok (.iload 4, 2) := by decide +kernel
theorem dX4_change_29 : decode cX4_change 29 = .ok (.ifCond .eq 6, 3) := by decide +kernel
theorem dX4_change_32 : decode cX4_change 32 = .ok (.iload 4, 2) := by decide +kernel
theorem dX4_change_34 : decode cX4_change 34 = .ok (.ireturn, 1) := by decide +kernel
theorem dX4_change_35 : decode cX4_change 35 = .ok (.aload_n 0, 1) := by decide +kernel
theorem dX4_change_36 : decode cX4_change 36 = .ok (.iload_n 1, 1) := by decide +kernel
theorem dX4_change_37 : decode cX4_change 37 = .ok (.aload_n 0, 1) := by decide +kernel
theorem dX4_change_38 : decode cX4_change 38 = .ok (.getfield 19, 3) := by decide +kernel
theorem dX4_change_41 : decode cX4_change 41 = .ok (.invokevirtual 105, 3) := by decide +kernel
theorem dX4_change_44 : decode cX4_change 44 = .ok (.istore 5, 2) := by decide +kernel
theorem dX4_change_46 : decode cX4_change 46 = .ok (.iload 5, 2) := by decide +kernel
theorem dX4_change_48 : decode cX4_change 48 = .ok (.ifCond .ne 6, 3) := by decide +kernel
theorem dX4_change_51 : decode cX4_change 51 = .ok (.bipush (-3), 2) := by decide +kernel
theorem dX4_change_53 : decode cX4_change 53 = .ok (.ireturn, 1) := by decide +kernel
theorem dX4_change_54 : decode cX4_change 54 = .ok (.iload_n 2, 1) := by decide +kernel
theorem dX4_change_55 : decode cX4_change 55 = .ok (.iconst 1, 1) := by decide +kernel
theorem dX4_change_56 : decode cX4_change 56 = .ok (.if_icmp .ne 7, 3) := by decide +kernel
theorem dX4_change_59 : decode cX4_change 59 = .ok (.iconst 1, 1) := by decide +kernel
theorem dX4_change_60 : decode cX4_change 60 = .ok (.goto 4, 3) := by decide +kernel
theorem dX4_change_63 : decode cX4_change 63 = .ok (.iconst 0, 1) := by decide +kernel
theorem dX4_change_64 : decode cX4_change 64 = .ok (.istore 6, 2) := by decide +kernel
theorem dX4_change_66 : decode cX4_change 66 = .ok (.aload_n 0, 1) := by decide +kernel
theorem dX4_change_67 : decode cX4_change 67 = .ok (.getfield 19, 3) := by decide +kernel
theorem dX4_change_70 : decode cX4_change 70 = .ok (.iload 5, 2) := by decide +kernel
theorem dX4_change_72 : decode cX4_change 72 = .ok (.iconst 1, 1) := by decide +kernel
theorem dX4_change_73 : decode cX4_change 73 = .ok (.iload 6, 2) := by decide +kernel
theorem dX4_change_75 : decode cX4_change 75 = .ok (.isub, 1) := by decide +kernel
theorem dX4_change_76 : decode cX4_change 76 = .ok (.iload 6, 2) := by decide +kernel
theorem dX4_change_78 : decode cX4_change 78 = .ok (.aload_n 0, 1) := by decide +kernel
theorem dX4_change_79 : decode cX4_change 79 = .ok (.getfield 32, 3) := by decide +kernel
theorem dX4_change_82 : decode cX4_change 82 = .ok (.invokestatic 135, 3) := by decide +kernel
theorem dX4_change_85 : decode cX4_change 85 = .ok (.aload_n 0, 1) := by decide +kernel
theorem dX4_change_86 : decode cX4_change 86 = .ok (.iload_n 3, 1) := by decide +kernel
theorem dX4_change_87 : decode cX4_change 87 = .ok (.iload 5, 2) := by decide +kernel
theorem dX4_change_89 : decode cX4_change 89 = .ok (.iconst 1, 1) := by decide +kernel
theorem dX4_change_90 : decode cX4_change 90 = .ok (.isub, 1) := by decide +kernel
theorem dX4_change_91 : decode cX4_change 91 = .ok (.invokevirtual 128, 3) := by decide +kernel
theorem dX4_change_94 : decode cX4_change 94 = .ok (.ireturn, 1) := by decide +kernel
theorem dX4_overlap_0 : decode cX4_overlap 0 = .ok (.iload 4, 2) := by decide +kernel
theorem dX4_overlap_2 : decode cX4_overlap 2 = .ok (.invokestatic 46, 3) := by decide +kernel
theorem dX4_overlap_5 : decode cX4_overlap 5 = .ok (.ifCond .ne 13, 3) := by decide +kernel
theorem dX4_overlap_8 : decode cX4_overlap 8 = .ok (.iload_n 3, 1) := by decide +kernel
theorem dX4_overlap_9 : decode cX4_overlap 9 = .ok (.ifCond .lt 9, 3) := by decide +kernel
theorem dX4_overlap_12 : decode cX4_overlap 12 = .ok (.iload_n 3, 1) := by decide +kernel
theorem dX4_overlap_13 : decode cX4_overlap 13 = .ok (.bipush 8, 2) := by decide +kernel
theorem dX4_overlap_15 : decode cX4_overlap 15 = .ok (.if_icmp .le 6, 3) := by decide +kernel
theorem dX4_overlap_18 : decode cX4_overlap 18 = .ok (.bipush (-2), 2) := by decide +kernel
theorem dX4_overlap_20 : decode cX4_overlap 20 = .ok (.ireturn, 1) := by decide +kernel
theorem dX4_overlap_21 : decode cX4_overlap 21 = .ok (.aload_n 0, 1) := by decide +kernel
theorem dX4_overlap_22 : decode cX4_overlap 22 = .ok (.iload_n 1, 1) := by decide +kernel
theorem dX4_overlap_23 : decode cX4_overlap 23 = .ok (.iload_n 2, 1) := by decide +kernel
theorem dX4_overlap_24 : decode cX4_overlap 24 = .ok (.invokevirtual 95, 3) := by decide +kernel
theorem dX4_overlap_27 : decode cX4_overlap 27 = .ok (.istore 5, 2) := by decide +kernel
theorem dX4_overlap_29 : decode cX4_overlap 29 = .ok (.iload 5, 2) := by decide +kernel
theorem dX4_overlap_31 : decode cX4_overlap 31 = .ok (.ifCond .eq 6, 3) := by decide +kernel
theorem dX4_overlap_34 : decode cX4_overlap 34 = .ok (.iload 5, 2) := by decide +kernel
theorem dX4_overlap_36 : decode cX4_overlap 36 = .ok (.ireturn, 1) := by decide +kernel
theorem dX4_overlap_37 : decode cX4_overlap 37 = .ok (.aload_n 0, 1) := by decide +kernel
theorem dX4_overlap_38 : decode cX4_overlap 38 = .ok (.iload_n 1, 1) := by decide +kernel
theorem dX4_overlap_39 : decode cX4_overlap 39 = .ok (.aload_n 0, 1) := by decide +kernel
theorem dX4_overlap_40 : decode cX4_overlap 40 = .ok (.getfield 19, 3) := by decide +kernel
theorem dX4_overlap_43 : decode cX4_overlap 43 = .ok (.invokevirtual 105, 3) := by decide +kernel
theorem dX4_overlap_46 : decode cX4_overlap 46 = .ok (.istore 6, 2) := by decide +kernel
theorem dX4_overlap_48 : decode cX4_overlap 48 = .ok (.aload_n 0, 1) := by decide +kernel
theorem dX4_overlap_49 : decode cX4_overlap 49 = .ok (.iload_n 2, 1) := by decide +kernel
theorem dX4_overlap_50 : decode cX4_overlap 50 = .ok (.aload_n 0, 1) := by decide +kernel
theorem dX4_overlap_51 : decode cX4_overlap 51 = .ok (.getfield 23, 3) := by decide +kernel
theorem dX4_overlap_54 : decode cX4_overlap 54 = .ok (.invokevirtual 105, 3) := by decide +kernel
theorem dX4_overlap_57 : decode cX4_overlap 57 = .ok (.istore 7, 2) := by decide +kernel
theorem dX4_overlap_59 : decode cX4_overlap 59 = .ok (.iload_n 3, 1) := by decide +kernel
theorem dX4_overlap_60 : decode cX4_overlap 60 = .ok (.iload 6, 2) := by decide +kernel
theorem dX4_overlap_62 : decode cX4_overlap 62 = .ok (.if_icmp .gt 23, 3) := by decide +kernel
theorem dX4_overlap_65 : decode cX4_overlap 65 = .ok (.iload_n 3, 1) := by decide +kernel
theorem dX4_overlap_66 : decode cX4_overlap 66 = .ok (.iload 7, 2) := by decide +kernel
theorem dX4_overlap_68 : decode cX4_overlap 68 = .ok (.if_icmp .gt 17, 3) := by decide +kernel
theorem dX4_overlap_71 : decode cX4_overlap 71 = .ok (.iload 6, 2) := by decide +kernel
theorem dX4_overlap_73 : decode cX4_overlap 73 = .ok (.iload 7, 2) := by decide +kernel
theorem dX4_overlap_75 : decode cX4_overlap 75 = .ok (.iadd, 1) := by decide +kernel
theorem dX4_overlap_76 : decode cX4_overlap 76 = .ok (.iconst 2, 1) := by decide +kernel
theorem dX4_overlap_77 : decode cX4_overlap 77 = .ok (.iload_n 3, 1) := by decide +kernel
theorem dX4_overlap_78 : decode cX4_overlap 78 = .ok (.imul, 1) := by decide +kernel
theorem dX4_overlap_79 : decode cX4_overlap 79 = .ok (.isub, 1) := by decide +kernel
theorem dX4_overlap_80 : decode cX4_overlap 80 = .ok (.bipush 8, 2) := by decide +kernel
theorem dX4_overlap_82 : decode cX4_overlap 82 = .ok (.if_icmp .le 6, 3) := by decide +kernel
theorem dX4_overlap_85 : decode cX4_overlap 85 = .ok (.bipush (-3), 2) := by decide +kernel
theorem dX4_overlap_87 : decode cX4_overlap 87 = .ok (.ireturn, 1) := by decide +kernel
theorem dX4_overlap_88 : decode cX4_overlap 88 = .ok (.aload_n 0, 1) := by decide +kernel
theorem dX4_overlap_89 : decode cX4_overlap 89 = .ok (.iload 6, 2) := by decide +kernel
theorem dX4_overlap_91 : decode cX4_overlap 91 = .ok (.iload 7, 2) := by decide +kernel
theorem dX4_overlap_93 : decode cX4_overlap 93 = .ok (.iload_n 3, 1) := by decide +kernel
theorem dX4_overlap_94 : decode cX4_overlap 94 = .ok (.invokevirtual 139, 3) := by decide +kernel
theorem dX4_overlap_97 : decode cX4_overlap 97 = .ok (.aload_n 0, 1) := by decide +kernel
theorem dX4_overlap_98 : decode cX4_overlap 98 = .ok (.iload 4, 2) := by decide +kernel
theorem dX4_overlap_100 : decode cX4_overlap 100 = .ok (.iload 6, 2) := by decide +kernel
theorem dX4_overlap_102 : decode cX4_overlap 102 = .ok (.iload 7, 2) := by decide +kernel
theorem dX4_overlap_104 : decode cX4_overlap 104 = .ok (.iadd, 1) := by decide +kernel
theorem dX4_overlap_105 : decode cX4_overlap 105 = .ok (.iconst 2, 1) := by decide +kernel
theorem dX4_overlap_106 : decode cX4_overlap 106 = .ok (.iload_n 3, 1) := by decide +kernel
theorem dX4_overlap_107 : decode cX4_overlap 107 = .ok (.imul, 1) := by decide +kernel
theorem dX4_overlap_108 : decode cX4_overlap 108 = .ok (.isub, 1) := by decide +kernel
theorem dX4_overlap_109 : decode cX4_overlap 109 = .ok (.invokevirtual 128, 3) := by decide +kernel
theorem dX4_overlap_112 : decode cX4_overlap 112 = .ok (.ireturn, 1) := by decide +kernel
theorem dX4_alike_0 : decode cX4_alike 0 = .ok (.aload_n 0, 1) := by decide +kernel
theorem dX4_alike_1 : decode cX4_alike 1 = .ok (.iload_n 1, 1) := by decide +kernel
theorem dX4_alike_2 : decode cX4_alike 2 = .ok (.iload_n 2, 1) := by decide +kernel
theorem dX4_alike_3 : decode cX4_alike 3 = .ok (.invokevirtual 95, 3) := by decide +kernel
theorem dX4_alike_6 : decode cX4_alike 6 = .ok (.istore_n 3, 1) := by decide +kernel
theorem dX4_alike_7 : decode cX4_alike 7 = .ok (.iload_n 3, 1) := by decide +kernel
theorem dX4_alike_8 : decode cX4_alike 8 = .ok (.ifCond .eq 5, 3) := by decide +kernel
theorem dX4_alike_11 : decode cX4_alike 11 = .ok (.iload_n 3, 1) := by decide +kernel
theorem dX4_alike_12 : decode cX4_alike 12 = .ok (.ireturn, 1) := by decide +kernel
theorem dX4_alike_13 : decode cX4_alike 13 = .ok (.aload_n 0, 1) := by decide +kernel
theorem dX4_alike_14 : decode cX4_alike 14 = .ok (.iload_n 1, 1) := by decide +kernel
theorem dX4_alike_15 : decode cX4_alike 15 = .ok (.aload_n 0, 1) := by decide +kernel
theorem dX4_alike_16 : decode cX4_alike 16 = .ok (.getfield 19, 3) := by decide +kernel
theorem dX4_alike_19 : decode cX4_alike 19 = .ok (.invokevirtual 105, 3) := by decide +kernel
theorem dX4_alike_22 : decode cX4_alike 22 = .ok (.istore 4, 2) := by decide +kernel
theorem dX4_alike_24 : decode cX4_alike 24 = .ok (.aload_n 0, 1) := by decide +kernel
theorem dX4_alike_25 : decode cX4_alike 25 = .ok (.iload_n 2, 1) := by decide +kernel
theorem dX4_alike_26 : decode cX4_alike 26 = .ok (.aload_n 0, 1) := by decide +kernel
theorem dX4_alike_27 : decode cX4_alike 27 = .ok (.getfield 23, 3) := by decide +kernel
theorem dX4_alike_30 : decode cX4_alike 30 = .ok (.invokevirtual 105, 3) := by decide +kernel
theorem dX4_alike_33 : decode cX4_alike 33 = .ok (.istore 5, 2) := by decide +kernel
theorem dX4_alike_35 : decode cX4_alike 35 = .ok (.iload 4, 2) := by decide +kernel
theorem dX4_alike_37 : decode cX4_alike 37 = .ok (.iload 5, 2) := by decide +kernel
theorem dX4_alike_39 : decode cX4_alike 39 = .ok (.if_icmp .ne 19, 3) := by decide +kernel
theorem dX4_alike_42 : decode cX4_alike 42 = .ok (.aload_n 0, 1) := by decide +kernel
theorem dX4_alike_43 : decode cX4_alike 43 = .ok (.getfield 19, 3) := by decide +kernel
theorem dX4_alike_46 : decode cX4_alike 46 = .ok (.aload_n 0, 1) := by decide +kernel
theorem dX4_alike_47 : decode cX4_alike 47 = .ok (.getfield 23, 3) := by decide +kernel
theorem dX4_alike_50 : decode cX4_alike 50 = .ok (.iload 5, 2) := by decide +kernel
theorem dX4_alike_52 : decode cX4_alike 52 = .ok (.invokestatic 142, 3) := by decide +kernel
theorem dX4_alike_55 : decode cX4_alike 55 = .ok (.goto 4, 3) := by decide +kernel
theorem dX4_alike_58 : decode cX4_alike 58 = .ok (.iconst 0, 1) := by decide +kernel
theorem dX4_alike_59 : decode cX4_alike 59 = .ok (.ireturn, 1) := by decide +kernel
theorem dX4_roots_0 : decode cX4_roots 0 = .ok (.aload_n 0, 1) := by decide +kernel
theorem dX4_roots_1 : decode cX4_roots 1 = .ok (.iload_n 1, 1) := by decide +kernel
theorem dX4_roots_2 : decode cX4_roots 2 = .ok (.iload_n 1, 1) := by decide +kernel
theorem dX4_roots_3 : decode cX4_roots 3 = .ok (.invokevirtual 146, 3) := by decide +kernel
theorem dX4_roots_6 : decode cX4_roots 6 = .ok (.istore_n 2, 1) := by decide +kernel
theorem dX4_roots_7 : decode cX4_roots 7 = .ok (.iload_n 2, 1) := by decide +kernel
theorem dX4_roots_8 : decode cX4_roots 8 = .ok (.ifCond .eq 7, 3) := by decide +kernel
theorem dX4_roots_11 : decode cX4_roots 11 = .ok (.iload_n 2, 1) := by decide +kernel
theorem dX4_roots_12 : decode cX4_roots 12 = .ok (.goto 8, 3) := by decide +kernel
theorem dX4_roots_15 : decode cX4_roots 15 = .ok (.aload_n 0, 1) := by decide +kernel
theorem dX4_roots_16 : decode cX4_roots 16 = .ok (.iload_n 1, 1) := by decide +kernel
theorem dX4_roots_17 : decode cX4_roots 17 = .ok (.invokevirtual 149, 3) := by decide +kernel
theorem dX4_roots_20 : decode cX4_roots 20 = .ok (.ireturn, 1) := by decide +kernel
theorem dX4_root_0 : decode cX4_root 0 = .ok (.iload_n 2, 1) := by decide +kernel
theorem dX4_root_1 : decode cX4_root 1 = .ok (.ifCond .ge 6, 3) := by decide +kernel
theorem dX4_root_4 : decode cX4_root 4 = .ok (.bipush (-2), 2) := by decide +kernel
theorem dX4_root_6 : decode cX4_root 6 = .ok (.ireturn, 1) := by decide +kernel
theorem dX4_root_7 : decode cX4_root 7 = .ok (.aload_n 0, 1) := by decide +kernel
theorem dX4_root_8 : decode cX4_root 8 = .ok (.iload_n 1, 1) := by decide +kernel
theorem dX4_root_9 : decode cX4_root 9 = .ok (.iload_n 1, 1) := by decide +kernel
theorem dX4_root_10 : decode cX4_root 10 = .ok (.invokevirtual 146, 3) := by decide +kernel
theorem dX4_root_13 : decode cX4_root 13 = .ok (.istore_n 3, 1) := by decide +kernel
theorem dX4_root_14 : decode cX4_root 14 = .ok (.iload_n 3, 1) := by decide +kernel
theorem dX4_root_15 : decode cX4_root 15 = .ok (.ifCond .eq 5, 3) := by decide +kernel
theorem dX4_root_18 : decode cX4_root 18 = .ok (.iload_n 3, 1) := by decide +kernel
theorem dX4_root_19 : decode cX4_root 19 = .ok (.ireturn, 1) := by decide +kernel
theorem dX4_root_20 : decode cX4_root 20 = .ok (.iload_n 2, 1) := by decide +kernel
theorem dX4_root_21 : decode cX4_root 21 = .ok (.aload_n 0, 1) := by decide +kernel
theorem dX4_root_22 : decode cX4_root 22 = .ok (.iload_n 1, 1) := by decide +kernel
theorem dX4_root_23 : decode cX4_root 23 = .ok (.invokevirtual 149, 3) := by decide +kernel
theorem dX4_root_26 : decode cX4_root 26 = .ok (.if_icmp .ge 12, 3) := by decide +kernel
theorem dX4_root_29 : decode cX4_root 29 = .ok (.aload_n 0, 1) := by decide +kernel
theorem dX4_root_30 : decode cX4_root 30 = .ok (.getfield 26, 3) := by decide +kernel
theorem dX4_root_33 : decode cX4_root 33 = .ok (.iload_n 2, 1) := by decide +kernel
theorem dX4_root_34 : decode cX4_root 34 = .ok (.iaload, 1) := by decide +kernel
theorem dX4_root_35 : decode cX4_root 35 = .ok (.goto 4, 3) := by decide +kernel
theorem dX4_root_38 : decode cX4_root 38 = .ok (.iconst (-1), 1) := by decide +kernel
theorem dX4_root_39 : decode cX4_root 39 = .ok (.ireturn, 1) := by decide +kernel
theorem dX4_common_0 : decode cX4_common 0 = .ok (.iload_n 3, 1) := by decide +kernel
theorem dX4_common_1 : decode cX4_common 1 = .ok (.invokestatic 46, 3) := by decide +kernel
theorem dX4_common_4 : decode cX4_common 4 = .ok (.ifCond .eq 6, 3) := by decide +kernel
theorem dX4_common_7 : decode cX4_common 7 = .ok (.bipush (-2), 2) := by decide +kernel
theorem dX4_common_9 : decode cX4_common 9 = .ok (.ireturn, 1) := by decide +kernel
theorem dX4_common_10 : decode cX4_common 10 = .ok (.aload_n 0, 1) := by decide +kernel
theorem dX4_common_11 : decode cX4_common 11 = .ok (.iload_n 1, 1) := by decide +kernel
theorem dX4_common_12 : decode cX4_common 12 = .ok (.iload_n 2, 1) := by decide +kernel
theorem dX4_common_13 : decode cX4_common 13 = .ok (.invokevirtual 146, 3) := by decide +kernel
theorem dX4_common_16 : decode cX4_common 16 = .ok (.istore 4, 2) := by decide +kernel
theorem dX4_common_18 : decode cX4_common 18 = .ok (.iload 4, 2) := by decide +kernel
theorem dX4_common_20 : decode cX4_common 20 = .ok (.ifCond .eq 6, 3) := by decide +kernel
theorem dX4_common_23 : decode cX4_common 23 = .ok (.iload 4, 2) := by decide +kernel
theorem dX4_common_25 : decode cX4_common 25 = .ok (.ireturn, 1) := by decide +kernel
theorem dX4_common_26 : decode cX4_common 26 = .ok (.aload_n 0, 1) := by decide +kernel
theorem dX4_common_27 : decode cX4_common 27 = .ok (.iload_n 1, 1) := by decide +kernel
theorem dX4_common_28 : decode cX4_common 28 = .ok (.aload_n 0, 1) := by decide +kernel
theorem dX4_common_29 : decode cX4_common 29 = .ok (.getfield 19, 3) := by decide +kernel
theorem dX4_common_32 : decode cX4_common 32 = .ok (.invokevirtual 105, 3) := by decide +kernel
theorem dX4_common_35 : decode cX4_common 35 = .ok (.istore 5, 2) := by decide +kernel
theorem dX4_common_37 : decode cX4_common 37 = .ok (.aload_n 0, 1) := by decide +kernel
theorem dX4_common_38 : decode cX4_common 38 = .ok (.iload_n 2, 1) := by decide +kernel
theorem dX4_common_39 : decode cX4_common 39 = .ok (.aload_n 0, 1) := by decide +kernel
theorem dX4_common_40 : decode cX4_common 40 = .ok (.getfield 23, 3) := by decide +kernel
theorem dX4_common_43 : decode cX4_common 43 = .ok (.invokevirtual 105, 3) := by decide +kernel
theorem dX4_common_46 : decode cX4_common 46 = .ok (.istore 6, 2) := by decide +kernel
theorem dX4_common_48 : decode cX4_common 48 = .ok (.aload_n 0, 1) := by decide +kernel
theorem dX4_common_49 : decode cX4_common 49 = .ok (.iload_n 3, 1) := by decide +kernel
theorem dX4_common_50 : decode cX4_common 50 = .ok (.aload_n 0, 1) := by decide +kernel
theorem dX4_common_51 : decode cX4_common 51 = .ok (.iload 5, 2) := by decide +kernel
theorem dX4_common_53 : decode cX4_common 53 = .ok (.iload 6, 2) := by decide +kernel
theorem dX4_common_55 : decode cX4_common 55 = .ok (.invokevirtual 152, 3) := by decide +kernel
theorem dX4_common_58 : decode cX4_common 58 = .ok (.invokevirtual 128, 3) := by decide +kernel
theorem dX4_common_61 : decode cX4_common 61 = .ok (.ireturn, 1) := by decide +kernel
theorem dX4_result_0 : decode cX4_result 0 = .ok (.aload_n 0, 1) := by decide +kernel
theorem dX4_result_1 : decode cX4_result 1 = .ok (.iload_n 1, 1) := by decide +kernel
theorem dX4_result_2 : decode cX4_result 2 = .ok (.iload_n 2, 1) := by decide +kernel
theorem dX4_result_3 : decode cX4_result 3 = .ok (.invokevirtual 95, 3) := by decide +kernel
theorem dX4_result_6 : decode cX4_result 6 = .ok (.istore_n 3, 1) := by decide +kernel
theorem dX4_result_7 : decode cX4_result 7 = .ok (.iload_n 3, 1) := by decide +kernel
theorem dX4_result_8 : decode cX4_result 8 = .ok (.ifCond .eq 5, 3) := by decide +kernel
theorem dX4_result_11 : decode cX4_result 11 = .ok (.iload_n 3, 1) := by decide +kernel
theorem dX4_result_12 : decode cX4_result 12 = .ok (.ireturn, 1) := by decide +kernel
theorem dX4_result_13 : decode cX4_result 13 = .ok (.aload_n 0, 1) := by decide +kernel
theorem dX4_result_14 : decode cX4_result 14 = .ok (.iload_n 1, 1) := by decide +kernel
theorem dX4_result_15 : decode cX4_result 15 = .ok (.aload_n 0, 1) := by decide +kernel
theorem dX4_result_16 : decode cX4_result 16 = .ok (.getfield 19, 3) := by decide +kernel
theorem dX4_result_19 : decode cX4_result 19 = .ok (.invokevirtual 105, 3) := by decide +kernel
theorem dX4_result_22 : decode cX4_result 22 = .ok (.istore 4, 2) := by decide +kernel
theorem dX4_result_24 : decode cX4_result 24 = .ok (.aload_n 0, 1) := by decide +kernel
theorem dX4_result_25 : decode cX4_result 25 = .ok (.iload_n 2, 1) := by decide +kernel
theorem dX4_result_26 : decode cX4_result 26 = .ok (.aload_n 0, 1) := by decide +kernel
theorem dX4_result_27 : decode cX4_result 27 = .ok (.getfield 23, 3) := by decide +kernel
theorem dX4_result_30 : decode cX4_result 30 = .ok (.invokevirtual 105, 3) := by decide +kernel
theorem dX4_result_33 : decode cX4_result 33 = .ok (.istore 5, 2) := by decide +kernel
theorem dX4_result_35 : decode cX4_result 35 = .ok (.iload 4, 2) := by decide +kernel
theorem dX4_result_37 : decode cX4_result 37 = .ok (.ifCond .eq 8, 3) := by decide +kernel
theorem dX4_result_40 : decode cX4_result 40 = .ok (.iload 5, 2) := by decide +kernel
theorem dX4_result_42 : decode cX4_result 42 = .ok (.ifCond .ne 6, 3) := by decide +kernel
theorem dX4_result_45 : decode cX4_result 45 = .ok (.bipush (-3), 2) := by decide +kernel
theorem dX4_result_47 : decode cX4_result 47 = .ok (.ireturn, 1) := by decide +kernel
theorem dX4_result_48 : decode cX4_result 48 = .ok (.aload_n 0, 1) := by decide +kernel
theorem dX4_result_49 : decode cX4_result 49 = .ok (.getfield 38, 3) := by decide +kernel
theorem dX4_result_52 : decode cX4_result 52 = .ok (.invokevirtual 155, 3) := by decide +kernel
theorem dX4_result_55 : decode cX4_result 55 = .ok (.aload_n 0, 1) := by decide +kernel
theorem dX4_result_56 : decode cX4_result 56 = .ok (.getfield 38, 3) := by decide +kernel
theorem dX4_result_59 : decode cX4_result 59 = .ok (.aload_n 0, 1) := by decide +kernel
theorem dX4_result_60 : decode cX4_result 60 = .ok (.getfield 19, 3) := by decide +kernel
theorem dX4_result_63 : decode cX4_result 63 = .ok (.iload 4, 2) := by decide +kernel
theorem dX4_result_65 : decode cX4_result 65 = .ok (.iconst 0, 1) := by decide +kernel
theorem dX4_result_66 : decode cX4_result 66 = .ok (.iload 5, 2) := by decide +kernel
theorem dX4_result_68 : decode cX4_result 68 = .ok (.invokevirtual 158, 3) := by decide +kernel
theorem dX4_result_71 : decode cX4_result 71 = .ok (.aload_n 0, 1) := by decide +kernel
theorem dX4_result_72 : decode cX4_result 72 = .ok (.getfield 38, 3) := by decide +kernel
theorem dX4_result_75 : decode cX4_result 75 = .ok (.aload_n 0, 1) := by decide +kernel
theorem dX4_result_76 : decode cX4_result 76 = .ok (.getfield 23, 3) := by decide +kernel
theorem dX4_result_79 : decode cX4_result 79 = .ok (.iload 5, 2) := by decide +kernel
theorem dX4_result_81 : decode cX4_result 81 = .ok (.iload 5, 2) := by decide +kernel
theorem dX4_result_83 : decode cX4_result 83 = .ok (.iload 4, 2) := by decide +kernel
theorem dX4_result_85 : decode cX4_result 85 = .ok (.invokevirtual 158, 3) := by decide +kernel
theorem dX4_result_88 : decode cX4_result 88 = .ok (.aload_n 0, 1) := by decide +kernel
theorem dX4_result_89 : decode cX4_result 89 = .ok (.getfield 38, 3) := by decide +kernel
theorem dX4_result_92 : decode cX4_result 92 = .ok (.iload 4, 2) := by decide +kernel
theorem dX4_result_94 : decode cX4_result 94 = .ok (.iload 5, 2) := by decide +kernel
theorem dX4_result_96 : decode cX4_result 96 = .ok (.iadd, 1) := by decide +kernel
theorem dX4_result_97 : decode cX4_result 97 = .ok (.invokevirtual 162, 3) := by decide +kernel
theorem dX4_result_100 : decode cX4_result 100 = .ok (.ireturn, 1) := by decide +kernel
theorem dX4_powers_0 : decode cX4_powers 0 = .ok (.iload 4, 2) := by decide +kernel
theorem dX4_powers_2 : decode cX4_powers 2 = .ok (.invokestatic 46, 3) := by decide +kernel
theorem dX4_powers_5 : decode cX4_powers 5 = .ok (.ifCond .ne 14, 3) := by decide +kernel
theorem dX4_powers_8 : decode cX4_powers 8 = .ok (.iload_n 3, 1) := by decide +kernel
theorem dX4_powers_9 : decode cX4_powers 9 = .ok (.iconst 1, 1) := by decide +kernel
theorem dX4_powers_10 : decode cX4_powers 10 = .ok (.if_icmp .lt 9, 3) := by decide +kernel
theorem dX4_powers_13 : decode cX4_powers 13 = .ok (.iload_n 3, 1) := by decide +kernel
theorem dX4_powers_14 : decode cX4_powers 14 = .ok (.bipush 9, 2) := by decide +kernel
theorem dX4_powers_16 : decode cX4_powers 16 = .ok (.if_icmp .le 6, 3) := by decide +kernel
theorem dX4_powers_19 : decode cX4_powers 19 = .ok (.bipush (-2), 2) := by decide +kernel
theorem dX4_powers_21 : decode cX4_powers 21 = .ok (.ireturn, 1) := by decide +kernel
theorem dX4_powers_22 : decode cX4_powers 22 = .ok (.aload_n 0, 1) := by decide +kernel
theorem dX4_powers_23 : decode cX4_powers 23 = .ok (.iload_n 1, 1) := by decide +kernel
theorem dX4_powers_24 : decode cX4_powers 24 = .ok (.iload_n 2, 1) := by decide +kernel
theorem dX4_powers_25 : decode cX4_powers 25 = .ok (.invokevirtual 61, 3) := by decide +kernel
theorem dX4_powers_28 : decode cX4_powers 28 = .ok (.istore 5, 2) := by decide +kernel
theorem dX4_powers_30 : decode cX4_powers 30 = .ok (.iload 5, 2) := by decide +kernel
theorem dX4_powers_32 : decode cX4_powers 32 = .ok (.ifCond .eq 6, 3) := by decide +kernel
theorem dX4_powers_35 : decode cX4_powers 35 = .ok (.iload 5, 2) := by decide +kernel
theorem dX4_powers_37 : decode cX4_powers 37 = .ok (.ireturn, 1) := by decide +kernel
theorem dX4_powers_38 : decode cX4_powers 38 = .ok (.aload_n 0, 1) := by decide +kernel
theorem dX4_powers_39 : decode cX4_powers 39 = .ok (.getfield 11, 3) := by decide +kernel
theorem dX4_powers_42 : decode cX4_powers 42 = .ok (.iload_n 1, 1) := by decide +kernel
theorem dX4_powers_43 : decode cX4_powers 43 = .ok (.aaload, 1) := by decide +kernel
theorem dX4_powers_44 : decode cX4_powers 44 = .ok (.invokevirtual 165, 3) := by decide +kernel
theorem dX4_powers_47 : decode cX4_powers 47 = .ok (.ifCond .eq 16, 3) := by decide +kernel
theorem dX4_powers_50 : decode cX4_powers 50 = .ok (.iload_n 3, 1) := by decide +kernel
theorem dX4_powers_51 : decode cX4_powers 51 = .ok (.aload_n 0, 1) := by decide +kernel
theorem dX4_powers_52 : decode cX4_powers 52 = .ok (.getfield 11, 3) := by decide +kernel
theorem dX4_powers_55 : decode cX4_powers 55 = .ok (.iload_n 1, 1) := by decide +kernel
theorem dX4_powers_56 : decode cX4_powers 56 = .ok (.aaload, 1) := by decide +kernel
theorem dX4_powers_57 : decode cX4_powers 57 = .ok (.getfield 65, 3) := by decide +kernel
theorem dX4_powers_60 : decode cX4_powers 60 = .ok (.if_icmp .le 6, 3) := by decide +kernel
theorem dX4_powers_63 : decode cX4_powers 63 = .ok (.bipush (-3), 2) := by decide +kernel
theorem dX4_powers_65 : decode cX4_powers 65 = .ok (.ireturn, 1) := by decide +kernel
theorem dX4_powers_66 : decode cX4_powers 66 = .ok (.aload_n 0, 1) := by decide +kernel
theorem dX4_powers_67 : decode cX4_powers 67 = .ok (.getfield 11, 3) := by decide +kernel
theorem dX4_powers_70 : decode cX4_powers 70 = .ok (.iload_n 2, 1) := by decide +kernel
theorem dX4_powers_71 : decode cX4_powers 71 = .ok (.aaload, 1) := by decide +kernel
theorem dX4_powers_72 : decode cX4_powers 72 = .ok (.getfield 65, 3) := by decide +kernel
theorem dX4_powers_75 : decode cX4_powers 75 = .ok (.iload_n 3, 1) := by decide +kernel
theorem dX4_powers_76 : decode cX4_powers 76 = .ok (.if_icmp .ge 9, 3) := by decide +kernel
theorem dX4_powers_79 : decode cX4_powers 79 = .ok (.aload_n 0, 1) := by decide +kernel
theorem dX4_powers_80 : decode cX4_powers 80 = .ok (.iconst 2, 1) := by decide +kernel
theorem dX4_powers_81 : decode cX4_powers 81 = .ok (.invokevirtual 53, 3) := by decide +kernel
theorem dX4_powers_84 : decode cX4_powers 84 = .ok (.ireturn, 1) := by decide +kernel
theorem dX4_powers_85 : decode cX4_powers 85 = .ok (.aload_n 0, 1) := by decide +kernel
theorem dX4_powers_86 : decode cX4_powers 86 = .ok (.iload_n 1, 1) := by decide +kernel
theorem dX4_powers_87 : decode cX4_powers 87 = .ok (.aload_n 0, 1) := by decide +kernel
theorem dX4_powers_88 : decode cX4_powers 88 = .ok (.getfield 19, 3) := by decide +kernel
theorem dX4_powers_91 : decode cX4_powers 91 = .ok (.invokevirtual 105, 3) := by decide +kernel
theorem dX4_powers_94 : decode cX4_powers 94 = .ok (.istore 6, 2) := by decide +kernel
theorem dX4_powers_96 : decode cX4_powers 96 = .ok (.aload_n 0, 1) := by decide +kernel
theorem dX4_powers_97 : decode cX4_powers 97 = .ok (.getfield 11, 3) := by decide +kernel
theorem dX4_powers_100 : decode cX4_powers 100 = .ok (.iload_n 2, 1) := by decide +kernel
theorem dX4_powers_101 : decode cX4_powers 101 = .ok (.aaload, 1) := by decide +kernel
theorem dX4_powers_102 : decode cX4_powers 102 = .ok (.iload_n 3, 1) := by decide +kernel
theorem dX4_powers_103 : decode cX4_powers 103 = .ok (.invokevirtual 169, 3) := by decide +kernel
theorem dX4_powers_106 : decode cX4_powers 106 = .ok (.ifCond .eq 19, 3) := by decide +kernel
theorem dX4_powers_109 : decode cX4_powers 109 = .ok (.aload_n 0, 1) := by decide +kernel
theorem dX4_powers_110 : decode cX4_powers 110 = .ok (.iload 6, 2) := by decide +kernel
theorem dX4_powers_112 : decode cX4_powers 112 = .ok (.aload_n 0, 1) := by decide +kernel
theorem dX4_powers_113 : decode cX4_powers 113 = .ok (.getfield 11, 3) := by decide +kernel
theorem dX4_powers_116 : decode cX4_powers 116 = .ok (.iload_n 2, 1) := by decide +kernel
theorem dX4_powers_117 : decode cX4_powers 117 = .ok (.aaload, 1) := by decide +kernel
theorem dX4_powers_118 : decode cX4_powers 118 = .ok (.iload_n 3, 1) := by decide +kernel
theorem dX4_powers_119 : decode cX4_powers 119 = .ok (.invokevirtual 172, 3) := by decide +kernel
theorem dX4_powers_122 : decode cX4_powers 122 = .ok (.ifCond .ne 6, 3) := by decide +kernel
theorem dX4_powers_125 : decode cX4_powers 125 = .ok (.bipush (-3), 2) := by decide +kernel
theorem dX4_powers_127 : decode cX4_powers 127 = .ok (.ireturn, 1) := by decide +kernel
theorem dX4_powers_128 : decode cX4_powers 128 = .ok (.aload_n 0, 1) := by decide +kernel
theorem dX4_powers_129 : decode cX4_powers 129 = .ok (.getfield 11, 3) := by decide +kernel
theorem dX4_powers_132 : decode cX4_powers 132 = .ok (.iload 4, 2) := by decide +kernel
theorem dX4_powers_134 : decode cX4_powers 134 = .ok (.aaload, 1) := by decide +kernel
theorem dX4_powers_135 : decode cX4_powers 135 = .ok (.aload_n 0, 1) := by decide +kernel
theorem dX4_powers_136 : decode cX4_powers 136 = .ok (.getfield 32, 3) := by decide +kernel
theorem dX4_powers_139 : decode cX4_powers 139 = .ok (.iload_n 3, 1) := by decide +kernel
theorem dX4_powers_140 : decode cX4_powers 140 = .ok (.invokevirtual 176, 3) := by decide +kernel
theorem dX4_powers_143 : decode cX4_powers 143 = .ok (.iload_n 3, 1) := by decide +kernel
theorem dX4_powers_144 : decode cX4_powers 144 = .ok (.ireturn, 1) := by decide +kernel
theorem dX4_build_0 : decode cX4_build 0 = .ok (.iload 5, 2) := by decide +kernel
theorem dX4_build_2 : decode cX4_build 2 = .ok (.invokestatic 46, 3) := by decide +kernel
theorem dX4_build_5 : decode cX4_build 5 = .ok (.ifCond .ne 25, 3) := by decide +kernel
theorem dX4_build_8 : decode cX4_build 8 = .ok (.iload_n 3, 1) := by decide +kernel
theorem dX4_build_9 : decode cX4_build 9 = .ok (.ifCond .lt 21, 3) := by decide +kernel
theorem dX4_build_12 : decode cX4_build 12 = .ok (.iload_n 3, 1) := by decide +kernel
theorem dX4_build_13 : decode cX4_build 13 = .ok (.bipush 12, 2) := by decide +kernel
theorem dX4_build_15 : decode cX4_build 15 = .ok (.if_icmp .gt 15, 3) := by decide +kernel
theorem dX4_build_18 : decode cX4_build 18 = .ok (.iload 4, 2) := by decide +kernel
theorem dX4_build_20 : decode cX4_build 20 = .ok (.ifCond .lt 10, 3) := by decide +kernel
theorem dX4_build_23 : decode cX4_build 23 = .ok (.iload 4, 2) := by decide +kernel
theorem dX4_build_25 : decode cX4_build 25 = .ok (.bipush 8, 2) := by decide +kernel
theorem dX4_build_27 : decode cX4_build 27 = .ok (.if_icmp .le 6, 3) := by decide +kernel
theorem dX4_build_30 : decode cX4_build 30 = .ok (.bipush (-2), 2) := by decide +kernel
theorem dX4_build_32 : decode cX4_build 32 = .ok (.ireturn, 1) := by decide +kernel
theorem dX4_build_33 : decode cX4_build 33 = .ok (.aload_n 0, 1) := by decide +kernel
theorem dX4_build_34 : decode cX4_build 34 = .ok (.iload_n 1, 1) := by decide +kernel
theorem dX4_build_35 : decode cX4_build 35 = .ok (.iload_n 2, 1) := by decide +kernel
theorem dX4_build_36 : decode cX4_build 36 = .ok (.invokevirtual 61, 3) := by decide +kernel
theorem dX4_build_39 : decode cX4_build 39 = .ok (.istore 6, 2) := by decide +kernel
theorem dX4_build_41 : decode cX4_build 41 = .ok (.iload 6, 2) := by decide +kernel
theorem dX4_build_43 : decode cX4_build 43 = .ok (.ifCond .eq 6, 3) := by decide +kernel
theorem dX4_build_46 : decode cX4_build 46 = .ok (.iload 6, 2) := by decide +kernel
theorem dX4_build_48 : decode cX4_build 48 = .ok (.ireturn, 1) := by decide +kernel
theorem dX4_build_49 : decode cX4_build 49 = .ok (.aload_n 0, 1) := by decide +kernel
theorem dX4_build_50 : decode cX4_build 50 = .ok (.getfield 11, 3) := by decide +kernel
theorem dX4_build_53 : decode cX4_build 53 = .ok (.iload_n 1, 1) := by decide +kernel
theorem dX4_build_54 : decode cX4_build 54 = .ok (.aaload, 1) := by decide +kernel
theorem dX4_build_55 : decode cX4_build 55 = .ok (.getfield 65, 3) := by decide +kernel
theorem dX4_build_58 : decode cX4_build 58 = .ok (.iload_n 3, 1) := by decide +kernel
theorem dX4_build_59 : decode cX4_build 59 = .ok (.if_icmp .lt 16, 3) := by decide +kernel
theorem dX4_build_62 : decode cX4_build 62 = .ok (.aload_n 0, 1) := by decide +kernel
theorem dX4_build_63 : decode cX4_build 63 = .ok (.getfield 11, 3) := by decide +kernel
theorem dX4_build_66 : decode cX4_build 66 = .ok (.iload_n 2, 1) := by decide +kernel
theorem dX4_build_67 : decode cX4_build 67 = .ok (.aaload, 1) := by decide +kernel
theorem dX4_build_68 : decode cX4_build 68 = .ok (.getfield 65, 3) := by decide +kernel
theorem dX4_build_71 : decode cX4_build 71 = .ok (.iload_n 3, 1) := by decide +kernel
theorem dX4_build_72 : decode cX4_build 72 = .ok (.if_icmp .ge 9, 3) := by decide +kernel
theorem dX4_build_75 : decode cX4_build 75 = .ok (.aload_n 0, 1) := by decide +kernel
theorem dX4_build_76 : decode cX4_build 76 = .ok (.iconst 2, 1) := by decide +kernel
theorem dX4_build_77 : decode cX4_build 77 = .ok (.invokevirtual 53, 3) := by decide +kernel
theorem dX4_build_80 : decode cX4_build 80 = .ok (.ireturn, 1) := by decide +kernel
theorem dX4_build_81 : decode cX4_build 81 = .ok (.aload_n 0, 1) := by decide +kernel
theorem dX4_build_82 : decode cX4_build 82 = .ok (.getfield 32, 3) := by decide +kernel
theorem dX4_build_85 : decode cX4_build 85 = .ok (.invokestatic 180, 3) := by decide +kernel
theorem dX4_build_88 : decode cX4_build 88 = .ok (.iconst 0, 1) := by decide +kernel
theorem dX4_build_89 : decode cX4_build 89 = .ok (.istore 7, 2) := by decide +kernel
theorem dX4_build_91 : decode cX4_build 91 = .ok (.iload 7, 2) := by decide +kernel
theorem dX4_build_93 : decode cX4_build 93 = .ok (.iload_n 3, 1) := by decide +kernel
theorem dX4_build_94 : decode cX4_build 94 = .ok (.if_icmp .ge 40, 3) := by decide +kernel
theorem dX4_build_97 : decode cX4_build 97 = .ok (.aload_n 0, 1) := by decide +kernel
theorem dX4_build_98 : decode cX4_build 98 = .ok (.getfield 32, 3) := by decide +kernel
theorem dX4_build_101 : decode cX4_build 101 = .ok (.iload 4, 2) := by decide +kernel
theorem dX4_build_103 : decode cX4_build 103 = .ok (.aload_n 0, 1) := by decide +kernel
theorem dX4_build_104 : decode cX4_build 104 = .ok (.getfield 11, 3) := by decide +kernel
theorem dX4_build_107 : decode cX4_build 107 = .ok (.iload_n 1, 1) := by decide +kernel
theorem dX4_build_108 : decode cX4_build 108 = .ok (.aaload, 1) := by decide +kernel
theorem dX4_build_109 : decode cX4_build 109 = .ok (.iload 7, 2) := by decide +kernel
theorem dX4_build_111 : decode cX4_build 111 = .ok (.invokevirtual 98, 3) := by decide +kernel
theorem dX4_build_114 : decode cX4_build 114 = .ok (.aload_n 0, 1) := by decide +kernel
theorem dX4_build_115 : decode cX4_build 115 = .ok (.getfield 11, 3) := by decide +kernel
theorem dX4_build_118 : decode cX4_build 118 = .ok (.iload_n 2, 1) := by decide +kernel
theorem dX4_build_119 : decode cX4_build 119 = .ok (.aaload, 1) := by decide +kernel
theorem dX4_build_120 : decode cX4_build 120 = .ok (.iload 7, 2) := by decide +kernel
theorem dX4_build_122 : decode cX4_build 122 = .ok (.invokevirtual 98, 3) := by decide +kernel
theorem dX4_build_125 : decode cX4_build 125 = .ok (.invokestatic 183, 3) := by decide +kernel
theorem dX4_build_128 : decode cX4_build 128 = .ok (.iinc 7 1, 3) := by decide +kernel
theorem dX4_build_131 : decode cX4_build 131 = .ok (.goto (-40), 3) := by decide +kernel
theorem dX4_build_134 : decode cX4_build 134 = .ok (.aload_n 0, 1) := by decide +kernel
theorem dX4_build_135 : decode cX4_build 135 = .ok (.iload 5, 2) := by decide +kernel
theorem dX4_build_137 : decode cX4_build 137 = .ok (.iload 4, 2) := by decide +kernel
theorem dX4_build_139 : decode cX4_build 139 = .ok (.invokevirtual 128, 3) := by decide +kernel
theorem dX4_build_142 : decode cX4_build 142 = .ok (.ireturn, 1) := by decide +kernel
theorem dX4_rank_0 : decode cX4_rank 0 = .ok (.iload_n 2, 1) := by decide +kernel
theorem dX4_rank_1 : decode cX4_rank 1 = .ok (.ifCond .ge 6, 3) := by decide +kernel
theorem dX4_rank_4 : decode cX4_rank 4 = .ok (.bipush (-2), 2) := by decide +kernel
theorem dX4_rank_6 : decode cX4_rank 6 = .ok (.ireturn, 1) := by decide +kernel
theorem dX4_rank_7 : decode cX4_rank 7 = .ok (.aload_n 0, 1) := by decide +kernel
theorem dX4_rank_8 : decode cX4_rank 8 = .ok (.iload_n 1, 1) := by decide +kernel
theorem dX4_rank_9 : decode cX4_rank 9 = .ok (.iload_n 1, 1) := by decide +kernel
theorem dX4_rank_10 : decode cX4_rank 10 = .ok (.invokevirtual 95, 3) := by decide +kernel
theorem dX4_rank_13 : decode cX4_rank 13 = .ok (.istore_n 3, 1) := by decide +kernel
theorem dX4_rank_14 : decode cX4_rank 14 = .ok (.iload_n 3, 1) := by decide +kernel
theorem dX4_rank_15 : decode cX4_rank 15 = .ok (.ifCond .eq 5, 3) := by decide +kernel
theorem dX4_rank_18 : decode cX4_rank 18 = .ok (.iload_n 3, 1) := by decide +kernel
theorem dX4_rank_19 : decode cX4_rank 19 = .ok (.ireturn, 1) := by decide +kernel
theorem dX4_rank_20 : decode cX4_rank 20 = .ok (.aload_n 0, 1) := by decide +kernel
theorem dX4_rank_21 : decode cX4_rank 21 = .ok (.iload_n 1, 1) := by decide +kernel
theorem dX4_rank_22 : decode cX4_rank 22 = .ok (.aload_n 0, 1) := by decide +kernel
theorem dX4_rank_23 : decode cX4_rank 23 = .ok (.getfield 19, 3) := by decide +kernel
theorem dX4_rank_26 : decode cX4_rank 26 = .ok (.invokevirtual 105, 3) := by decide +kernel
theorem dX4_rank_29 : decode cX4_rank 29 = .ok (.istore 4, 2) := by decide +kernel
theorem dX4_rank_31 : decode cX4_rank 31 = .ok (.iload_n 2, 1) := by decide +kernel
theorem dX4_rank_32 : decode cX4_rank 32 = .ok (.iload 4, 2) := by decide +kernel
theorem dX4_rank_34 : decode cX4_rank 34 = .ok (.if_icmp .le 6, 3) := by decide +kernel
theorem dX4_rank_37 : decode cX4_rank 37 = .ok (.bipush (-3), 2) := by decide +kernel
theorem dX4_rank_39 : decode cX4_rank 39 = .ok (.ireturn, 1) := by decide +kernel
theorem dX4_rank_40 : decode cX4_rank 40 = .ok (.aload_n 0, 1) := by decide +kernel
theorem dX4_rank_41 : decode cX4_rank 41 = .ok (.getfield 19, 3) := by decide +kernel
theorem dX4_rank_44 : decode cX4_rank 44 = .ok (.iload 4, 2) := by decide +kernel
theorem dX4_rank_46 : decode cX4_rank 46 = .ok (.invokestatic 186, 3) := by decide +kernel
theorem dX4_rank_49 : decode cX4_rank 49 = .ok (.aload_n 0, 1) := by decide +kernel
theorem dX4_rank_50 : decode cX4_rank 50 = .ok (.getfield 38, 3) := by decide +kernel
theorem dX4_rank_53 : decode cX4_rank 53 = .ok (.invokevirtual 155, 3) := by decide +kernel
theorem dX4_rank_56 : decode cX4_rank 56 = .ok (.aload_n 0, 1) := by decide +kernel
theorem dX4_rank_57 : decode cX4_rank 57 = .ok (.getfield 38, 3) := by decide +kernel
theorem dX4_rank_60 : decode cX4_rank 60 = .ok (.aload_n 0, 1) := by decide +kernel
theorem dX4_rank_61 : decode cX4_rank 61 = .ok (.getfield 19, 3) := by decide +kernel
theorem dX4_rank_64 : decode cX4_rank 64 = .ok (.iload 4, 2) := by decide +kernel
theorem dX4_rank_66 : decode cX4_rank 66 = .ok (.iload_n 2, 1) := by decide +kernel
theorem dX4_rank_67 : decode cX4_rank 67 = .ok (.invokevirtual 189, 3) := by decide +kernel
theorem dX4_rank_70 : decode cX4_rank 70 = .ok (.aload_n 0, 1) := by decide +kernel
theorem dX4_rank_71 : decode cX4_rank 71 = .ok (.getfield 38, 3) := by decide +kernel
theorem dX4_rank_74 : decode cX4_rank 74 = .ok (.iload_n 2, 1) := by decide +kernel
theorem dX4_rank_75 : decode cX4_rank 75 = .ok (.iconst 1, 1) := by decide +kernel
theorem dX4_rank_76 : decode cX4_rank 76 = .ok (.iadd, 1) := by decide +kernel
theorem dX4_rank_77 : decode cX4_rank 77 = .ok (.iload 4, 2) := by decide +kernel
theorem dX4_rank_79 : decode cX4_rank 79 = .ok (.iload_n 2, 1) := by decide +kernel
theorem dX4_rank_80 : decode cX4_rank 80 = .ok (.isub, 1) := by decide +kernel
theorem dX4_rank_81 : decode cX4_rank 81 = .ok (.iconst 1, 1) := by decide +kernel
theorem dX4_rank_82 : decode cX4_rank 82 = .ok (.iadd, 1) := by decide +kernel
theorem dX4_rank_83 : decode cX4_rank 83 = .ok (.iload 4, 2) := by decide +kernel
theorem dX4_rank_85 : decode cX4_rank 85 = .ok (.iload_n 2, 1) := by decide +kernel
theorem dX4_rank_86 : decode cX4_rank 86 = .ok (.isub, 1) := by decide +kernel
theorem dX4_rank_87 : decode cX4_rank 87 = .ok (.iconst 1, 1) := by decide +kernel
theorem dX4_rank_88 : decode cX4_rank 88 = .ok (.iadd, 1) := by decide +kernel
theorem dX4_rank_89 : decode cX4_rank 89 = .ok (.invokevirtual 193, 3) := by decide +kernel
theorem dX4_rank_92 : decode cX4_rank 92 = .ok (.ireturn, 1) := by decide +kernel
theorem dX4_leads_0 : decode cX4_leads 0 = .ok (.aload_n 0, 1) := by decide +kernel
theorem dX4_leads_1 : decode cX4_leads 1 = .ok (.iload_n 1, 1) := by decide +kernel
theorem dX4_leads_2 : decode cX4_leads 2 = .ok (.iload_n 2, 1) := by decide +kernel
theorem dX4_leads_3 : decode cX4_leads 3 = .ok (.iload_n 3, 1) := by decide +kernel
theorem dX4_leads_4 : decode cX4_leads 4 = .ok (.invokevirtual 196, 3) := by decide +kernel
theorem dX4_leads_7 : decode cX4_leads 7 = .ok (.istore 4, 2) := by decide +kernel
theorem dX4_leads_9 : decode cX4_leads 9 = .ok (.iload 4, 2) := by decide +kernel
theorem dX4_leads_11 : decode cX4_leads 11 = .ok (.ifCond .eq 6, 3) := by decide +kernel
theorem dX4_leads_14 : decode cX4_leads 14 = .ok (.iload 4, 2) := by decide +kernel
theorem dX4_leads_16 : decode cX4_leads 16 = .ok (.ireturn, 1) := by decide +kernel
theorem dX4_leads_17 : decode cX4_leads 17 = .ok (.aload_n 0, 1) := by decide +kernel
theorem dX4_leads_18 : decode cX4_leads 18 = .ok (.iload_n 1, 1) := by decide +kernel
theorem dX4_leads_19 : decode cX4_leads 19 = .ok (.iload_n 2, 1) := by decide +kernel
theorem dX4_leads_20 : decode cX4_leads 20 = .ok (.invokevirtual 199, 3) := by decide +kernel
theorem dX4_leads_23 : decode cX4_leads 23 = .ok (.istore 5, 2) := by decide +kernel
theorem dX4_leads_25 : decode cX4_leads 25 = .ok (.iload_n 3, 1) := by decide +kernel
theorem dX4_leads_26 : decode cX4_leads 26 = .ok (.invokestatic 202, 3) := by decide +kernel
theorem dX4_leads_29 : decode cX4_leads 29 = .ok (.istore 6, 2) := by decide +kernel
theorem dX4_leads_31 : decode cX4_leads 31 = .ok (.iconst 0, 1) := by decide +kernel
theorem dX4_leads_32 : decode cX4_leads 32 = .ok (.istore 7, 2) := by decide +kernel
theorem dX4_leads_34 : decode cX4_leads 34 = .ok (.iconst 0, 1) := by decide +kernel
theorem dX4_leads_35 : decode cX4_leads 35 = .ok (.istore 8, 2) := by decide +kernel
theorem dX4_leads_37 : decode cX4_leads 37 = .ok (.iload 8, 2) := by decide +kernel
theorem dX4_leads_39 : decode cX4_leads 39 = .ok (.iload 6, 2) := by decide +kernel
theorem dX4_leads_41 : decode cX4_leads 41 = .ok (.if_icmp .ge 24, 3) := by decide +kernel
theorem dX4_leads_44 : decode cX4_leads 44 = .ok (.aload_n 0, 1) := by decide +kernel
theorem dX4_leads_45 : decode cX4_leads 45 = .ok (.iload 5, 2) := by decide +kernel
theorem dX4_leads_47 : decode cX4_leads 47 = .ok (.iload_n 3, 1) := by decide +kernel
theorem dX4_leads_48 : decode cX4_leads 48 = .ok (.iload 8, 2) := by decide +kernel
theorem dX4_leads_50 : decode cX4_leads 50 = .ok (.invokevirtual 205, 3) := by decide +kernel
theorem dX4_leads_53 : decode cX4_leads 53 = .ok (.ifCond .eq 6, 3) := by decide +kernel
theorem dX4_leads_56 : decode cX4_leads 56 = .ok (.iinc 7 1, 3) := by decide +kernel
theorem dX4_leads_59 : decode cX4_leads 59 = .ok (.iinc 8 1, 3) := by decide +kernel
theorem dX4_leads_62 : decode cX4_leads 62 = .ok (.goto (-25), 3) := by decide +kernel
theorem dX4_leads_65 : decode cX4_leads 65 = .ok (.iload 7, 2) := by decide +kernel
theorem dX4_leads_67 : decode cX4_leads 67 = .ok (.ireturn, 1) := by decide +kernel
theorem dX4_lead_0 : decode cX4_lead 0 = .ok (.iload 4, 2) := by decide +kernel
theorem dX4_lead_2 : decode cX4_lead 2 = .ok (.ifCond .ge 6, 3) := by decide +kernel
theorem dX4_lead_5 : decode cX4_lead 5 = .ok (.bipush (-2), 2) := by decide +kernel
theorem dX4_lead_7 : decode cX4_lead 7 = .ok (.ireturn, 1) := by decide +kernel
theorem dX4_lead_8 : decode cX4_lead 8 = .ok (.aload_n 0, 1) := by decide +kernel
theorem dX4_lead_9 : decode cX4_lead 9 = .ok (.iload_n 1, 1) := by decide +kernel
theorem dX4_lead_10 : decode cX4_lead 10 = .ok (.iload_n 2, 1) := by decide +kernel
theorem dX4_lead_11 : decode cX4_lead 11 = .ok (.iload_n 3, 1) := by decide +kernel
theorem dX4_lead_12 : decode cX4_lead 12 = .ok (.invokevirtual 196, 3) := by decide +kernel
theorem dX4_lead_15 : decode cX4_lead 15 = .ok (.istore 5, 2) := by decide +kernel
theorem dX4_lead_17 : decode cX4_lead 17 = .ok (.iload 5, 2) := by decide +kernel
theorem dX4_lead_19 : decode cX4_lead 19 = .ok (.ifCond .eq 6, 3) := by decide +kernel
theorem dX4_lead_22 : decode cX4_lead 22 = .ok (.iload 5, 2) := by decide +kernel
theorem dX4_lead_24 : decode cX4_lead 24 = .ok (.ireturn, 1) := by decide +kernel
theorem dX4_lead_25 : decode cX4_lead 25 = .ok (.aload_n 0, 1) := by decide +kernel
theorem dX4_lead_26 : decode cX4_lead 26 = .ok (.iload_n 1, 1) := by decide +kernel
theorem dX4_lead_27 : decode cX4_lead 27 = .ok (.iload_n 2, 1) := by decide +kernel
theorem dX4_lead_28 : decode cX4_lead 28 = .ok (.invokevirtual 199, 3) := by decide +kernel
theorem dX4_lead_31 : decode cX4_lead 31 = .ok (.istore 6, 2) := by decide +kernel
theorem dX4_lead_33 : decode cX4_lead 33 = .ok (.iload_n 3, 1) := by decide +kernel
theorem dX4_lead_34 : decode cX4_lead 34 = .ok (.invokestatic 202, 3) := by decide +kernel
theorem dX4_lead_37 : decode cX4_lead 37 = .ok (.istore 7, 2) := by decide +kernel
theorem dX4_lead_39 : decode cX4_lead 39 = .ok (.iconst 0, 1) := by decide +kernel
theorem dX4_lead_40 : decode cX4_lead 40 = .ok (.istore 8, 2) := by decide +kernel
theorem dX4_lead_42 : decode cX4_lead 42 = .ok (.iconst 0, 1) := by decide +kernel
theorem dX4_lead_43 : decode cX4_lead 43 = .ok (.istore 9, 2) := by decide +kernel
theorem dX4_lead_45 : decode cX4_lead 45 = .ok (.iload 9, 2) := by decide +kernel
theorem dX4_lead_47 : decode cX4_lead 47 = .ok (.iload 7, 2) := by decide +kernel
theorem dX4_lead_49 : decode cX4_lead 49 = .ok (.if_icmp .ge 38, 3) := by decide +kernel
theorem dX4_lead_52 : decode cX4_lead 52 = .ok (.aload_n 0, 1) := by decide +kernel
theorem dX4_lead_53 : decode cX4_lead 53 = .ok (.iload 6, 2) := by decide +kernel
theorem dX4_lead_55 : decode cX4_lead 55 = .ok (.iload_n 3, 1) := by decide +kernel
theorem dX4_lead_56 : decode cX4_lead 56 = .ok (.iload 9, 2) := by decide +kernel
theorem dX4_lead_58 : decode cX4_lead 58 = .ok (.invokevirtual 205, 3) := by decide +kernel
theorem dX4_lead_61 : decode cX4_lead 61 = .ok (.ifCond .eq 20, 3) := by decide +kernel
theorem dX4_lead_64 : decode cX4_lead 64 = .ok (.iload 8, 2) := by decide +kernel
theorem dX4_lead_66 : decode cX4_lead 66 = .ok (.iload 4, 2) := by decide +kernel
theorem dX4_lead_68 : decode cX4_lead 68 = .ok (.if_icmp .ne 10, 3) := by decide +kernel
theorem dX4_lead_71 : decode cX4_lead 71 = .ok (.iload_n 3, 1) := by decide +kernel
theorem dX4_lead_72 : decode cX4_lead 72 = .ok (.iload 9, 2) := by decide +kernel
theorem dX4_lead_74 : decode cX4_lead 74 = .ok (.invokestatic 208, 3) := by decide +kernel
theorem dX4_lead_77 : decode cX4_lead 77 = .ok (.ireturn, 1) := by decide +kernel
theorem dX4_lead_78 : decode cX4_lead 78 = .ok (.iinc 8 1, 3) := by decide +kernel
theorem dX4_lead_81 : decode cX4_lead 81 = .ok (.iinc 9 1, 3) := by decide +kernel
theorem dX4_lead_84 : decode cX4_lead 84 = .ok (.goto (-39), 3) := by decide +kernel
theorem dX4_lead_87 : decode cX4_lead 87 = .ok (.iconst (-1), 1) := by decide +kernel
theorem dX4_lead_88 : decode cX4_lead 88 = .ok (.ireturn, 1) := by decide +kernel
theorem dX4_staying_0 : decode cX4_staying 0 = .ok (.iload_n 1, 1) := by decide +kernel
theorem dX4_staying_1 : decode cX4_staying 1 = .ok (.iconst 1, 1) := by decide +kernel
theorem dX4_staying_2 : decode cX4_staying 2 = .ok (.if_icmp .lt 30, 3) := by decide +kernel
theorem dX4_staying_5 : decode cX4_staying 5 = .ok (.iload_n 1, 1) := by decide +kernel
theorem dX4_staying_6 : decode cX4_staying 6 = .ok (.bipush 8, 2) := by decide +kernel
theorem dX4_staying_8 : decode cX4_staying 8 = .ok (.if_icmp .gt 24, 3) := by decide +kernel
theorem dX4_staying_11 : decode cX4_staying 11 = .ok (.iload_n 2, 1) := by decide +kernel
theorem dX4_staying_12 : decode cX4_staying 12 = .ok (.ifCond .lt 20, 3) := by decide +kernel
theorem dX4_staying_15 : decode cX4_staying 15 = .ok (.iload_n 2, 1) := by decide +kernel
theorem dX4_staying_16 : decode cX4_staying 16 = .ok (.bipush 8, 2) := by decide +kernel
theorem dX4_staying_18 : decode cX4_staying 18 = .ok (.if_icmp .gt 14, 3) := by decide +kernel
theorem dX4_staying_21 : decode cX4_staying 21 = .ok (.iload_n 3, 1) := by decide +kernel
theorem dX4_staying_22 : decode cX4_staying 22 = .ok (.ifCond .lt 10, 3) := by decide +kernel
theorem dX4_staying_25 : decode cX4_staying 25 = .ok (.iload_n 3, 1) := by decide +kernel
theorem dX4_staying_26 : decode cX4_staying 26 = .ok (.iload_n 1, 1) := by decide +kernel
theorem dX4_staying_27 : decode cX4_staying 27 = .ok (.iload_n 2, 1) := by decide +kernel
theorem dX4_staying_28 : decode cX4_staying 28 = .ok (.imul, 1) := by decide +kernel
theorem dX4_staying_29 : decode cX4_staying 29 = .ok (.if_icmp .le 6, 3) := by decide +kernel
theorem dX4_staying_32 : decode cX4_staying 32 = .ok (.bipush (-2), 2) := by decide +kernel
theorem dX4_staying_34 : decode cX4_staying 34 = .ok (.ireturn, 1) := by decide +kernel
theorem dX4_staying_35 : decode cX4_staying 35 = .ok (.iload_n 1, 1) := by decide +kernel
theorem dX4_staying_36 : decode cX4_staying 36 = .ok (.iload_n 2, 1) := by decide +kernel
theorem dX4_staying_37 : decode cX4_staying 37 = .ok (.imul, 1) := by decide +kernel
theorem dX4_staying_38 : decode cX4_staying 38 = .ok (.iload_n 3, 1) := by decide +kernel
theorem dX4_staying_39 : decode cX4_staying 39 = .ok (.isub, 1) := by decide +kernel
theorem dX4_staying_40 : decode cX4_staying 40 = .ok (.istore 4, 2) := by decide +kernel
theorem dX4_staying_42 : decode cX4_staying 42 = .ok (.iload 4, 2) := by decide +kernel
theorem dX4_staying_44 : decode cX4_staying 44 = .ok (.iconst 2, 1) := by decide +kernel
theorem dX4_staying_45 : decode cX4_staying 45 = .ok (.irem, 1) := by decide +kernel
theorem dX4_staying_46 : decode cX4_staying 46 = .ok (.ifCond .eq 5, 3) := by decide +kernel
theorem dX4_staying_49 : decode cX4_staying 49 = .ok (.iconst 0, 1) := by decide +kernel
theorem dX4_staying_50 : decode cX4_staying 50 = .ok (.ireturn, 1) := by decide +kernel
theorem dX4_staying_51 : decode cX4_staying 51 = .ok (.iload 4, 2) := by decide +kernel
theorem dX4_staying_53 : decode cX4_staying 53 = .ok (.iconst 2, 1) := by decide +kernel
theorem dX4_staying_54 : decode cX4_staying 54 = .ok (.idiv, 1) := by decide +kernel
theorem dX4_staying_55 : decode cX4_staying 55 = .ok (.istore 5, 2) := by decide +kernel
theorem dX4_staying_57 : decode cX4_staying 57 = .ok (.aload_n 0, 1) := by decide +kernel
theorem dX4_staying_58 : decode cX4_staying 58 = .ok (.iload_n 1, 1) := by decide +kernel
theorem dX4_staying_59 : decode cX4_staying 59 = .ok (.iload_n 2, 1) := by decide +kernel
theorem dX4_staying_60 : decode cX4_staying 60 = .ok (.iload 5, 2) := by decide +kernel
theorem dX4_staying_62 : decode cX4_staying 62 = .ok (.invokevirtual 211, 3) := by decide +kernel
theorem dX4_staying_65 : decode cX4_staying 65 = .ok (.aload_n 0, 1) := by decide +kernel
theorem dX4_staying_66 : decode cX4_staying 66 = .ok (.getfield 42, 3) := by decide +kernel
theorem dX4_staying_69 : decode cX4_staying 69 = .ok (.iload_n 2, 1) := by decide +kernel
theorem dX4_staying_70 : decode cX4_staying 70 = .ok (.bipush 33, 2) := by decide +kernel
theorem dX4_staying_72 : decode cX4_staying 72 = .ok (.imul, 1) := by decide +kernel
theorem dX4_staying_73 : decode cX4_staying 73 = .ok (.iload 5, 2) := by decide +kernel
theorem dX4_staying_75 : decode cX4_staying 75 = .ok (.iadd, 1) := by decide +kernel
theorem dX4_staying_76 : decode cX4_staying 76 = .ok (.iaload, 1) := by decide +kernel
theorem dX4_staying_77 : decode cX4_staying 77 = .ok (.istore 6, 2) := by decide +kernel
theorem dX4_staying_79 : decode cX4_staying 79 = .ok (.iload 5, 2) := by decide +kernel
theorem dX4_staying_81 : decode cX4_staying 81 = .ok (.ifCond .ne 8, 3) := by decide +kernel
theorem dX4_staying_84 : decode cX4_staying 84 = .ok (.iload 6, 2) := by decide +kernel
theorem dX4_staying_86 : decode cX4_staying 86 = .ok (.goto 20, 3) := by decide +kernel
theorem dX4_staying_89 : decode cX4_staying 89 = .ok (.iload 6, 2) := by decide +kernel
theorem dX4_staying_91 : decode cX4_staying 91 = .ok (.aload_n 0, 1) := by decide +kernel
theorem dX4_staying_92 : decode cX4_staying 92 = .ok (.getfield 42, 3) := by decide +kernel
theorem dX4_staying_95 : decode cX4_staying 95 = .ok (.iload_n 2, 1) := by decide +kernel
theorem dX4_staying_96 : decode cX4_staying 96 = .ok (.bipush 33, 2) := by decide +kernel
theorem dX4_staying_98 : decode cX4_staying 98 = .ok (.imul, 1) := by decide +kernel
theorem dX4_staying_99 : decode cX4_staying 99 = .ok (.iload 5, 2) := by decide +kernel
theorem dX4_staying_101 : decode cX4_staying 101 = .ok (.iadd, 1) := by decide +kernel
theorem dX4_staying_102 : decode cX4_staying 102 = .ok (.iconst 1, 1) := by decide +kernel
theorem dX4_staying_103 : decode cX4_staying 103 = .ok (.isub, 1) := by decide +kernel
theorem dX4_staying_104 : decode cX4_staying 104 = .ok (.iaload, 1) := by decide +kernel
theorem dX4_staying_105 : decode cX4_staying 105 = .ok (.isub, 1) := by decide +kernel
theorem dX4_staying_106 : decode cX4_staying 106 = .ok (.ireturn, 1) := by decide +kernel
theorem dX4_count_0 : decode cX4_count 0 = .ok (.iload_n 1, 1) := by decide +kernel
theorem dX4_count_1 : decode cX4_count 1 = .ok (.tableswitch 44 0 2 #[27, 33, 38], 27) := by decide +kernel
theorem dX4_count_28 : decode cX4_count 28 = .ok (.aload_n 0, 1) := by decide +kernel
theorem dX4_count_29 : decode cX4_count 29 = .ok (.iconst 0, 1) := by decide +kernel
theorem dX4_count_30 : decode cX4_count 30 = .ok (.invokevirtual 214, 3) := by decide +kernel
theorem dX4_count_33 : decode cX4_count 33 = .ok (.ireturn, 1) := by decide +kernel
theorem dX4_count_34 : decode cX4_count 34 = .ok (.aload_n 0, 1) := by decide +kernel
theorem dX4_count_35 : decode cX4_count 35 = .ok (.getfield 15, 3) := by decide +kernel
theorem dX4_count_38 : decode cX4_count 38 = .ok (.ireturn, 1) := by decide +kernel
theorem dX4_count_39 : decode cX4_count 39 = .ok (.aload_n 0, 1) := by decide +kernel
theorem dX4_count_40 : decode cX4_count 40 = .ok (.iconst 1, 1) := by decide +kernel
theorem dX4_count_41 : decode cX4_count 41 = .ok (.invokevirtual 214, 3) := by decide +kernel
theorem dX4_count_44 : decode cX4_count 44 = .ok (.ireturn, 1) := by decide +kernel
theorem dX4_count_45 : decode cX4_count 45 = .ok (.bipush (-2), 2) := by decide +kernel
theorem dX4_count_47 : decode cX4_count 47 = .ok (.ireturn, 1) := by decide +kernel
theorem dX4_digest_0 : decode cX4_digest 0 = .ok (.ldc2_w 218, 3) := by decide +kernel
theorem dX4_digest_3 : decode cX4_digest 3 = .ok (.lstore_n 1, 1) := by decide +kernel
theorem dX4_digest_4 : decode cX4_digest 4 = .ok (.ldc2_w 220, 3) := by decide +kernel
theorem dX4_digest_7 : decode cX4_digest 7 = .ok (.lload_n 1, 1) := by decide +kernel
theorem dX4_digest_8 : decode cX4_digest 8 = .ok (.lmul, 1) := by decide +kernel
theorem dX4_digest_9 : decode cX4_digest 9 = .ok (.aload_n 0, 1) := by decide +kernel
theorem dX4_digest_10 : decode cX4_digest 10 = .ok (.iconst 0, 1) := by decide +kernel
theorem dX4_digest_11 : decode cX4_digest 11 = .ok (.invokevirtual 214, 3) := by decide +kernel
theorem dX4_digest_14 : decode cX4_digest 14 = .ok (.i2l, 1) := by decide +kernel
theorem dX4_digest_15 : decode cX4_digest 15 = .ok (.ladd, 1) := by decide +kernel
theorem dX4_digest_16 : decode cX4_digest 16 = .ok (.lstore_n 1, 1) := by decide +kernel
theorem dX4_digest_17 : decode cX4_digest 17 = .ok (.ldc2_w 220, 3) := by decide +kernel
theorem dX4_digest_20 : decode cX4_digest 20 = .ok (.lload_n 1, 1) := by decide +kernel
theorem dX4_digest_21 : decode cX4_digest 21 = .ok (.lmul, 1) := by decide +kernel
theorem dX4_digest_22 : decode cX4_digest 22 = .ok (.aload_n 0, 1) := by decide +kernel
theorem dX4_digest_23 : decode cX4_digest 23 = .ok (.iconst 1, 1) := by decide +kernel
theorem dX4_digest_24 : decode cX4_digest 24 = .ok (.invokevirtual 214, 3) := by decide +kernel
theorem dX4_digest_27 : decode cX4_digest 27 = .ok (.i2l, 1) := by decide +kernel
theorem dX4_digest_28 : decode cX4_digest 28 = .ok (.ladd, 1) := by decide +kernel
theorem dX4_digest_29 : decode cX4_digest 29 = .ok (.lstore_n 1, 1) := by decide +kernel
theorem dX4_digest_30 : decode cX4_digest 30 = .ok (.iconst 0, 1) := by decide +kernel
theorem dX4_digest_31 : decode cX4_digest 31 = .ok (.istore_n 3, 1) := by decide +kernel
theorem dX4_digest_32 : decode cX4_digest 32 = .ok (.iload_n 3, 1) := by decide +kernel
theorem dX4_digest_33 : decode cX4_digest 33 = .ok (.bipush 10, 2) := by decide +kernel
theorem dX4_digest_35 : decode cX4_digest 35 = .ok (.if_icmp .ge 41, 3) := by decide +kernel
theorem dX4_digest_38 : decode cX4_digest 38 = .ok (.aload_n 0, 1) := by decide +kernel
theorem dX4_digest_39 : decode cX4_digest 39 = .ok (.getfield 11, 3) := by decide +kernel
theorem dX4_digest_42 : decode cX4_digest 42 = .ok (.iload_n 3, 1) := by decide +kernel
theorem dX4_digest_43 : decode cX4_digest 43 = .ok (.aaload, 1) := by decide +kernel
theorem dX4_digest_44 : decode cX4_digest 44 = .ok (.invokevirtual 165, 3) := by decide +kernel
theorem dX4_digest_47 : decode cX4_digest 47 = .ok (.ifCond .eq 23, 3) := by decide +kernel
theorem dX4_digest_50 : decode cX4_digest 50 = .ok (.ldc2_w 220, 3) := by decide +kernel
theorem dX4_digest_53 : decode cX4_digest 53 = .ok (.lload_n 1, 1) := by decide +kernel
theorem dX4_digest_54 : decode cX4_digest 54 = .ok (.lmul, 1) := by decide +kernel
theorem dX4_digest_55 : decode cX4_digest 55 = .ok (.iload_n 3, 1) := by decide +kernel
theorem dX4_digest_56 : decode cX4_digest 56 = .ok (.i2l, 1) := by decide +kernel
theorem dX4_digest_57 : decode cX4_digest 57 = .ok (.ladd, 1) := by decide +kernel
theorem dX4_digest_58 : decode cX4_digest 58 = .ok (.lstore_n 1, 1) := by decide +kernel
theorem dX4_digest_59 : decode cX4_digest 59 = .ok (.aload_n 0, 1) := by decide +kernel
theorem dX4_digest_60 : decode cX4_digest 60 = .ok (.getfield 11, 3) := by decide +kernel
theorem dX4_digest_63 : decode cX4_digest 63 = .ok (.iload_n 3, 1) := by decide +kernel
theorem dX4_digest_64 : decode cX4_digest 64 = .ok (.aaload, 1) := by decide +kernel
theorem dX4_digest_65 : decode cX4_digest 65 = .ok (.lload_n 1, 1) := by decide +kernel
theorem dX4_digest_66 : decode cX4_digest 66 = .ok (.invokevirtual 222, 3) := by decide +kernel
theorem dX4_digest_69 : decode cX4_digest 69 = .ok (.lstore_n 1, 1) := by decide +kernel
theorem dX4_digest_70 : decode cX4_digest 70 = .ok (.iinc 3 1, 3) := by decide +kernel
theorem dX4_digest_73 : decode cX4_digest 73 = .ok (.goto (-41), 3) := by decide +kernel
theorem dX4_digest_76 : decode cX4_digest 76 = .ok (.lload_n 1, 1) := by decide +kernel
theorem dX4_digest_77 : decode cX4_digest 77 = .ok (.lreturn, 1) := by decide +kernel
theorem dX4_noSheet_0 : decode cX4_noSheet 0 = .ok (.iload_n 0, 1) := by decide +kernel
theorem dX4_noSheet_1 : decode cX4_noSheet 1 = .ok (.ifCond .lt 9, 3) := by decide +kernel
theorem dX4_noSheet_4 : decode cX4_noSheet 4 = .ok (.iload_n 0, 1) := by decide +kernel
theorem dX4_noSheet_5 : decode cX4_noSheet 5 = .ok (.bipush 10, 2) := by decide +kernel
theorem dX4_noSheet_7 : decode cX4_noSheet 7 = .ok (.if_icmp .lt 7, 3) := by decide +kernel
theorem dX4_noSheet_10 : decode cX4_noSheet 10 = .ok (.iconst 1, 1) := by decide +kernel
theorem dX4_noSheet_11 : decode cX4_noSheet 11 = .ok (.goto 4, 3) := by decide +kernel
theorem dX4_noSheet_14 : decode cX4_noSheet 14 = .ok (.iconst 0, 1) := by decide +kernel
theorem dX4_noSheet_15 : decode cX4_noSheet 15 = .ok (.ireturn, 1) := by decide +kernel
theorem dX4_noKind_0 : decode cX4_noKind 0 = .ok (.iload_n 0, 1) := by decide +kernel
theorem dX4_noKind_1 : decode cX4_noKind 1 = .ok (.ifCond .lt 8, 3) := by decide +kernel
theorem dX4_noKind_4 : decode cX4_noKind 4 = .ok (.iload_n 0, 1) := by decide +kernel
theorem dX4_noKind_5 : decode cX4_noKind 5 = .ok (.iconst 2, 1) := by decide +kernel
theorem dX4_noKind_6 : decode cX4_noKind 6 = .ok (.if_icmp .le 7, 3) := by decide +kernel
theorem dX4_noKind_9 : decode cX4_noKind 9 = .ok (.iconst 1, 1) := by decide +kernel
theorem dX4_noKind_10 : decode cX4_noKind 10 = .ok (.goto 4, 3) := by decide +kernel
theorem dX4_noKind_13 : decode cX4_noKind 13 = .ok (.iconst 0, 1) := by decide +kernel
theorem dX4_noKind_14 : decode cX4_noKind 14 = .ok (.ireturn, 1) := by decide +kernel
theorem dX4_found_0 : decode cX4_found 0 = .ok (.aload_n 0, 1) := by decide +kernel
theorem dX4_found_1 : decode cX4_found 1 = .ok (.iload_n 1, 1) := by decide +kernel
theorem dX4_found_2 : decode cX4_found 2 = .ok (.putfield 15, 3) := by decide +kernel
theorem dX4_found_5 : decode cX4_found 5 = .ok (.bipush (-10), 2) := by decide +kernel
theorem dX4_found_7 : decode cX4_found 7 = .ok (.iload_n 1, 1) := by decide +kernel
theorem dX4_found_8 : decode cX4_found 8 = .ok (.isub, 1) := by decide +kernel
theorem dX4_found_9 : decode cX4_found 9 = .ok (.ireturn, 1) := by decide +kernel
theorem dX4_refuseSheets_0 : decode cX4_refuseSheets 0 = .ok (.iload_n 1, 1) := by decide +kernel
theorem dX4_refuseSheets_1 : decode cX4_refuseSheets 1 = .ok (.invokestatic 46, 3) := by decide +kernel
theorem dX4_refuseSheets_4 : decode cX4_refuseSheets 4 = .ok (.ifCond .ne 10, 3) := by decide +kernel
theorem dX4_refuseSheets_7 : decode cX4_refuseSheets 7 = .ok (.iload_n 2, 1) := by decide +kernel
theorem dX4_refuseSheets_8 : decode cX4_refuseSheets 8 = .ok (.invokestatic 46, 3) := by decide +kernel
theorem dX4_refuseSheets_11 : decode cX4_refuseSheets 11 = .ok (.ifCond .eq 6, 3) := by decide +kernel
theorem dX4_refuseSheets_14 : decode cX4_refuseSheets 14 = .ok (.bipush (-2), 2) := by decide +kernel
theorem dX4_refuseSheets_16 : decode cX4_refuseSheets 16 = .ok (.ireturn, 1) := by decide +kernel
theorem dX4_refuseSheets_17 : decode cX4_refuseSheets 17 = .ok (.aload_n 0, 1) := by decide +kernel
theorem dX4_refuseSheets_18 : decode cX4_refuseSheets 18 = .ok (.getfield 11, 3) := by decide +kernel
theorem dX4_refuseSheets_21 : decode cX4_refuseSheets 21 = .ok (.iload_n 1, 1) := by decide +kernel
theorem dX4_refuseSheets_22 : decode cX4_refuseSheets 22 = .ok (.aaload, 1) := by decide +kernel
theorem dX4_refuseSheets_23 : decode cX4_refuseSheets 23 = .ok (.invokevirtual 226, 3) := by decide +kernel
theorem dX4_refuseSheets_26 : decode cX4_refuseSheets 26 = .ok (.ifCond .ne 15, 3) := by decide +kernel
theorem dX4_refuseSheets_29 : decode cX4_refuseSheets 29 = .ok (.aload_n 0, 1) := by decide +kernel
theorem dX4_refuseSheets_30 : decode cX4_refuseSheets 30 = .ok (.getfield 11, 3) := by decide +kernel
theorem dX4_refuseSheets_33 : decode cX4_refuseSheets 33 = .ok (.iload_n 2, 1) := by decide +kernel
theorem dX4_refuseSheets_34 : decode cX4_refuseSheets 34 = .ok (.aaload, 1) := by decide +kernel
theorem dX4_refuseSheets_35 : decode cX4_refuseSheets 35 = .ok (.invokevirtual 226, 3) := by decide +kernel
theorem dX4_refuseSheets_38 : decode cX4_refuseSheets 38 = .ok (.ifCond .eq 11, 3) := by decide +kernel
theorem dX4_refuseSheets_41 : decode cX4_refuseSheets 41 = .ok (.aload_n 0, 1) := by decide +kernel
theorem dX4_refuseSheets_42 : decode cX4_refuseSheets 42 = .ok (.iconst 1, 1) := by decide +kernel
theorem dX4_refuseSheets_43 : decode cX4_refuseSheets 43 = .ok (.invokevirtual 53, 3) := by decide +kernel
theorem dX4_refuseSheets_46 : decode cX4_refuseSheets 46 = .ok (.goto 4, 3) := by decide +kernel
theorem dX4_refuseSheets_49 : decode cX4_refuseSheets 49 = .ok (.iconst 0, 1) := by decide +kernel
theorem dX4_refuseSheets_50 : decode cX4_refuseSheets 50 = .ok (.ireturn, 1) := by decide +kernel
theorem dX4_refuseItem_0 : decode cX4_refuseItem 0 = .ok (.iload_n 2, 1) := by decide +kernel
theorem dX4_refuseItem_1 : decode cX4_refuseItem 1 = .ok (.invokestatic 50, 3) := by decide +kernel
theorem dX4_refuseItem_4 : decode cX4_refuseItem 4 = .ok (.ifCond .eq 6, 3) := by decide +kernel
theorem dX4_refuseItem_7 : decode cX4_refuseItem 7 = .ok (.bipush (-2), 2) := by decide +kernel
theorem dX4_refuseItem_9 : decode cX4_refuseItem 9 = .ok (.ireturn, 1) := by decide +kernel
theorem dX4_refuseItem_10 : decode cX4_refuseItem 10 = .ok (.aload_n 0, 1) := by decide +kernel
theorem dX4_refuseItem_11 : decode cX4_refuseItem 11 = .ok (.iload_n 1, 1) := by decide +kernel
theorem dX4_refuseItem_12 : decode cX4_refuseItem 12 = .ok (.iload_n 1, 1) := by decide +kernel
theorem dX4_refuseItem_13 : decode cX4_refuseItem 13 = .ok (.invokevirtual 61, 3) := by decide +kernel
theorem dX4_refuseItem_16 : decode cX4_refuseItem 16 = .ok (.istore 4, 2) := by decide +kernel
theorem dX4_refuseItem_18 : decode cX4_refuseItem 18 = .ok (.iload 4, 2) := by decide +kernel
theorem dX4_refuseItem_20 : decode cX4_refuseItem 20 = .ok (.ifCond .eq 6, 3) := by decide +kernel
theorem dX4_refuseItem_23 : decode cX4_refuseItem 23 = .ok (.iload 4, 2) := by decide +kernel
theorem dX4_refuseItem_25 : decode cX4_refuseItem 25 = .ok (.ireturn, 1) := by decide +kernel
theorem dX4_refuseItem_26 : decode cX4_refuseItem 26 = .ok (.aload_n 0, 1) := by decide +kernel
theorem dX4_refuseItem_27 : decode cX4_refuseItem 27 = .ok (.getfield 11, 3) := by decide +kernel
theorem dX4_refuseItem_30 : decode cX4_refuseItem 30 = .ok (.iload_n 1, 1) := by decide +kernel
theorem dX4_refuseItem_31 : decode cX4_refuseItem 31 = .ok (.aaload, 1) := by decide +kernel
theorem dX4_refuseItem_32 : decode cX4_refuseItem 32 = .ok (.getfield 82, 3) := by decide +kernel
theorem dX4_refuseItem_35 : decode cX4_refuseItem 35 = .ok (.iload_n 2, 1) := by decide +kernel
theorem dX4_refuseItem_36 : decode cX4_refuseItem 36 = .ok (.if_icmp .eq 9, 3) := by decide +kernel
theorem dX4_refuseItem_39 : decode cX4_refuseItem 39 = .ok (.aload_n 0, 1) := by decide +kernel
theorem dX4_refuseItem_40 : decode cX4_refuseItem 40 = .ok (.iconst 3, 1) := by decide +kernel
theorem dX4_refuseItem_41 : decode cX4_refuseItem 41 = .ok (.invokevirtual 53, 3) := by decide +kernel
theorem dX4_refuseItem_44 : decode cX4_refuseItem 44 = .ok (.ireturn, 1) := by decide +kernel
theorem dX4_refuseItem_45 : decode cX4_refuseItem 45 = .ok (.aload_n 0, 1) := by decide +kernel
theorem dX4_refuseItem_46 : decode cX4_refuseItem 46 = .ok (.getfield 11, 3) := by decide +kernel
theorem dX4_refuseItem_49 : decode cX4_refuseItem 49 = .ok (.iload_n 1, 1) := by decide +kernel
theorem dX4_refuseItem_50 : decode cX4_refuseItem 50 = .ok (.aaload, 1) := by decide +kernel
theorem dX4_refuseItem_51 : decode cX4_refuseItem 51 = .ok (.iload_n 3, 1) := by decide +kernel
theorem dX4_refuseItem_52 : decode cX4_refuseItem 52 = .ok (.iconst 1, 1) := by decide +kernel
theorem dX4_refuseItem_53 : decode cX4_refuseItem 53 = .ok (.invokevirtual 85, 3) := by decide +kernel
theorem dX4_refuseItem_56 : decode cX4_refuseItem 56 = .ok (.ifCond .eq 7, 3) := by decide +kernel
theorem dX4_refuseItem_59 : decode cX4_refuseItem 59 = .ok (.iconst 0, 1) := by decide +kernel
theorem dX4_refuseItem_60 : decode cX4_refuseItem 60 = .ok (.goto 8, 3) := by decide +kernel
theorem dX4_refuseItem_63 : decode cX4_refuseItem 63 = .ok (.aload_n 0, 1) := by decide +kernel
theorem dX4_refuseItem_64 : decode cX4_refuseItem 64 = .ok (.iconst 2, 1) := by decide +kernel
theorem dX4_refuseItem_65 : decode cX4_refuseItem 65 = .ok (.invokevirtual 53, 3) := by decide +kernel
theorem dX4_refuseItem_68 : decode cX4_refuseItem 68 = .ok (.ireturn, 1) := by decide +kernel
theorem dX4_refuseForms_0 : decode cX4_refuseForms 0 = .ok (.aload_n 0, 1) := by decide +kernel
theorem dX4_refuseForms_1 : decode cX4_refuseForms 1 = .ok (.iload_n 1, 1) := by decide +kernel
theorem dX4_refuseForms_2 : decode cX4_refuseForms 2 = .ok (.iload_n 2, 1) := by decide +kernel
theorem dX4_refuseForms_3 : decode cX4_refuseForms 3 = .ok (.invokevirtual 61, 3) := by decide +kernel
theorem dX4_refuseForms_6 : decode cX4_refuseForms 6 = .ok (.istore_n 3, 1) := by decide +kernel
theorem dX4_refuseForms_7 : decode cX4_refuseForms 7 = .ok (.iload_n 3, 1) := by decide +kernel
theorem dX4_refuseForms_8 : decode cX4_refuseForms 8 = .ok (.ifCond .eq 5, 3) := by decide +kernel
theorem dX4_refuseForms_11 : decode cX4_refuseForms 11 = .ok (.iload_n 3, 1) := by decide +kernel
theorem dX4_refuseForms_12 : decode cX4_refuseForms 12 = .ok (.ireturn, 1) := by decide +kernel
theorem dX4_refuseForms_13 : decode cX4_refuseForms 13 = .ok (.aload_n 0, 1) := by decide +kernel
theorem dX4_refuseForms_14 : decode cX4_refuseForms 14 = .ok (.getfield 11, 3) := by decide +kernel
theorem dX4_refuseForms_17 : decode cX4_refuseForms 17 = .ok (.iload_n 1, 1) := by decide +kernel
theorem dX4_refuseForms_18 : decode cX4_refuseForms 18 = .ok (.aaload, 1) := by decide +kernel
theorem dX4_refuseForms_19 : decode cX4_refuseForms 19 = .ok (.invokevirtual 165, 3) := by decide +kernel
theorem dX4_refuseForms_22 : decode cX4_refuseForms 22 = .ok (.ifCond .eq 19, 3) := by decide +kernel
theorem dX4_refuseForms_25 : decode cX4_refuseForms 25 = .ok (.aload_n 0, 1) := by decide +kernel
theorem dX4_refuseForms_26 : decode cX4_refuseForms 26 = .ok (.getfield 11, 3) := by decide +kernel
theorem dX4_refuseForms_29 : decode cX4_refuseForms 29 = .ok (.iload_n 2, 1) := by decide +kernel
theorem dX4_refuseForms_30 : decode cX4_refuseForms 30 = .ok (.aaload, 1) := by decide +kernel
theorem dX4_refuseForms_31 : decode cX4_refuseForms 31 = .ok (.invokevirtual 165, 3) := by decide +kernel
theorem dX4_refuseForms_34 : decode cX4_refuseForms 34 = .ok (.ifCond .eq 7, 3) := by decide +kernel
theorem dX4_refuseForms_37 : decode cX4_refuseForms 37 = .ok (.iconst 0, 1) := by decide +kernel
theorem dX4_refuseForms_38 : decode cX4_refuseForms 38 = .ok (.goto 5, 3) := by decide +kernel
theorem dX4_refuseForms_41 : decode cX4_refuseForms 41 = .ok (.bipush (-3), 2) := by decide +kernel
theorem dX4_refuseForms_43 : decode cX4_refuseForms 43 = .ok (.ireturn, 1) := by decide +kernel
theorem dX4_refuseRoots_0 : decode cX4_refuseRoots 0 = .ok (.aload_n 0, 1) := by decide +kernel
theorem dX4_refuseRoots_1 : decode cX4_refuseRoots 1 = .ok (.iload_n 1, 1) := by decide +kernel
theorem dX4_refuseRoots_2 : decode cX4_refuseRoots 2 = .ok (.iload_n 2, 1) := by decide +kernel
theorem dX4_refuseRoots_3 : decode cX4_refuseRoots 3 = .ok (.invokevirtual 95, 3) := by decide +kernel
theorem dX4_refuseRoots_6 : decode cX4_refuseRoots 6 = .ok (.istore_n 3, 1) := by decide +kernel
theorem dX4_refuseRoots_7 : decode cX4_refuseRoots 7 = .ok (.iload_n 3, 1) := by decide +kernel
theorem dX4_refuseRoots_8 : decode cX4_refuseRoots 8 = .ok (.ifCond .eq 5, 3) := by decide +kernel
theorem dX4_refuseRoots_11 : decode cX4_refuseRoots 11 = .ok (.iload_n 3, 1) := by decide +kernel
theorem dX4_refuseRoots_12 : decode cX4_refuseRoots 12 = .ok (.ireturn, 1) := by decide +kernel
theorem dX4_refuseRoots_13 : decode cX4_refuseRoots 13 = .ok (.aload_n 0, 1) := by decide +kernel
theorem dX4_refuseRoots_14 : decode cX4_refuseRoots 14 = .ok (.getfield 11, 3) := by decide +kernel
theorem dX4_refuseRoots_17 : decode cX4_refuseRoots 17 = .ok (.iload_n 1, 1) := by decide +kernel
theorem dX4_refuseRoots_18 : decode cX4_refuseRoots 18 = .ok (.aaload, 1) := by decide +kernel
theorem dX4_refuseRoots_19 : decode cX4_refuseRoots 19 = .ok (.invokevirtual 229, 3) := by decide +kernel
theorem dX4_refuseRoots_22 : decode cX4_refuseRoots 22 = .ok (.ifCond .ne 15, 3) := by decide +kernel
theorem dX4_refuseRoots_25 : decode cX4_refuseRoots 25 = .ok (.aload_n 0, 1) := by decide +kernel
theorem dX4_refuseRoots_26 : decode cX4_refuseRoots 26 = .ok (.getfield 11, 3) := by decide +kernel
theorem dX4_refuseRoots_29 : decode cX4_refuseRoots 29 = .ok (.iload_n 2, 1) := by decide +kernel
theorem dX4_refuseRoots_30 : decode cX4_refuseRoots 30 = .ok (.aaload, 1) := by decide +kernel
theorem dX4_refuseRoots_31 : decode cX4_refuseRoots 31 = .ok (.invokevirtual 229, 3) := by decide +kernel
theorem dX4_refuseRoots_34 : decode cX4_refuseRoots 34 = .ok (.ifCond .eq 8, 3) := by decide +kernel
theorem dX4_refuseRoots_37 : decode cX4_refuseRoots 37 = .ok (.bipush (-3), 2) := by decide +kernel
theorem dX4_refuseRoots_39 : decode cX4_refuseRoots 39 = .ok (.goto 4, 3) := by decide +kernel
theorem dX4_refuseRoots_42 : decode cX4_refuseRoots 42 = .ok (.iconst 0, 1) := by decide +kernel
theorem dX4_refuseRoots_43 : decode cX4_refuseRoots 43 = .ok (.ireturn, 1) := by decide +kernel
theorem dX4_refuseLeads_0 : decode cX4_refuseLeads 0 = .ok (.iload_n 3, 1) := by decide +kernel
theorem dX4_refuseLeads_1 : decode cX4_refuseLeads 1 = .ok (.iconst 1, 1) := by decide +kernel
theorem dX4_refuseLeads_2 : decode cX4_refuseLeads 2 = .ok (.if_icmp .lt 8, 3) := by decide +kernel
theorem dX4_refuseLeads_5 : decode cX4_refuseLeads 5 = .ok (.iload_n 3, 1) := by decide +kernel
theorem dX4_refuseLeads_6 : decode cX4_refuseLeads 6 = .ok (.iconst 2, 1) := by decide +kernel
end
section
theorem dX4_refuseLeads_7 : decode cX4_refuseLeads 7 = .ok (.if_icmp .le 6, 3) := by decide +kernel
theorem dX4_refuseLeads_10 : decode cX4_refuseLeads 10 = .ok (.bipush (-2), 2) := by decide +kernel
theorem dX4_refuseLeads_12 : decode cX4_refuseLeads 12 = .ok (.ireturn, 1) := by decide +kernel
theorem dX4_refuseLeads_13 : decode cX4_refuseLeads 13 = .ok (.aload_n 0, 1) := by decide +kernel
theorem dX4_refuseLeads_14 : decode cX4_refuseLeads 14 = .ok (.iload_n 1, 1) := by decide +kernel
theorem dX4_refuseLeads_15 : decode cX4_refuseLeads 15 = .ok (.iload_n 2, 1) := by decide +kernel
theorem dX4_refuseLeads_16 : decode cX4_refuseLeads 16 = .ok (.invokevirtual 95, 3) := by decide +kernel
theorem dX4_refuseLeads_19 : decode cX4_refuseLeads 19 = .ok (.istore 4, 2) := by decide +kernel
theorem dX4_refuseLeads_21 : decode cX4_refuseLeads 21 = .ok (.iload 4, 2) := by decide +kernel
theorem dX4_refuseLeads_23 : decode cX4_refuseLeads 23 = .ok (.ifCond .eq 6, 3) := by decide +kernel
theorem dX4_refuseLeads_26 : decode cX4_refuseLeads 26 = .ok (.iload 4, 2) := by decide +kernel
theorem dX4_refuseLeads_28 : decode cX4_refuseLeads 28 = .ok (.ireturn, 1) := by decide +kernel
theorem dX4_refuseLeads_29 : decode cX4_refuseLeads 29 = .ok (.aload_n 0, 1) := by decide +kernel
theorem dX4_refuseLeads_30 : decode cX4_refuseLeads 30 = .ok (.getfield 11, 3) := by decide +kernel
theorem dX4_refuseLeads_33 : decode cX4_refuseLeads 33 = .ok (.iload_n 1, 1) := by decide +kernel
theorem dX4_refuseLeads_34 : decode cX4_refuseLeads 34 = .ok (.aaload, 1) := by decide +kernel
theorem dX4_refuseLeads_35 : decode cX4_refuseLeads 35 = .ok (.getfield 65, 3) := by decide +kernel
theorem dX4_refuseLeads_38 : decode cX4_refuseLeads 38 = .ok (.aload_n 0, 1) := by decide +kernel
theorem dX4_refuseLeads_39 : decode cX4_refuseLeads 39 = .ok (.getfield 11, 3) := by decide +kernel
theorem dX4_refuseLeads_42 : decode cX4_refuseLeads 42 = .ok (.iload_n 2, 1) := by decide +kernel
theorem dX4_refuseLeads_43 : decode cX4_refuseLeads 43 = .ok (.aaload, 1) := by decide +kernel
theorem dX4_refuseLeads_44 : decode cX4_refuseLeads 44 = .ok (.getfield 65, 3) := by decide +kernel
theorem dX4_refuseLeads_47 : decode cX4_refuseLeads 47 = .ok (.if_icmp .ne 7, 3) := by decide +kernel
theorem dX4_refuseLeads_50 : decode cX4_refuseLeads 50 = .ok (.iconst 0, 1) := by decide +kernel
theorem dX4_refuseLeads_51 : decode cX4_refuseLeads 51 = .ok (.goto 5, 3) := by decide +kernel
theorem dX4_refuseLeads_54 : decode cX4_refuseLeads 54 = .ok (.bipush (-3), 2) := by decide +kernel
theorem dX4_refuseLeads_56 : decode cX4_refuseLeads 56 = .ok (.ireturn, 1) := by decide +kernel
theorem dX4_load_0 : decode cX4_load 0 = .ok (.iconst 0, 1) := by decide +kernel
theorem dX4_load_1 : decode cX4_load 1 = .ok (.istore_n 3, 1) := by decide +kernel
theorem dX4_load_2 : decode cX4_load 2 = .ok (.iload_n 3, 1) := by decide +kernel
theorem dX4_load_3 : decode cX4_load 3 = .ok (.bipush 9, 2) := by decide +kernel
theorem dX4_load_5 : decode cX4_load 5 = .ok (.if_icmp .ge 22, 3) := by decide +kernel
theorem dX4_load_8 : decode cX4_load 8 = .ok (.aload_n 2, 1) := by decide +kernel
theorem dX4_load_9 : decode cX4_load 9 = .ok (.iload_n 3, 1) := by decide +kernel
theorem dX4_load_10 : decode cX4_load 10 = .ok (.aload_n 0, 1) := by decide +kernel
theorem dX4_load_11 : decode cX4_load 11 = .ok (.getfield 11, 3) := by decide +kernel
theorem dX4_load_14 : decode cX4_load 14 = .ok (.iload_n 1, 1) := by decide +kernel
theorem dX4_load_15 : decode cX4_load 15 = .ok (.aaload, 1) := by decide +kernel
theorem dX4_load_16 : decode cX4_load 16 = .ok (.iload_n 3, 1) := by decide +kernel
theorem dX4_load_17 : decode cX4_load 17 = .ok (.invokevirtual 98, 3) := by decide +kernel
theorem dX4_load_20 : decode cX4_load 20 = .ok (.iastore, 1) := by decide +kernel
theorem dX4_load_21 : decode cX4_load 21 = .ok (.iinc 3 1, 3) := by decide +kernel
theorem dX4_load_24 : decode cX4_load 24 = .ok (.goto (-22), 3) := by decide +kernel
theorem dX4_load_27 : decode cX4_load 27 = .ok (.aload_n 0, 1) := by decide +kernel
theorem dX4_load_28 : decode cX4_load 28 = .ok (.getfield 11, 3) := by decide +kernel
theorem dX4_load_31 : decode cX4_load 31 = .ok (.iload_n 1, 1) := by decide +kernel
theorem dX4_load_32 : decode cX4_load 32 = .ok (.aaload, 1) := by decide +kernel
theorem dX4_load_33 : decode cX4_load 33 = .ok (.invokevirtual 101, 3) := by decide +kernel
theorem dX4_load_36 : decode cX4_load 36 = .ok (.ireturn, 1) := by decide +kernel
theorem dX4_keepForm_0 : decode cX4_keepForm 0 = .ok (.aload_n 0, 1) := by decide +kernel
theorem dX4_keepForm_1 : decode cX4_keepForm 1 = .ok (.getfield 11, 3) := by decide +kernel
theorem dX4_keepForm_4 : decode cX4_keepForm 4 = .ok (.iload_n 1, 1) := by decide +kernel
theorem dX4_keepForm_5 : decode cX4_keepForm 5 = .ok (.aaload, 1) := by decide +kernel
theorem dX4_keepForm_6 : decode cX4_keepForm 6 = .ok (.aload_n 0, 1) := by decide +kernel
theorem dX4_keepForm_7 : decode cX4_keepForm 7 = .ok (.getfield 32, 3) := by decide +kernel
theorem dX4_keepForm_10 : decode cX4_keepForm 10 = .ok (.iload_n 2, 1) := by decide +kernel
theorem dX4_keepForm_11 : decode cX4_keepForm 11 = .ok (.iconst 1, 1) := by decide +kernel
theorem dX4_keepForm_12 : decode cX4_keepForm 12 = .ok (.iadd, 1) := by decide +kernel
theorem dX4_keepForm_13 : decode cX4_keepForm 13 = .ok (.invokevirtual 176, 3) := by decide +kernel
theorem dX4_keepForm_16 : decode cX4_keepForm 16 = .ok (.iload_n 2, 1) := by decide +kernel
theorem dX4_keepForm_17 : decode cX4_keepForm 17 = .ok (.ireturn, 1) := by decide +kernel
theorem dX4_countSheets_0 : decode cX4_countSheets 0 = .ok (.iconst 0, 1) := by decide +kernel
theorem dX4_countSheets_1 : decode cX4_countSheets 1 = .ok (.istore_n 2, 1) := by decide +kernel
theorem dX4_countSheets_2 : decode cX4_countSheets 2 = .ok (.iconst 0, 1) := by decide +kernel
theorem dX4_countSheets_3 : decode cX4_countSheets 3 = .ok (.istore_n 3, 1) := by decide +kernel
theorem dX4_countSheets_4 : decode cX4_countSheets 4 = .ok (.iload_n 3, 1) := by decide +kernel
theorem dX4_countSheets_5 : decode cX4_countSheets 5 = .ok (.bipush 10, 2) := by decide +kernel
theorem dX4_countSheets_7 : decode cX4_countSheets 7 = .ok (.if_icmp .ge 43, 3) := by decide +kernel
theorem dX4_countSheets_10 : decode cX4_countSheets 10 = .ok (.iload_n 1, 1) := by decide +kernel
theorem dX4_countSheets_11 : decode cX4_countSheets 11 = .ok (.ifCond .eq 18, 3) := by decide +kernel
theorem dX4_countSheets_14 : decode cX4_countSheets 14 = .ok (.aload_n 0, 1) := by decide +kernel
theorem dX4_countSheets_15 : decode cX4_countSheets 15 = .ok (.getfield 11, 3) := by decide +kernel
theorem dX4_countSheets_18 : decode cX4_countSheets 18 = .ok (.iload_n 3, 1) := by decide +kernel
theorem dX4_countSheets_19 : decode cX4_countSheets 19 = .ok (.aaload, 1) := by decide +kernel
theorem dX4_countSheets_20 : decode cX4_countSheets 20 = .ok (.invokevirtual 165, 3) := by decide +kernel
theorem dX4_countSheets_23 : decode cX4_countSheets 23 = .ok (.ifCond .eq 21, 3) := by decide +kernel
theorem dX4_countSheets_26 : decode cX4_countSheets 26 = .ok (.goto 15, 3) := by decide +kernel
theorem dX4_countSheets_29 : decode cX4_countSheets 29 = .ok (.aload_n 0, 1) := by decide +kernel
theorem dX4_countSheets_30 : decode cX4_countSheets 30 = .ok (.getfield 11, 3) := by decide +kernel
theorem dX4_countSheets_33 : decode cX4_countSheets 33 = .ok (.iload_n 3, 1) := by decide +kernel
theorem dX4_countSheets_34 : decode cX4_countSheets 34 = .ok (.aaload, 1) := by decide +kernel
theorem dX4_countSheets_35 : decode cX4_countSheets 35 = .ok (.invokevirtual 226, 3) := by decide +kernel
theorem dX4_countSheets_38 : decode cX4_countSheets 38 = .ok (.ifCond .ne 6, 3) := by decide +kernel
theorem dX4_countSheets_41 : decode cX4_countSheets 41 = .ok (.iinc 2 1, 3) := by decide +kernel
theorem dX4_countSheets_44 : decode cX4_countSheets 44 = .ok (.iinc 3 1, 3) := by decide +kernel
theorem dX4_countSheets_47 : decode cX4_countSheets 47 = .ok (.goto (-43), 3) := by decide +kernel
theorem dX4_countSheets_50 : decode cX4_countSheets 50 = .ok (.iload_n 2, 1) := by decide +kernel
theorem dX4_countSheets_51 : decode cX4_countSheets 51 = .ok (.ireturn, 1) := by decide +kernel
theorem dX4_canJoin_0 : decode cX4_canJoin 0 = .ok (.iload_n 2, 1) := by decide +kernel
theorem dX4_canJoin_1 : decode cX4_canJoin 1 = .ok (.tableswitch 52 0 2 #[27, 27, 38], 27) := by decide +kernel
theorem dX4_canJoin_28 : decode cX4_canJoin 28 = .ok (.iload_n 0, 1) := by decide +kernel
theorem dX4_canJoin_29 : decode cX4_canJoin 29 = .ok (.iload_n 1, 1) := by decide +kernel
theorem dX4_canJoin_30 : decode cX4_canJoin 30 = .ok (.if_icmp .ne 7, 3) := by decide +kernel
theorem dX4_canJoin_33 : decode cX4_canJoin 33 = .ok (.iconst 1, 1) := by decide +kernel
theorem dX4_canJoin_34 : decode cX4_canJoin 34 = .ok (.goto 4, 3) := by decide +kernel
theorem dX4_canJoin_37 : decode cX4_canJoin 37 = .ok (.iconst 0, 1) := by decide +kernel
theorem dX4_canJoin_38 : decode cX4_canJoin 38 = .ok (.ireturn, 1) := by decide +kernel
theorem dX4_canJoin_39 : decode cX4_canJoin 39 = .ok (.iload_n 0, 1) := by decide +kernel
theorem dX4_canJoin_40 : decode cX4_canJoin 40 = .ok (.iload_n 1, 1) := by decide +kernel
theorem dX4_canJoin_41 : decode cX4_canJoin 41 = .ok (.iadd, 1) := by decide +kernel
theorem dX4_canJoin_42 : decode cX4_canJoin 42 = .ok (.bipush 8, 2) := by decide +kernel
theorem dX4_canJoin_44 : decode cX4_canJoin 44 = .ok (.if_icmp .gt 7, 3) := by decide +kernel
theorem dX4_canJoin_47 : decode cX4_canJoin 47 = .ok (.iconst 1, 1) := by decide +kernel
theorem dX4_canJoin_48 : decode cX4_canJoin 48 = .ok (.goto 4, 3) := by decide +kernel
theorem dX4_canJoin_51 : decode cX4_canJoin 51 = .ok (.iconst 0, 1) := by decide +kernel
theorem dX4_canJoin_52 : decode cX4_canJoin 52 = .ok (.ireturn, 1) := by decide +kernel
theorem dX4_canJoin_53 : decode cX4_canJoin 53 = .ok (.iconst 1, 1) := by decide +kernel
theorem dX4_canJoin_54 : decode cX4_canJoin 54 = .ok (.ireturn, 1) := by decide +kernel
theorem dX4_makeJoined_0 : decode cX4_makeJoined 0 = .ok (.aload_n 0, 1) := by decide +kernel
theorem dX4_makeJoined_1 : decode cX4_makeJoined 1 = .ok (.getfield 32, 3) := by decide +kernel
theorem dX4_makeJoined_4 : decode cX4_makeJoined 4 = .ok (.invokestatic 180, 3) := by decide +kernel
theorem dX4_makeJoined_7 : decode cX4_makeJoined 7 = .ok (.iload_n 3, 1) := by decide +kernel
theorem dX4_makeJoined_8 : decode cX4_makeJoined 8 = .ok (.tableswitch 105 0 2 #[28, 55, 84], 28) := by decide +kernel
theorem dX4_makeJoined_36 : decode cX4_makeJoined 36 = .ok (.aload_n 0, 1) := by decide +kernel
theorem dX4_makeJoined_37 : decode cX4_makeJoined 37 = .ok (.getfield 32, 3) := by decide +kernel
theorem dX4_makeJoined_40 : decode cX4_makeJoined 40 = .ok (.aload_n 0, 1) := by decide +kernel
theorem dX4_makeJoined_41 : decode cX4_makeJoined 41 = .ok (.getfield 19, 3) := by decide +kernel
theorem dX4_makeJoined_44 : decode cX4_makeJoined 44 = .ok (.iconst 1, 1) := by decide +kernel
theorem dX4_makeJoined_45 : decode cX4_makeJoined 45 = .ok (.invokestatic 232, 3) := by decide +kernel
theorem dX4_makeJoined_48 : decode cX4_makeJoined 48 = .ok (.aload_n 0, 1) := by decide +kernel
theorem dX4_makeJoined_49 : decode cX4_makeJoined 49 = .ok (.getfield 32, 3) := by decide +kernel
theorem dX4_makeJoined_52 : decode cX4_makeJoined 52 = .ok (.aload_n 0, 1) := by decide +kernel
theorem dX4_makeJoined_53 : decode cX4_makeJoined 53 = .ok (.getfield 23, 3) := by decide +kernel
theorem dX4_makeJoined_56 : decode cX4_makeJoined 56 = .ok (.iconst 1, 1) := by decide +kernel
theorem dX4_makeJoined_57 : decode cX4_makeJoined 57 = .ok (.invokestatic 232, 3) := by decide +kernel
theorem dX4_makeJoined_60 : decode cX4_makeJoined 60 = .ok (.goto 70, 3) := by decide +kernel
theorem dX4_makeJoined_63 : decode cX4_makeJoined 63 = .ok (.aload_n 0, 1) := by decide +kernel
theorem dX4_makeJoined_64 : decode cX4_makeJoined 64 = .ok (.getfield 32, 3) := by decide +kernel
theorem dX4_makeJoined_67 : decode cX4_makeJoined 67 = .ok (.aload_n 0, 1) := by decide +kernel
theorem dX4_makeJoined_68 : decode cX4_makeJoined 68 = .ok (.getfield 19, 3) := by decide +kernel
theorem dX4_makeJoined_71 : decode cX4_makeJoined 71 = .ok (.iconst 1, 1) := by decide +kernel
theorem dX4_makeJoined_72 : decode cX4_makeJoined 72 = .ok (.invokestatic 232, 3) := by decide +kernel
theorem dX4_makeJoined_75 : decode cX4_makeJoined 75 = .ok (.aload_n 0, 1) := by decide +kernel
theorem dX4_makeJoined_76 : decode cX4_makeJoined 76 = .ok (.getfield 32, 3) := by decide +kernel
theorem dX4_makeJoined_79 : decode cX4_makeJoined 79 = .ok (.aload_n 0, 1) := by decide +kernel
theorem dX4_makeJoined_80 : decode cX4_makeJoined 80 = .ok (.getfield 23, 3) := by decide +kernel
theorem dX4_makeJoined_83 : decode cX4_makeJoined 83 = .ok (.sipush 10006, 3) := by decide +kernel
theorem dX4_makeJoined_86 : decode cX4_makeJoined 86 = .ok (.invokestatic 232, 3) := by decide +kernel
theorem dX4_makeJoined_89 : decode cX4_makeJoined 89 = .ok (.goto 41, 3) := by decide +kernel
theorem dX4_makeJoined_92 : decode cX4_makeJoined 92 = .ok (.aload_n 0, 1) := by decide +kernel
theorem dX4_makeJoined_93 : decode cX4_makeJoined 93 = .ok (.getfield 32, 3) := by decide +kernel
theorem dX4_makeJoined_96 : decode cX4_makeJoined 96 = .ok (.aload_n 0, 1) := by decide +kernel
theorem dX4_makeJoined_97 : decode cX4_makeJoined 97 = .ok (.getfield 19, 3) := by decide +kernel
theorem dX4_makeJoined_100 : decode cX4_makeJoined 100 = .ok (.iload_n 1, 1) := by decide +kernel
theorem dX4_makeJoined_101 : decode cX4_makeJoined 101 = .ok (.aload_n 0, 1) := by decide +kernel
theorem dX4_makeJoined_102 : decode cX4_makeJoined 102 = .ok (.getfield 23, 3) := by decide +kernel
theorem dX4_makeJoined_105 : decode cX4_makeJoined 105 = .ok (.iload_n 2, 1) := by decide +kernel
theorem dX4_makeJoined_106 : decode cX4_makeJoined 106 = .ok (.iconst 1, 1) := by decide +kernel
theorem dX4_makeJoined_107 : decode cX4_makeJoined 107 = .ok (.invokestatic 236, 3) := by decide +kernel
theorem dX4_makeJoined_110 : decode cX4_makeJoined 110 = .ok (.goto 20, 3) := by decide +kernel
theorem dX4_makeJoined_113 : decode cX4_makeJoined 113 = .ok (.aload_n 0, 1) := by decide +kernel
theorem dX4_makeJoined_114 : decode cX4_makeJoined 114 = .ok (.getfield 32, 3) := by decide +kernel
theorem dX4_makeJoined_117 : decode cX4_makeJoined 117 = .ok (.aload_n 0, 1) := by decide +kernel
theorem dX4_makeJoined_118 : decode cX4_makeJoined 118 = .ok (.getfield 19, 3) := by decide +kernel
theorem dX4_makeJoined_121 : decode cX4_makeJoined 121 = .ok (.aload_n 0, 1) := by decide +kernel
theorem dX4_makeJoined_122 : decode cX4_makeJoined 122 = .ok (.getfield 23, 3) := by decide +kernel
theorem dX4_makeJoined_125 : decode cX4_makeJoined 125 = .ok (.iconst 0, 1) := by decide +kernel
theorem dX4_makeJoined_126 : decode cX4_makeJoined 126 = .ok (.iaload, 1) := by decide +kernel
theorem dX4_makeJoined_127 : decode cX4_makeJoined 127 = .ok (.invokestatic 232, 3) := by decide +kernel
theorem dX4_makeJoined_130 : decode cX4_makeJoined 130 = .ok (.return_, 1) := by decide +kernel
theorem dX4_makeMixed_0 : decode cX4_makeMixed 0 = .ok (.aload_n 0, 1) := by decide +kernel
theorem dX4_makeMixed_1 : decode cX4_makeMixed 1 = .ok (.getfield 32, 3) := by decide +kernel
theorem dX4_makeMixed_4 : decode cX4_makeMixed 4 = .ok (.invokestatic 180, 3) := by decide +kernel
theorem dX4_makeMixed_7 : decode cX4_makeMixed 7 = .ok (.aload_n 0, 1) := by decide +kernel
theorem dX4_makeMixed_8 : decode cX4_makeMixed 8 = .ok (.getfield 23, 3) := by decide +kernel
theorem dX4_makeMixed_11 : decode cX4_makeMixed 11 = .ok (.invokestatic 180, 3) := by decide +kernel
theorem dX4_makeMixed_14 : decode cX4_makeMixed 14 = .ok (.aload_n 0, 1) := by decide +kernel
theorem dX4_makeMixed_15 : decode cX4_makeMixed 15 = .ok (.getfield 32, 3) := by decide +kernel
theorem dX4_makeMixed_18 : decode cX4_makeMixed 18 = .ok (.iconst 0, 1) := by decide +kernel
theorem dX4_makeMixed_19 : decode cX4_makeMixed 19 = .ok (.aload_n 0, 1) := by decide +kernel
theorem dX4_makeMixed_20 : decode cX4_makeMixed 20 = .ok (.getfield 19, 3) := by decide +kernel
theorem dX4_makeMixed_23 : decode cX4_makeMixed 23 = .ok (.iconst 0, 1) := by decide +kernel
theorem dX4_makeMixed_24 : decode cX4_makeMixed 24 = .ok (.iaload, 1) := by decide +kernel
theorem dX4_makeMixed_25 : decode cX4_makeMixed 25 = .ok (.iastore, 1) := by decide +kernel
theorem dX4_makeMixed_26 : decode cX4_makeMixed 26 = .ok (.aload_n 0, 1) := by decide +kernel
theorem dX4_makeMixed_27 : decode cX4_makeMixed 27 = .ok (.getfield 23, 3) := by decide +kernel
theorem dX4_makeMixed_30 : decode cX4_makeMixed 30 = .ok (.iconst 0, 1) := by decide +kernel
theorem dX4_makeMixed_31 : decode cX4_makeMixed 31 = .ok (.iconst 1, 1) := by decide +kernel
theorem dX4_makeMixed_32 : decode cX4_makeMixed 32 = .ok (.iastore, 1) := by decide +kernel
theorem dX4_makeMixed_33 : decode cX4_makeMixed 33 = .ok (.iconst 1, 1) := by decide +kernel
theorem dX4_makeMixed_34 : decode cX4_makeMixed 34 = .ok (.istore 6, 2) := by decide +kernel
theorem dX4_makeMixed_36 : decode cX4_makeMixed 36 = .ok (.iload 6, 2) := by decide +kernel
theorem dX4_makeMixed_38 : decode cX4_makeMixed 38 = .ok (.iload_n 1, 1) := by decide +kernel
theorem dX4_makeMixed_39 : decode cX4_makeMixed 39 = .ok (.if_icmp .gt 55, 3) := by decide +kernel
theorem dX4_makeMixed_42 : decode cX4_makeMixed 42 = .ok (.aload_n 0, 1) := by decide +kernel
theorem dX4_makeMixed_43 : decode cX4_makeMixed 43 = .ok (.getfield 32, 3) := by decide +kernel
theorem dX4_makeMixed_46 : decode cX4_makeMixed 46 = .ok (.iload 6, 2) := by decide +kernel
theorem dX4_makeMixed_48 : decode cX4_makeMixed 48 = .ok (.iconst 1, 1) := by decide +kernel
theorem dX4_makeMixed_49 : decode cX4_makeMixed 49 = .ok (.isub, 1) := by decide +kernel
theorem dX4_makeMixed_50 : decode cX4_makeMixed 50 = .ok (.iload_n 2, 1) := by decide +kernel
theorem dX4_makeMixed_51 : decode cX4_makeMixed 51 = .ok (.iload_n 3, 1) := by decide +kernel
theorem dX4_makeMixed_52 : decode cX4_makeMixed 52 = .ok (.invokestatic 240, 3) := by decide +kernel
theorem dX4_makeMixed_55 : decode cX4_makeMixed 55 = .ok (.aload_n 0, 1) := by decide +kernel
theorem dX4_makeMixed_56 : decode cX4_makeMixed 56 = .ok (.getfield 23, 3) := by decide +kernel
theorem dX4_makeMixed_59 : decode cX4_makeMixed 59 = .ok (.iload 6, 2) := by decide +kernel
theorem dX4_makeMixed_61 : decode cX4_makeMixed 61 = .ok (.iconst 1, 1) := by decide +kernel
theorem dX4_makeMixed_62 : decode cX4_makeMixed 62 = .ok (.isub, 1) := by decide +kernel
theorem dX4_makeMixed_63 : decode cX4_makeMixed 63 = .ok (.iload 4, 2) := by decide +kernel
theorem dX4_makeMixed_65 : decode cX4_makeMixed 65 = .ok (.iload 5, 2) := by decide +kernel
theorem dX4_makeMixed_67 : decode cX4_makeMixed 67 = .ok (.invokestatic 240, 3) := by decide +kernel
theorem dX4_makeMixed_70 : decode cX4_makeMixed 70 = .ok (.aload_n 0, 1) := by decide +kernel
theorem dX4_makeMixed_71 : decode cX4_makeMixed 71 = .ok (.getfield 32, 3) := by decide +kernel
theorem dX4_makeMixed_74 : decode cX4_makeMixed 74 = .ok (.aload_n 0, 1) := by decide +kernel
theorem dX4_makeMixed_75 : decode cX4_makeMixed 75 = .ok (.getfield 23, 3) := by decide +kernel
theorem dX4_makeMixed_78 : decode cX4_makeMixed 78 = .ok (.aload_n 0, 1) := by decide +kernel
theorem dX4_makeMixed_79 : decode cX4_makeMixed 79 = .ok (.getfield 19, 3) := by decide +kernel
theorem dX4_makeMixed_82 : decode cX4_makeMixed 82 = .ok (.iload 6, 2) := by decide +kernel
theorem dX4_makeMixed_84 : decode cX4_makeMixed 84 = .ok (.iaload, 1) := by decide +kernel
theorem dX4_makeMixed_85 : decode cX4_makeMixed 85 = .ok (.invokestatic 232, 3) := by decide +kernel
theorem dX4_makeMixed_88 : decode cX4_makeMixed 88 = .ok (.iinc 6 1, 3) := by decide +kernel
theorem dX4_makeMixed_91 : decode cX4_makeMixed 91 = .ok (.goto (-55), 3) := by decide +kernel
theorem dX4_makeMixed_94 : decode cX4_makeMixed 94 = .ok (.return_, 1) := by decide +kernel
theorem dX4_makeOverlap_0 : decode cX4_makeOverlap 0 = .ok (.aload_n 0, 1) := by decide +kernel
theorem dX4_makeOverlap_1 : decode cX4_makeOverlap 1 = .ok (.getfield 32, 3) := by decide +kernel
theorem dX4_makeOverlap_4 : decode cX4_makeOverlap 4 = .ok (.invokestatic 180, 3) := by decide +kernel
theorem dX4_makeOverlap_7 : decode cX4_makeOverlap 7 = .ok (.iconst 0, 1) := by decide +kernel
theorem dX4_makeOverlap_8 : decode cX4_makeOverlap 8 = .ok (.istore 4, 2) := by decide +kernel
theorem dX4_makeOverlap_10 : decode cX4_makeOverlap 10 = .ok (.iload 4, 2) := by decide +kernel
theorem dX4_makeOverlap_12 : decode cX4_makeOverlap 12 = .ok (.iload_n 3, 1) := by decide +kernel
theorem dX4_makeOverlap_13 : decode cX4_makeOverlap 13 = .ok (.if_icmp .gt 96, 3) := by decide +kernel
theorem dX4_makeOverlap_16 : decode cX4_makeOverlap 16 = .ok (.aload_n 0, 1) := by decide +kernel
theorem dX4_makeOverlap_17 : decode cX4_makeOverlap 17 = .ok (.getfield 19, 3) := by decide +kernel
theorem dX4_makeOverlap_20 : decode cX4_makeOverlap 20 = .ok (.iload_n 1, 1) := by decide +kernel
theorem dX4_makeOverlap_21 : decode cX4_makeOverlap 21 = .ok (.iload_n 3, 1) := by decide +kernel
theorem dX4_makeOverlap_22 : decode cX4_makeOverlap 22 = .ok (.iload 4, 2) := by decide +kernel
theorem dX4_makeOverlap_24 : decode cX4_makeOverlap 24 = .ok (.isub, 1) := by decide +kernel
theorem dX4_makeOverlap_25 : decode cX4_makeOverlap 25 = .ok (.iload 4, 2) := by decide +kernel
theorem dX4_makeOverlap_27 : decode cX4_makeOverlap 27 = .ok (.aload_n 0, 1) := by decide +kernel
theorem dX4_makeOverlap_28 : decode cX4_makeOverlap 28 = .ok (.getfield 26, 3) := by decide +kernel
theorem dX4_makeOverlap_31 : decode cX4_makeOverlap 31 = .ok (.invokestatic 135, 3) := by decide +kernel
theorem dX4_makeOverlap_34 : decode cX4_makeOverlap 34 = .ok (.aload_n 0, 1) := by decide +kernel
theorem dX4_makeOverlap_35 : decode cX4_makeOverlap 35 = .ok (.getfield 23, 3) := by decide +kernel
theorem dX4_makeOverlap_38 : decode cX4_makeOverlap 38 = .ok (.iload_n 2, 1) := by decide +kernel
theorem dX4_makeOverlap_39 : decode cX4_makeOverlap 39 = .ok (.iload 4, 2) := by decide +kernel
theorem dX4_makeOverlap_41 : decode cX4_makeOverlap 41 = .ok (.iload_n 3, 1) := by decide +kernel
theorem dX4_makeOverlap_42 : decode cX4_makeOverlap 42 = .ok (.iload 4, 2) := by decide +kernel
theorem dX4_makeOverlap_44 : decode cX4_makeOverlap 44 = .ok (.isub, 1) := by decide +kernel
theorem dX4_makeOverlap_45 : decode cX4_makeOverlap 45 = .ok (.aload_n 0, 1) := by decide +kernel
theorem dX4_makeOverlap_46 : decode cX4_makeOverlap 46 = .ok (.getfield 29, 3) := by decide +kernel
theorem dX4_makeOverlap_49 : decode cX4_makeOverlap 49 = .ok (.invokestatic 135, 3) := by decide +kernel
theorem dX4_makeOverlap_52 : decode cX4_makeOverlap 52 = .ok (.iload_n 3, 1) := by decide +kernel
theorem dX4_makeOverlap_53 : decode cX4_makeOverlap 53 = .ok (.iload 4, 2) := by decide +kernel
theorem dX4_makeOverlap_55 : decode cX4_makeOverlap 55 = .ok (.invokestatic 243, 3) := by decide +kernel
theorem dX4_makeOverlap_58 : decode cX4_makeOverlap 58 = .ok (.istore 5, 2) := by decide +kernel
theorem dX4_makeOverlap_60 : decode cX4_makeOverlap 60 = .ok (.iload 4, 2) := by decide +kernel
theorem dX4_makeOverlap_62 : decode cX4_makeOverlap 62 = .ok (.iconst 2, 1) := by decide +kernel
theorem dX4_makeOverlap_63 : decode cX4_makeOverlap 63 = .ok (.irem, 1) := by decide +kernel
theorem dX4_makeOverlap_64 : decode cX4_makeOverlap 64 = .ok (.ifCond .ne 8, 3) := by decide +kernel
theorem dX4_makeOverlap_67 : decode cX4_makeOverlap 67 = .ok (.iload 5, 2) := by decide +kernel
theorem dX4_makeOverlap_69 : decode cX4_makeOverlap 69 = .ok (.goto 9, 3) := by decide +kernel
theorem dX4_makeOverlap_72 : decode cX4_makeOverlap 72 = .ok (.sipush 10007, 3) := by decide +kernel
theorem dX4_makeOverlap_75 : decode cX4_makeOverlap 75 = .ok (.iload 5, 2) := by decide +kernel
theorem dX4_makeOverlap_77 : decode cX4_makeOverlap 77 = .ok (.isub, 1) := by decide +kernel
theorem dX4_makeOverlap_78 : decode cX4_makeOverlap 78 = .ok (.istore 6, 2) := by decide +kernel
theorem dX4_makeOverlap_80 : decode cX4_makeOverlap 80 = .ok (.aload_n 0, 1) := by decide +kernel
theorem dX4_makeOverlap_81 : decode cX4_makeOverlap 81 = .ok (.getfield 32, 3) := by decide +kernel
theorem dX4_makeOverlap_84 : decode cX4_makeOverlap 84 = .ok (.aload_n 0, 1) := by decide +kernel
theorem dX4_makeOverlap_85 : decode cX4_makeOverlap 85 = .ok (.getfield 26, 3) := by decide +kernel
theorem dX4_makeOverlap_88 : decode cX4_makeOverlap 88 = .ok (.iload_n 1, 1) := by decide +kernel
theorem dX4_makeOverlap_89 : decode cX4_makeOverlap 89 = .ok (.iload_n 3, 1) := by decide +kernel
theorem dX4_makeOverlap_90 : decode cX4_makeOverlap 90 = .ok (.isub, 1) := by decide +kernel
theorem dX4_makeOverlap_91 : decode cX4_makeOverlap 91 = .ok (.aload_n 0, 1) := by decide +kernel
theorem dX4_makeOverlap_92 : decode cX4_makeOverlap 92 = .ok (.getfield 29, 3) := by decide +kernel
theorem dX4_makeOverlap_95 : decode cX4_makeOverlap 95 = .ok (.iload_n 2, 1) := by decide +kernel
theorem dX4_makeOverlap_96 : decode cX4_makeOverlap 96 = .ok (.iload_n 3, 1) := by decide +kernel
theorem dX4_makeOverlap_97 : decode cX4_makeOverlap 97 = .ok (.isub, 1) := by decide +kernel
theorem dX4_makeOverlap_98 : decode cX4_makeOverlap 98 = .ok (.iload 6, 2) := by decide +kernel
theorem dX4_makeOverlap_100 : decode cX4_makeOverlap 100 = .ok (.invokestatic 236, 3) := by decide +kernel
theorem dX4_makeOverlap_103 : decode cX4_makeOverlap 103 = .ok (.iinc 4 1, 3) := by decide +kernel
theorem dX4_makeOverlap_106 : decode cX4_makeOverlap 106 = .ok (.goto (-96), 3) := by decide +kernel
theorem dX4_makeOverlap_109 : decode cX4_makeOverlap 109 = .ok (.iload_n 1, 1) := by decide +kernel
theorem dX4_makeOverlap_110 : decode cX4_makeOverlap 110 = .ok (.iload_n 3, 1) := by decide +kernel
theorem dX4_makeOverlap_111 : decode cX4_makeOverlap 111 = .ok (.isub, 1) := by decide +kernel
theorem dX4_makeOverlap_112 : decode cX4_makeOverlap 112 = .ok (.invokestatic 246, 3) := by decide +kernel
theorem dX4_makeOverlap_115 : decode cX4_makeOverlap 115 = .ok (.iload_n 2, 1) := by decide +kernel
theorem dX4_makeOverlap_116 : decode cX4_makeOverlap 116 = .ok (.iload_n 3, 1) := by decide +kernel
theorem dX4_makeOverlap_117 : decode cX4_makeOverlap 117 = .ok (.isub, 1) := by decide +kernel
theorem dX4_makeOverlap_118 : decode cX4_makeOverlap 118 = .ok (.invokestatic 246, 3) := by decide +kernel
theorem dX4_makeOverlap_121 : decode cX4_makeOverlap 121 = .ok (.imul, 1) := by decide +kernel
theorem dX4_makeOverlap_122 : decode cX4_makeOverlap 122 = .ok (.sipush 10007, 3) := by decide +kernel
theorem dX4_makeOverlap_125 : decode cX4_makeOverlap 125 = .ok (.irem, 1) := by decide +kernel
theorem dX4_makeOverlap_126 : decode cX4_makeOverlap 126 = .ok (.istore 4, 2) := by decide +kernel
theorem dX4_makeOverlap_128 : decode cX4_makeOverlap 128 = .ok (.iload_n 1, 1) := by decide +kernel
theorem dX4_makeOverlap_129 : decode cX4_makeOverlap 129 = .ok (.invokestatic 246, 3) := by decide +kernel
theorem dX4_makeOverlap_132 : decode cX4_makeOverlap 132 = .ok (.iload_n 2, 1) := by decide +kernel
theorem dX4_makeOverlap_133 : decode cX4_makeOverlap 133 = .ok (.invokestatic 246, 3) := by decide +kernel
theorem dX4_makeOverlap_136 : decode cX4_makeOverlap 136 = .ok (.imul, 1) := by decide +kernel
theorem dX4_makeOverlap_137 : decode cX4_makeOverlap 137 = .ok (.sipush 10007, 3) := by decide +kernel
theorem dX4_makeOverlap_140 : decode cX4_makeOverlap 140 = .ok (.irem, 1) := by decide +kernel
theorem dX4_makeOverlap_141 : decode cX4_makeOverlap 141 = .ok (.istore 5, 2) := by decide +kernel
theorem dX4_makeOverlap_143 : decode cX4_makeOverlap 143 = .ok (.aload_n 0, 1) := by decide +kernel
theorem dX4_makeOverlap_144 : decode cX4_makeOverlap 144 = .ok (.getfield 32, 3) := by decide +kernel
theorem dX4_makeOverlap_147 : decode cX4_makeOverlap 147 = .ok (.iload 4, 2) := by decide +kernel
theorem dX4_makeOverlap_149 : decode cX4_makeOverlap 149 = .ok (.iload 5, 2) := by decide +kernel
theorem dX4_makeOverlap_151 : decode cX4_makeOverlap 151 = .ok (.invokestatic 249, 3) := by decide +kernel
theorem dX4_makeOverlap_154 : decode cX4_makeOverlap 154 = .ok (.imul, 1) := by decide +kernel
theorem dX4_makeOverlap_155 : decode cX4_makeOverlap 155 = .ok (.sipush 10007, 3) := by decide +kernel
theorem dX4_makeOverlap_158 : decode cX4_makeOverlap 158 = .ok (.irem, 1) := by decide +kernel
theorem dX4_makeOverlap_159 : decode cX4_makeOverlap 159 = .ok (.invokestatic 252, 3) := by decide +kernel
theorem dX4_makeOverlap_162 : decode cX4_makeOverlap 162 = .ok (.return_, 1) := by decide +kernel
theorem dX4_findRoots_0 : decode cX4_findRoots 0 = .ok (.aload_n 0, 1) := by decide +kernel
theorem dX4_findRoots_1 : decode cX4_findRoots 1 = .ok (.iload_n 1, 1) := by decide +kernel
theorem dX4_findRoots_2 : decode cX4_findRoots 2 = .ok (.aload_n 0, 1) := by decide +kernel
theorem dX4_findRoots_3 : decode cX4_findRoots 3 = .ok (.getfield 19, 3) := by decide +kernel
theorem dX4_findRoots_6 : decode cX4_findRoots 6 = .ok (.invokevirtual 105, 3) := by decide +kernel
theorem dX4_findRoots_9 : decode cX4_findRoots 9 = .ok (.istore_n 2, 1) := by decide +kernel
theorem dX4_findRoots_10 : decode cX4_findRoots 10 = .ok (.iconst 0, 1) := by decide +kernel
theorem dX4_findRoots_11 : decode cX4_findRoots 11 = .ok (.istore_n 3, 1) := by decide +kernel
theorem dX4_findRoots_12 : decode cX4_findRoots 12 = .ok (.iconst 0, 1) := by decide +kernel
theorem dX4_findRoots_13 : decode cX4_findRoots 13 = .ok (.istore 4, 2) := by decide +kernel
theorem dX4_findRoots_15 : decode cX4_findRoots 15 = .ok (.iload 4, 2) := by decide +kernel
theorem dX4_findRoots_17 : decode cX4_findRoots 17 = .ok (.sipush 10007, 3) := by decide +kernel
theorem dX4_findRoots_20 : decode cX4_findRoots 20 = .ok (.if_icmp .gt 38, 3) := by decide +kernel
theorem dX4_findRoots_23 : decode cX4_findRoots 23 = .ok (.iload_n 3, 1) := by decide +kernel
theorem dX4_findRoots_24 : decode cX4_findRoots 24 = .ok (.iload_n 2, 1) := by decide +kernel
theorem dX4_findRoots_25 : decode cX4_findRoots 25 = .ok (.if_icmp .ge 33, 3) := by decide +kernel
theorem dX4_findRoots_28 : decode cX4_findRoots 28 = .ok (.aload_n 0, 1) := by decide +kernel
theorem dX4_findRoots_29 : decode cX4_findRoots 29 = .ok (.getfield 19, 3) := by decide +kernel
theorem dX4_findRoots_32 : decode cX4_findRoots 32 = .ok (.iload_n 2, 1) := by decide +kernel
theorem dX4_findRoots_33 : decode cX4_findRoots 33 = .ok (.iload 4, 2) := by decide +kernel
theorem dX4_findRoots_35 : decode cX4_findRoots 35 = .ok (.invokestatic 255, 3) := by decide +kernel
theorem dX4_findRoots_38 : decode cX4_findRoots 38 = .ok (.ifCond .ne 14, 3) := by decide +kernel
theorem dX4_findRoots_41 : decode cX4_findRoots 41 = .ok (.aload_n 0, 1) := by decide +kernel
theorem dX4_findRoots_42 : decode cX4_findRoots 42 = .ok (.getfield 26, 3) := by decide +kernel
theorem dX4_findRoots_45 : decode cX4_findRoots 45 = .ok (.iload_n 3, 1) := by decide +kernel
theorem dX4_findRoots_46 : decode cX4_findRoots 46 = .ok (.iload 4, 2) := by decide +kernel
theorem dX4_findRoots_48 : decode cX4_findRoots 48 = .ok (.iastore, 1) := by decide +kernel
theorem dX4_findRoots_49 : decode cX4_findRoots 49 = .ok (.iinc 3 1, 3) := by decide +kernel
theorem dX4_findRoots_52 : decode cX4_findRoots 52 = .ok (.iinc 4 1, 3) := by decide +kernel
theorem dX4_findRoots_55 : decode cX4_findRoots 55 = .ok (.goto (-40), 3) := by decide +kernel
theorem dX4_findRoots_58 : decode cX4_findRoots 58 = .ok (.iload_n 3, 1) := by decide +kernel
theorem dX4_findRoots_59 : decode cX4_findRoots 59 = .ok (.ireturn, 1) := by decide +kernel
theorem dX4_makeCommon_0 : decode cX4_makeCommon 0 = .ok (.aload_n 0, 1) := by decide +kernel
theorem dX4_makeCommon_1 : decode cX4_makeCommon 1 = .ok (.getfield 19, 3) := by decide +kernel
theorem dX4_makeCommon_4 : decode cX4_makeCommon 4 = .ok (.iload_n 1, 1) := by decide +kernel
theorem dX4_makeCommon_5 : decode cX4_makeCommon 5 = .ok (.invokestatic 259, 3) := by decide +kernel
theorem dX4_makeCommon_8 : decode cX4_makeCommon 8 = .ok (.istore_n 3, 1) := by decide +kernel
theorem dX4_makeCommon_9 : decode cX4_makeCommon 9 = .ok (.aload_n 0, 1) := by decide +kernel
theorem dX4_makeCommon_10 : decode cX4_makeCommon 10 = .ok (.getfield 23, 3) := by decide +kernel
theorem dX4_makeCommon_13 : decode cX4_makeCommon 13 = .ok (.iload_n 2, 1) := by decide +kernel
theorem dX4_makeCommon_14 : decode cX4_makeCommon 14 = .ok (.invokestatic 259, 3) := by decide +kernel
theorem dX4_makeCommon_17 : decode cX4_makeCommon 17 = .ok (.istore 4, 2) := by decide +kernel
theorem dX4_makeCommon_19 : decode cX4_makeCommon 19 = .ok (.iload_n 1, 1) := by decide +kernel
theorem dX4_makeCommon_20 : decode cX4_makeCommon 20 = .ok (.iload_n 3, 1) := by decide +kernel
theorem dX4_makeCommon_21 : decode cX4_makeCommon 21 = .ok (.isub, 1) := by decide +kernel
theorem dX4_makeCommon_22 : decode cX4_makeCommon 22 = .ok (.iload_n 2, 1) := by decide +kernel
theorem dX4_makeCommon_23 : decode cX4_makeCommon 23 = .ok (.iload 4, 2) := by decide +kernel
theorem dX4_makeCommon_25 : decode cX4_makeCommon 25 = .ok (.isub, 1) := by decide +kernel
theorem dX4_makeCommon_26 : decode cX4_makeCommon 26 = .ok (.invokestatic 263, 3) := by decide +kernel
theorem dX4_makeCommon_29 : decode cX4_makeCommon 29 = .ok (.istore 5, 2) := by decide +kernel
theorem dX4_makeCommon_31 : decode cX4_makeCommon 31 = .ok (.iconst 0, 1) := by decide +kernel
theorem dX4_makeCommon_32 : decode cX4_makeCommon 32 = .ok (.istore 6, 2) := by decide +kernel
theorem dX4_makeCommon_34 : decode cX4_makeCommon 34 = .ok (.iload 6, 2) := by decide +kernel
theorem dX4_makeCommon_36 : decode cX4_makeCommon 36 = .ok (.bipush 18, 2) := by decide +kernel
theorem dX4_makeCommon_38 : decode cX4_makeCommon 38 = .ok (.if_icmp .ge 58, 3) := by decide +kernel
theorem dX4_makeCommon_41 : decode cX4_makeCommon 41 = .ok (.iload_n 3, 1) := by decide +kernel
theorem dX4_makeCommon_42 : decode cX4_makeCommon 42 = .ok (.ifCond .lt 54, 3) := by decide +kernel
theorem dX4_makeCommon_45 : decode cX4_makeCommon 45 = .ok (.iload 4, 2) := by decide +kernel
theorem dX4_makeCommon_47 : decode cX4_makeCommon 47 = .ok (.ifCond .lt 49, 3) := by decide +kernel
theorem dX4_makeCommon_50 : decode cX4_makeCommon 50 = .ok (.iload_n 3, 1) := by decide +kernel
theorem dX4_makeCommon_51 : decode cX4_makeCommon 51 = .ok (.iload 4, 2) := by decide +kernel
theorem dX4_makeCommon_53 : decode cX4_makeCommon 53 = .ok (.if_icmp .lt 21, 3) := by decide +kernel
theorem dX4_makeCommon_56 : decode cX4_makeCommon 56 = .ok (.aload_n 0, 1) := by decide +kernel
theorem dX4_makeCommon_57 : decode cX4_makeCommon 57 = .ok (.getfield 19, 3) := by decide +kernel
theorem dX4_makeCommon_60 : decode cX4_makeCommon 60 = .ok (.iload_n 3, 1) := by decide +kernel
theorem dX4_makeCommon_61 : decode cX4_makeCommon 61 = .ok (.aload_n 0, 1) := by decide +kernel
theorem dX4_makeCommon_62 : decode cX4_makeCommon 62 = .ok (.getfield 23, 3) := by decide +kernel
theorem dX4_makeCommon_65 : decode cX4_makeCommon 65 = .ok (.iload 4, 2) := by decide +kernel
theorem dX4_makeCommon_67 : decode cX4_makeCommon 67 = .ok (.invokestatic 268, 3) := by decide +kernel
theorem dX4_makeCommon_70 : decode cX4_makeCommon 70 = .ok (.istore_n 3, 1) := by decide +kernel
theorem dX4_makeCommon_71 : decode cX4_makeCommon 71 = .ok (.goto 19, 3) := by decide +kernel
theorem dX4_makeCommon_74 : decode cX4_makeCommon 74 = .ok (.aload_n 0, 1) := by decide +kernel
theorem dX4_makeCommon_75 : decode cX4_makeCommon 75 = .ok (.getfield 23, 3) := by decide +kernel
theorem dX4_makeCommon_78 : decode cX4_makeCommon 78 = .ok (.iload 4, 2) := by decide +kernel
theorem dX4_makeCommon_80 : decode cX4_makeCommon 80 = .ok (.aload_n 0, 1) := by decide +kernel
theorem dX4_makeCommon_81 : decode cX4_makeCommon 81 = .ok (.getfield 19, 3) := by decide +kernel
theorem dX4_makeCommon_84 : decode cX4_makeCommon 84 = .ok (.iload_n 3, 1) := by decide +kernel
theorem dX4_makeCommon_85 : decode cX4_makeCommon 85 = .ok (.invokestatic 268, 3) := by decide +kernel
theorem dX4_makeCommon_88 : decode cX4_makeCommon 88 = .ok (.istore 4, 2) := by decide +kernel
theorem dX4_makeCommon_90 : decode cX4_makeCommon 90 = .ok (.iinc 6 1, 3) := by decide +kernel
theorem dX4_makeCommon_93 : decode cX4_makeCommon 93 = .ok (.goto (-59), 3) := by decide +kernel
theorem dX4_makeCommon_96 : decode cX4_makeCommon 96 = .ok (.iload_n 3, 1) := by decide +kernel
theorem dX4_makeCommon_97 : decode cX4_makeCommon 97 = .ok (.ifCond .lt 10, 3) := by decide +kernel
theorem dX4_makeCommon_100 : decode cX4_makeCommon 100 = .ok (.aload_n 0, 1) := by decide +kernel
theorem dX4_makeCommon_101 : decode cX4_makeCommon 101 = .ok (.getfield 19, 3) := by decide +kernel
theorem dX4_makeCommon_104 : decode cX4_makeCommon 104 = .ok (.goto 7, 3) := by decide +kernel
theorem dX4_makeCommon_107 : decode cX4_makeCommon 107 = .ok (.aload_n 0, 1) := by decide +kernel
theorem dX4_makeCommon_108 : decode cX4_makeCommon 108 = .ok (.getfield 23, 3) := by decide +kernel
theorem dX4_makeCommon_111 : decode cX4_makeCommon 111 = .ok (.astore 6, 2) := by decide +kernel
theorem dX4_makeCommon_113 : decode cX4_makeCommon 113 = .ok (.iload_n 3, 1) := by decide +kernel
theorem dX4_makeCommon_114 : decode cX4_makeCommon 114 = .ok (.iload 4, 2) := by decide +kernel
theorem dX4_makeCommon_116 : decode cX4_makeCommon 116 = .ok (.invokestatic 272, 3) := by decide +kernel
theorem dX4_makeCommon_119 : decode cX4_makeCommon 119 = .ok (.istore 7, 2) := by decide +kernel
theorem dX4_makeCommon_121 : decode cX4_makeCommon 121 = .ok (.aload 6, 2) := by decide +kernel
theorem dX4_makeCommon_123 : decode cX4_makeCommon 123 = .ok (.aload 6, 2) := by decide +kernel
theorem dX4_makeCommon_125 : decode cX4_makeCommon 125 = .ok (.iconst 0, 1) := by decide +kernel
theorem dX4_makeCommon_126 : decode cX4_makeCommon 126 = .ok (.iaload, 1) := by decide +kernel
theorem dX4_makeCommon_127 : decode cX4_makeCommon 127 = .ok (.invokestatic 249, 3) := by decide +kernel
theorem dX4_makeCommon_130 : decode cX4_makeCommon 130 = .ok (.invokestatic 252, 3) := by decide +kernel
theorem dX4_makeCommon_133 : decode cX4_makeCommon 133 = .ok (.aload_n 0, 1) := by decide +kernel
theorem dX4_makeCommon_134 : decode cX4_makeCommon 134 = .ok (.getfield 32, 3) := by decide +kernel
theorem dX4_makeCommon_137 : decode cX4_makeCommon 137 = .ok (.invokestatic 180, 3) := by decide +kernel
theorem dX4_makeCommon_140 : decode cX4_makeCommon 140 = .ok (.iconst 0, 1) := by decide +kernel
theorem dX4_makeCommon_141 : decode cX4_makeCommon 141 = .ok (.istore 8, 2) := by decide +kernel
theorem dX4_makeCommon_143 : decode cX4_makeCommon 143 = .ok (.iload 8, 2) := by decide +kernel
theorem dX4_makeCommon_145 : decode cX4_makeCommon 145 = .ok (.iload 7, 2) := by decide +kernel
theorem dX4_makeCommon_147 : decode cX4_makeCommon 147 = .ok (.if_icmp .gt 34, 3) := by decide +kernel
theorem dX4_makeCommon_150 : decode cX4_makeCommon 150 = .ok (.iload 5, 2) := by decide +kernel
theorem dX4_makeCommon_152 : decode cX4_makeCommon 152 = .ok (.iload 8, 2) := by decide +kernel
theorem dX4_makeCommon_154 : decode cX4_makeCommon 154 = .ok (.iadd, 1) := by decide +kernel
theorem dX4_makeCommon_155 : decode cX4_makeCommon 155 = .ok (.bipush 9, 2) := by decide +kernel
theorem dX4_makeCommon_157 : decode cX4_makeCommon 157 = .ok (.if_icmp .ge 24, 3) := by decide +kernel
theorem dX4_makeCommon_160 : decode cX4_makeCommon 160 = .ok (.aload_n 0, 1) := by decide +kernel
theorem dX4_makeCommon_161 : decode cX4_makeCommon 161 = .ok (.getfield 32, 3) := by decide +kernel
theorem dX4_makeCommon_164 : decode cX4_makeCommon 164 = .ok (.iload 5, 2) := by decide +kernel
theorem dX4_makeCommon_166 : decode cX4_makeCommon 166 = .ok (.iload 8, 2) := by decide +kernel
theorem dX4_makeCommon_168 : decode cX4_makeCommon 168 = .ok (.iadd, 1) := by decide +kernel
theorem dX4_makeCommon_169 : decode cX4_makeCommon 169 = .ok (.aload 6, 2) := by decide +kernel
theorem dX4_makeCommon_171 : decode cX4_makeCommon 171 = .ok (.iload 8, 2) := by decide +kernel
theorem dX4_makeCommon_173 : decode cX4_makeCommon 173 = .ok (.iaload, 1) := by decide +kernel
theorem dX4_makeCommon_174 : decode cX4_makeCommon 174 = .ok (.iastore, 1) := by decide +kernel
theorem dX4_makeCommon_175 : decode cX4_makeCommon 175 = .ok (.iinc 8 1, 3) := by decide +kernel
theorem dX4_makeCommon_178 : decode cX4_makeCommon 178 = .ok (.goto (-35), 3) := by decide +kernel
theorem dX4_makeCommon_181 : decode cX4_makeCommon 181 = .ok (.iload 5, 2) := by decide +kernel
theorem dX4_makeCommon_183 : decode cX4_makeCommon 183 = .ok (.iload 7, 2) := by decide +kernel
theorem dX4_makeCommon_185 : decode cX4_makeCommon 185 = .ok (.iadd, 1) := by decide +kernel
theorem dX4_makeCommon_186 : decode cX4_makeCommon 186 = .ok (.ireturn, 1) := by decide +kernel
theorem dX4_makePowers_0 : decode cX4_makePowers 0 = .ok (.aload_n 0, 1) := by decide +kernel
theorem dX4_makePowers_1 : decode cX4_makePowers 1 = .ok (.getfield 19, 3) := by decide +kernel
theorem dX4_makePowers_4 : decode cX4_makePowers 4 = .ok (.iload_n 1, 1) := by decide +kernel
theorem dX4_makePowers_5 : decode cX4_makePowers 5 = .ok (.invokestatic 186, 3) := by decide +kernel
theorem dX4_makePowers_8 : decode cX4_makePowers 8 = .ok (.aload_n 0, 1) := by decide +kernel
theorem dX4_makePowers_9 : decode cX4_makePowers 9 = .ok (.getfield 38, 3) := by decide +kernel
theorem dX4_makePowers_12 : decode cX4_makePowers 12 = .ok (.invokevirtual 155, 3) := by decide +kernel
theorem dX4_makePowers_15 : decode cX4_makePowers 15 = .ok (.aload_n 0, 1) := by decide +kernel
theorem dX4_makePowers_16 : decode cX4_makePowers 16 = .ok (.getfield 38, 3) := by decide +kernel
theorem dX4_makePowers_19 : decode cX4_makePowers 19 = .ok (.aload_n 2, 1) := by decide +kernel
theorem dX4_makePowers_20 : decode cX4_makePowers 20 = .ok (.iload_n 3, 1) := by decide +kernel
theorem dX4_makePowers_21 : decode cX4_makePowers 21 = .ok (.aload_n 0, 1) := by decide +kernel
theorem dX4_makePowers_22 : decode cX4_makePowers 22 = .ok (.getfield 19, 3) := by decide +kernel
theorem dX4_makePowers_25 : decode cX4_makePowers 25 = .ok (.iload_n 1, 1) := by decide +kernel
theorem dX4_makePowers_26 : decode cX4_makePowers 26 = .ok (.invokevirtual 275, 3) := by decide +kernel
theorem dX4_makePowers_29 : decode cX4_makePowers 29 = .ok (.aload_n 0, 1) := by decide +kernel
theorem dX4_makePowers_30 : decode cX4_makePowers 30 = .ok (.getfield 38, 3) := by decide +kernel
theorem dX4_makePowers_33 : decode cX4_makePowers 33 = .ok (.iload_n 1, 1) := by decide +kernel
theorem dX4_makePowers_34 : decode cX4_makePowers 34 = .ok (.iconst 1, 1) := by decide +kernel
theorem dX4_makePowers_35 : decode cX4_makePowers 35 = .ok (.iadd, 1) := by decide +kernel
theorem dX4_makePowers_36 : decode cX4_makePowers 36 = .ok (.iload_n 3, 1) := by decide +kernel
theorem dX4_makePowers_37 : decode cX4_makePowers 37 = .ok (.iconst 1, 1) := by decide +kernel
theorem dX4_makePowers_38 : decode cX4_makePowers 38 = .ok (.iadd, 1) := by decide +kernel
theorem dX4_makePowers_39 : decode cX4_makePowers 39 = .ok (.iload_n 3, 1) := by decide +kernel
theorem dX4_makePowers_40 : decode cX4_makePowers 40 = .ok (.invokevirtual 193, 3) := by decide +kernel
theorem dX4_makePowers_43 : decode cX4_makePowers 43 = .ok (.pop, 1) := by decide +kernel
theorem dX4_makePowers_44 : decode cX4_makePowers 44 = .ok (.iload_n 3, 1) := by decide +kernel
theorem dX4_makePowers_45 : decode cX4_makePowers 45 = .ok (.istore 4, 2) := by decide +kernel
theorem dX4_makePowers_47 : decode cX4_makePowers 47 = .ok (.iload 4, 2) := by decide +kernel
theorem dX4_makePowers_49 : decode cX4_makePowers 49 = .ok (.iload_n 1, 1) := by decide +kernel
theorem dX4_makePowers_50 : decode cX4_makePowers 50 = .ok (.if_icmp .gt 24, 3) := by decide +kernel
theorem dX4_makePowers_53 : decode cX4_makePowers 53 = .ok (.aload_n 0, 1) := by decide +kernel
theorem dX4_makePowers_54 : decode cX4_makePowers 54 = .ok (.getfield 38, 3) := by decide +kernel
theorem dX4_makePowers_57 : decode cX4_makePowers 57 = .ok (.iload 4, 2) := by decide +kernel
theorem dX4_makePowers_59 : decode cX4_makePowers 59 = .ok (.iload_n 3, 1) := by decide +kernel
theorem dX4_makePowers_60 : decode cX4_makePowers 60 = .ok (.invokevirtual 279, 3) := by decide +kernel
theorem dX4_makePowers_63 : decode cX4_makePowers 63 = .ok (.ifCond .eq 5, 3) := by decide +kernel
theorem dX4_makePowers_66 : decode cX4_makePowers 66 = .ok (.iconst 0, 1) := by decide +kernel
theorem dX4_makePowers_67 : decode cX4_makePowers 67 = .ok (.ireturn, 1) := by decide +kernel
theorem dX4_makePowers_68 : decode cX4_makePowers 68 = .ok (.iinc 4 1, 3) := by decide +kernel
theorem dX4_makePowers_71 : decode cX4_makePowers 71 = .ok (.goto (-24), 3) := by decide +kernel
theorem dX4_makePowers_74 : decode cX4_makePowers 74 = .ok (.aload_n 0, 1) := by decide +kernel
theorem dX4_makePowers_75 : decode cX4_makePowers 75 = .ok (.getfield 32, 3) := by decide +kernel
theorem dX4_makePowers_78 : decode cX4_makePowers 78 = .ok (.invokestatic 180, 3) := by decide +kernel
theorem dX4_makePowers_81 : decode cX4_makePowers 81 = .ok (.iconst 0, 1) := by decide +kernel
theorem dX4_makePowers_82 : decode cX4_makePowers 82 = .ok (.istore 4, 2) := by decide +kernel
theorem dX4_makePowers_84 : decode cX4_makePowers 84 = .ok (.iload 4, 2) := by decide +kernel
theorem dX4_makePowers_86 : decode cX4_makePowers 86 = .ok (.iload_n 3, 1) := by decide +kernel
theorem dX4_makePowers_87 : decode cX4_makePowers 87 = .ok (.if_icmp .ge 26, 3) := by decide +kernel
theorem dX4_makePowers_90 : decode cX4_makePowers 90 = .ok (.aload_n 0, 1) := by decide +kernel
theorem dX4_makePowers_91 : decode cX4_makePowers 91 = .ok (.getfield 32, 3) := by decide +kernel
theorem dX4_makePowers_94 : decode cX4_makePowers 94 = .ok (.iload 4, 2) := by decide +kernel
theorem dX4_makePowers_96 : decode cX4_makePowers 96 = .ok (.aload_n 0, 1) := by decide +kernel
theorem dX4_makePowers_97 : decode cX4_makePowers 97 = .ok (.getfield 38, 3) := by decide +kernel
theorem dX4_makePowers_100 : decode cX4_makePowers 100 = .ok (.iload 4, 2) := by decide +kernel
theorem dX4_makePowers_102 : decode cX4_makePowers 102 = .ok (.iload_n 3, 1) := by decide +kernel
theorem dX4_makePowers_103 : decode cX4_makePowers 103 = .ok (.invokevirtual 279, 3) := by decide +kernel
theorem dX4_makePowers_106 : decode cX4_makePowers 106 = .ok (.iastore, 1) := by decide +kernel
theorem dX4_makePowers_107 : decode cX4_makePowers 107 = .ok (.iinc 4 1, 3) := by decide +kernel
theorem dX4_makePowers_110 : decode cX4_makePowers 110 = .ok (.goto (-26), 3) := by decide +kernel
theorem dX4_makePowers_113 : decode cX4_makePowers 113 = .ok (.iconst 1, 1) := by decide +kernel
theorem dX4_makePowers_114 : decode cX4_makePowers 114 = .ok (.ireturn, 1) := by decide +kernel
theorem dX4_tablesWithin_0 : decode cX4_tablesWithin 0 = .ok (.iconst 2, 1) := by decide +kernel
theorem dX4_tablesWithin_1 : decode cX4_tablesWithin 1 = .ok (.iload_n 0, 1) := by decide +kernel
theorem dX4_tablesWithin_2 : decode cX4_tablesWithin 2 = .ok (.imul, 1) := by decide +kernel
theorem dX4_tablesWithin_3 : decode cX4_tablesWithin 3 = .ok (.iconst 1, 1) := by decide +kernel
theorem dX4_tablesWithin_4 : decode cX4_tablesWithin 4 = .ok (.iadd, 1) := by decide +kernel
theorem dX4_tablesWithin_5 : decode cX4_tablesWithin 5 = .ok (.istore_n 1, 1) := by decide +kernel
theorem dX4_tablesWithin_6 : decode cX4_tablesWithin 6 = .ok (.iload_n 1, 1) := by decide +kernel
theorem dX4_tablesWithin_7 : decode cX4_tablesWithin 7 = .ok (.iload_n 1, 1) := by decide +kernel
theorem dX4_tablesWithin_8 : decode cX4_tablesWithin 8 = .ok (.imul, 1) := by decide +kernel
theorem dX4_tablesWithin_9 : decode cX4_tablesWithin 9 = .ok (.iload_n 1, 1) := by decide +kernel
theorem dX4_tablesWithin_10 : decode cX4_tablesWithin 10 = .ok (.imul, 1) := by decide +kernel
theorem dX4_tablesWithin_11 : decode cX4_tablesWithin 11 = .ok (.iload_n 1, 1) := by decide +kernel
theorem dX4_tablesWithin_12 : decode cX4_tablesWithin 12 = .ok (.imul, 1) := by decide +kernel
theorem dX4_tablesWithin_13 : decode cX4_tablesWithin 13 = .ok (.ireturn, 1) := by decide +kernel
theorem dX4_entry_0 : decode cX4_entry 0 = .ok (.iconst 2, 1) := by decide +kernel
theorem dX4_entry_1 : decode cX4_entry 1 = .ok (.iload_n 0, 1) := by decide +kernel
theorem dX4_entry_2 : decode cX4_entry 2 = .ok (.imul, 1) := by decide +kernel
theorem dX4_entry_3 : decode cX4_entry 3 = .ok (.iconst 1, 1) := by decide +kernel
theorem dX4_entry_4 : decode cX4_entry 4 = .ok (.iadd, 1) := by decide +kernel
theorem dX4_entry_5 : decode cX4_entry 5 = .ok (.istore_n 3, 1) := by decide +kernel
theorem dX4_entry_6 : decode cX4_entry 6 = .ok (.iload_n 1, 1) := by decide +kernel
theorem dX4_entry_7 : decode cX4_entry 7 = .ok (.istore 4, 2) := by decide +kernel
theorem dX4_entry_9 : decode cX4_entry 9 = .ok (.iload_n 2, 1) := by decide +kernel
theorem dX4_entry_10 : decode cX4_entry 10 = .ok (.istore 5, 2) := by decide +kernel
theorem dX4_entry_12 : decode cX4_entry 12 = .ok (.iload 5, 2) := by decide +kernel
theorem dX4_entry_14 : decode cX4_entry 14 = .ok (.iconst 3, 1) := by decide +kernel
theorem dX4_entry_15 : decode cX4_entry 15 = .ok (.if_icmp .ge 15, 3) := by decide +kernel
theorem dX4_entry_18 : decode cX4_entry 18 = .ok (.iload 4, 2) := by decide +kernel
theorem dX4_entry_20 : decode cX4_entry 20 = .ok (.iload_n 3, 1) := by decide +kernel
theorem dX4_entry_21 : decode cX4_entry 21 = .ok (.idiv, 1) := by decide +kernel
theorem dX4_entry_22 : decode cX4_entry 22 = .ok (.istore 4, 2) := by decide +kernel
theorem dX4_entry_24 : decode cX4_entry 24 = .ok (.iinc 5 1, 3) := by decide +kernel
theorem dX4_entry_27 : decode cX4_entry 27 = .ok (.goto (-15), 3) := by decide +kernel
theorem dX4_entry_30 : decode cX4_entry 30 = .ok (.iload 4, 2) := by decide +kernel
theorem dX4_entry_32 : decode cX4_entry 32 = .ok (.iload_n 3, 1) := by decide +kernel
theorem dX4_entry_33 : decode cX4_entry 33 = .ok (.irem, 1) := by decide +kernel
theorem dX4_entry_34 : decode cX4_entry 34 = .ok (.iload_n 0, 1) := by decide +kernel
theorem dX4_entry_35 : decode cX4_entry 35 = .ok (.isub, 1) := by decide +kernel
theorem dX4_entry_36 : decode cX4_entry 36 = .ok (.ireturn, 1) := by decide +kernel
theorem dX4_codeOf_0 : decode cX4_codeOf 0 = .ok (.iconst 0, 1) := by decide +kernel
theorem dX4_codeOf_1 : decode cX4_codeOf 1 = .ok (.istore_n 2, 1) := by decide +kernel
theorem dX4_codeOf_2 : decode cX4_codeOf 2 = .ok (.iconst 0, 1) := by decide +kernel
theorem dX4_codeOf_3 : decode cX4_codeOf 3 = .ok (.istore_n 3, 1) := by decide +kernel
theorem dX4_codeOf_4 : decode cX4_codeOf 4 = .ok (.iload_n 3, 1) := by decide +kernel
theorem dX4_codeOf_5 : decode cX4_codeOf 5 = .ok (.iconst 4, 1) := by decide +kernel
theorem dX4_codeOf_6 : decode cX4_codeOf 6 = .ok (.if_icmp .ge 23, 3) := by decide +kernel
theorem dX4_codeOf_9 : decode cX4_codeOf 9 = .ok (.bipush 10, 2) := by decide +kernel
theorem dX4_codeOf_11 : decode cX4_codeOf 11 = .ok (.iload_n 2, 1) := by decide +kernel
theorem dX4_codeOf_12 : decode cX4_codeOf 12 = .ok (.imul, 1) := by decide +kernel
theorem dX4_codeOf_13 : decode cX4_codeOf 13 = .ok (.iload_n 0, 1) := by decide +kernel
theorem dX4_codeOf_14 : decode cX4_codeOf 14 = .ok (.iload_n 1, 1) := by decide +kernel
theorem dX4_codeOf_15 : decode cX4_codeOf 15 = .ok (.iload_n 3, 1) := by decide +kernel
theorem dX4_codeOf_16 : decode cX4_codeOf 16 = .ok (.invokestatic 282, 3) := by decide +kernel
theorem dX4_codeOf_19 : decode cX4_codeOf 19 = .ok (.iadd, 1) := by decide +kernel
theorem dX4_codeOf_20 : decode cX4_codeOf 20 = .ok (.iconst 2, 1) := by decide +kernel
theorem dX4_codeOf_21 : decode cX4_codeOf 21 = .ok (.iadd, 1) := by decide +kernel
theorem dX4_codeOf_22 : decode cX4_codeOf 22 = .ok (.istore_n 2, 1) := by decide +kernel
theorem dX4_codeOf_23 : decode cX4_codeOf 23 = .ok (.iinc 3 1, 3) := by decide +kernel
theorem dX4_codeOf_26 : decode cX4_codeOf 26 = .ok (.goto (-22), 3) := by decide +kernel
theorem dX4_codeOf_29 : decode cX4_codeOf 29 = .ok (.iload_n 2, 1) := by decide +kernel
theorem dX4_codeOf_30 : decode cX4_codeOf 30 = .ok (.ireturn, 1) := by decide +kernel
theorem dX4_loadLeads_0 : decode cX4_loadLeads 0 = .ok (.aload_n 0, 1) := by decide +kernel
theorem dX4_loadLeads_1 : decode cX4_loadLeads 1 = .ok (.iload_n 1, 1) := by decide +kernel
theorem dX4_loadLeads_2 : decode cX4_loadLeads 2 = .ok (.aload_n 0, 1) := by decide +kernel
theorem dX4_loadLeads_3 : decode cX4_loadLeads 3 = .ok (.getfield 19, 3) := by decide +kernel
theorem dX4_loadLeads_6 : decode cX4_loadLeads 6 = .ok (.invokevirtual 105, 3) := by decide +kernel
theorem dX4_loadLeads_9 : decode cX4_loadLeads 9 = .ok (.istore_n 3, 1) := by decide +kernel
theorem dX4_loadLeads_10 : decode cX4_loadLeads 10 = .ok (.aload_n 0, 1) := by decide +kernel
theorem dX4_loadLeads_11 : decode cX4_loadLeads 11 = .ok (.iload_n 2, 1) := by decide +kernel
theorem dX4_loadLeads_12 : decode cX4_loadLeads 12 = .ok (.aload_n 0, 1) := by decide +kernel
theorem dX4_loadLeads_13 : decode cX4_loadLeads 13 = .ok (.getfield 23, 3) := by decide +kernel
theorem dX4_loadLeads_16 : decode cX4_loadLeads 16 = .ok (.invokevirtual 105, 3) := by decide +kernel
theorem dX4_loadLeads_19 : decode cX4_loadLeads 19 = .ok (.pop, 1) := by decide +kernel
theorem dX4_loadLeads_20 : decode cX4_loadLeads 20 = .ok (.iconst 0, 1) := by decide +kernel
theorem dX4_loadLeads_21 : decode cX4_loadLeads 21 = .ok (.istore 4, 2) := by decide +kernel
theorem dX4_loadLeads_23 : decode cX4_loadLeads 23 = .ok (.iload 4, 2) := by decide +kernel
theorem dX4_loadLeads_25 : decode cX4_loadLeads 25 = .ok (.iload_n 3, 1) := by decide +kernel
theorem dX4_loadLeads_26 : decode cX4_loadLeads 26 = .ok (.if_icmp .gt 26, 3) := by decide +kernel
theorem dX4_loadLeads_29 : decode cX4_loadLeads 29 = .ok (.aload_n 0, 1) := by decide +kernel
theorem dX4_loadLeads_30 : decode cX4_loadLeads 30 = .ok (.getfield 26, 3) := by decide +kernel
theorem dX4_loadLeads_33 : decode cX4_loadLeads 33 = .ok (.iload 4, 2) := by decide +kernel
theorem dX4_loadLeads_35 : decode cX4_loadLeads 35 = .ok (.aload_n 0, 1) := by decide +kernel
theorem dX4_loadLeads_36 : decode cX4_loadLeads 36 = .ok (.getfield 23, 3) := by decide +kernel
theorem dX4_loadLeads_39 : decode cX4_loadLeads 39 = .ok (.iload_n 3, 1) := by decide +kernel
theorem dX4_loadLeads_40 : decode cX4_loadLeads 40 = .ok (.iload 4, 2) := by decide +kernel
theorem dX4_loadLeads_42 : decode cX4_loadLeads 42 = .ok (.invokestatic 255, 3) := by decide +kernel
theorem dX4_loadLeads_45 : decode cX4_loadLeads 45 = .ok (.iastore, 1) := by decide +kernel
theorem dX4_loadLeads_46 : decode cX4_loadLeads 46 = .ok (.iinc 4 1, 3) := by decide +kernel
theorem dX4_loadLeads_49 : decode cX4_loadLeads 49 = .ok (.goto (-26), 3) := by decide +kernel
theorem dX4_loadLeads_52 : decode cX4_loadLeads 52 = .ok (.iload_n 3, 1) := by decide +kernel
theorem dX4_loadLeads_53 : decode cX4_loadLeads 53 = .ok (.ireturn, 1) := by decide +kernel
theorem dX4_isLead_0 : decode cX4_isLead 0 = .ok (.iload_n 2, 1) := by decide +kernel
theorem dX4_isLead_1 : decode cX4_isLead 1 = .ok (.iload_n 3, 1) := by decide +kernel
theorem dX4_isLead_2 : decode cX4_isLead 2 = .ok (.iconst 0, 1) := by decide +kernel
theorem dX4_isLead_3 : decode cX4_isLead 3 = .ok (.invokestatic 282, 3) := by decide +kernel
theorem dX4_isLead_6 : decode cX4_isLead 6 = .ok (.istore 4, 2) := by decide +kernel
theorem dX4_isLead_8 : decode cX4_isLead 8 = .ok (.iload_n 2, 1) := by decide +kernel
theorem dX4_isLead_9 : decode cX4_isLead 9 = .ok (.iload_n 3, 1) := by decide +kernel
theorem dX4_isLead_10 : decode cX4_isLead 10 = .ok (.iconst 1, 1) := by decide +kernel
theorem dX4_isLead_11 : decode cX4_isLead 11 = .ok (.invokestatic 282, 3) := by decide +kernel
theorem dX4_isLead_14 : decode cX4_isLead 14 = .ok (.istore 5, 2) := by decide +kernel
theorem dX4_isLead_16 : decode cX4_isLead 16 = .ok (.iload_n 2, 1) := by decide +kernel
theorem dX4_isLead_17 : decode cX4_isLead 17 = .ok (.iload_n 3, 1) := by decide +kernel
theorem dX4_isLead_18 : decode cX4_isLead 18 = .ok (.iconst 2, 1) := by decide +kernel
theorem dX4_isLead_19 : decode cX4_isLead 19 = .ok (.invokestatic 282, 3) := by decide +kernel
theorem dX4_isLead_22 : decode cX4_isLead 22 = .ok (.istore 6, 2) := by decide +kernel
theorem dX4_isLead_24 : decode cX4_isLead 24 = .ok (.iload_n 2, 1) := by decide +kernel
theorem dX4_isLead_25 : decode cX4_isLead 25 = .ok (.iload_n 3, 1) := by decide +kernel
theorem dX4_isLead_26 : decode cX4_isLead 26 = .ok (.iconst 3, 1) := by decide +kernel
theorem dX4_isLead_27 : decode cX4_isLead 27 = .ok (.invokestatic 282, 3) := by decide +kernel
theorem dX4_isLead_30 : decode cX4_isLead 30 = .ok (.istore 7, 2) := by decide +kernel
theorem dX4_isLead_32 : decode cX4_isLead 32 = .ok (.iload 4, 2) := by decide +kernel
theorem dX4_isLead_34 : decode cX4_isLead 34 = .ok (.iload 7, 2) := by decide +kernel
theorem dX4_isLead_36 : decode cX4_isLead 36 = .ok (.imul, 1) := by decide +kernel
theorem dX4_isLead_37 : decode cX4_isLead 37 = .ok (.iload 5, 2) := by decide +kernel
theorem dX4_isLead_39 : decode cX4_isLead 39 = .ok (.iload 6, 2) := by decide +kernel
theorem dX4_isLead_41 : decode cX4_isLead 41 = .ok (.imul, 1) := by decide +kernel
theorem dX4_isLead_42 : decode cX4_isLead 42 = .ok (.if_icmp .ne 5, 3) := by decide +kernel
theorem dX4_isLead_45 : decode cX4_isLead 45 = .ok (.iconst 0, 1) := by decide +kernel
theorem dX4_isLead_46 : decode cX4_isLead 46 = .ok (.ireturn, 1) := by decide +kernel
theorem dX4_isLead_47 : decode cX4_isLead 47 = .ok (.iconst 0, 1) := by decide +kernel
theorem dX4_isLead_48 : decode cX4_isLead 48 = .ok (.istore 8, 2) := by decide +kernel
theorem dX4_isLead_50 : decode cX4_isLead 50 = .ok (.iload 8, 2) := by decide +kernel
theorem dX4_isLead_52 : decode cX4_isLead 52 = .ok (.iload_n 1, 1) := by decide +kernel
theorem dX4_isLead_53 : decode cX4_isLead 53 = .ok (.if_icmp .gt 59, 3) := by decide +kernel
theorem dX4_isLead_56 : decode cX4_isLead 56 = .ok (.iload 4, 2) := by decide +kernel
theorem dX4_isLead_58 : decode cX4_isLead 58 = .ok (.iload 5, 2) := by decide +kernel
theorem dX4_isLead_60 : decode cX4_isLead 60 = .ok (.iload 8, 2) := by decide +kernel
theorem dX4_isLead_62 : decode cX4_isLead 62 = .ok (.imul, 1) := by decide +kernel
theorem dX4_isLead_63 : decode cX4_isLead 63 = .ok (.iadd, 1) := by decide +kernel
theorem dX4_isLead_64 : decode cX4_isLead 64 = .ok (.invokestatic 109, 3) := by decide +kernel
theorem dX4_isLead_67 : decode cX4_isLead 67 = .ok (.istore 9, 2) := by decide +kernel
theorem dX4_isLead_69 : decode cX4_isLead 69 = .ok (.iload 6, 2) := by decide +kernel
theorem dX4_isLead_71 : decode cX4_isLead 71 = .ok (.iload 7, 2) := by decide +kernel
theorem dX4_isLead_73 : decode cX4_isLead 73 = .ok (.iload 8, 2) := by decide +kernel
theorem dX4_isLead_75 : decode cX4_isLead 75 = .ok (.imul, 1) := by decide +kernel
theorem dX4_isLead_76 : decode cX4_isLead 76 = .ok (.iadd, 1) := by decide +kernel
theorem dX4_isLead_77 : decode cX4_isLead 77 = .ok (.invokestatic 109, 3) := by decide +kernel
theorem dX4_isLead_80 : decode cX4_isLead 80 = .ok (.istore 10, 2) := by decide +kernel
theorem dX4_isLead_82 : decode cX4_isLead 82 = .ok (.aload_n 0, 1) := by decide +kernel
theorem dX4_isLead_83 : decode cX4_isLead 83 = .ok (.getfield 19, 3) := by decide +kernel
theorem dX4_isLead_86 : decode cX4_isLead 86 = .ok (.iload_n 1, 1) := by decide +kernel
theorem dX4_isLead_87 : decode cX4_isLead 87 = .ok (.iload 9, 2) := by decide +kernel
theorem dX4_isLead_89 : decode cX4_isLead 89 = .ok (.iload 10, 2) := by decide +kernel
theorem dX4_isLead_91 : decode cX4_isLead 91 = .ok (.invokestatic 114, 3) := by decide +kernel
theorem dX4_isLead_94 : decode cX4_isLead 94 = .ok (.aload_n 0, 1) := by decide +kernel
theorem dX4_isLead_95 : decode cX4_isLead 95 = .ok (.getfield 26, 3) := by decide +kernel
theorem dX4_isLead_98 : decode cX4_isLead 98 = .ok (.iload 8, 2) := by decide +kernel
theorem dX4_isLead_100 : decode cX4_isLead 100 = .ok (.iaload, 1) := by decide +kernel
theorem dX4_isLead_101 : decode cX4_isLead 101 = .ok (.if_icmp .eq 5, 3) := by decide +kernel
theorem dX4_isLead_104 : decode cX4_isLead 104 = .ok (.iconst 0, 1) := by decide +kernel
theorem dX4_isLead_105 : decode cX4_isLead 105 = .ok (.ireturn, 1) := by decide +kernel
theorem dX4_isLead_106 : decode cX4_isLead 106 = .ok (.iinc 8 1, 3) := by decide +kernel
theorem dX4_isLead_109 : decode cX4_isLead 109 = .ok (.goto (-59), 3) := by decide +kernel
theorem dX4_isLead_112 : decode cX4_isLead 112 = .ok (.iconst 1, 1) := by decide +kernel
theorem dX4_isLead_113 : decode cX4_isLead 113 = .ok (.ireturn, 1) := by decide +kernel
theorem dX4_countWays_0 : decode cX4_countWays 0 = .ok (.iconst 0, 1) := by decide +kernel
theorem dX4_countWays_1 : decode cX4_countWays 1 = .ok (.istore 4, 2) := by decide +kernel
theorem dX4_countWays_3 : decode cX4_countWays 3 = .ok (.iload 4, 2) := by decide +kernel
theorem dX4_countWays_5 : decode cX4_countWays 5 = .ok (.iload_n 2, 1) := by decide +kernel
theorem dX4_countWays_6 : decode cX4_countWays 6 = .ok (.if_icmp .gt 47, 3) := by decide +kernel
theorem dX4_countWays_9 : decode cX4_countWays 9 = .ok (.iconst 0, 1) := by decide +kernel
theorem dX4_countWays_10 : decode cX4_countWays 10 = .ok (.istore 5, 2) := by decide +kernel
theorem dX4_countWays_12 : decode cX4_countWays 12 = .ok (.iload 5, 2) := by decide +kernel
theorem dX4_countWays_14 : decode cX4_countWays 14 = .ok (.iload_n 3, 1) := by decide +kernel
theorem dX4_countWays_15 : decode cX4_countWays 15 = .ok (.if_icmp .gt 32, 3) := by decide +kernel
theorem dX4_countWays_18 : decode cX4_countWays 18 = .ok (.aload_n 0, 1) := by decide +kernel
theorem dX4_countWays_19 : decode cX4_countWays 19 = .ok (.getfield 42, 3) := by decide +kernel
theorem dX4_countWays_22 : decode cX4_countWays 22 = .ok (.iload 4, 2) := by decide +kernel
theorem dX4_countWays_24 : decode cX4_countWays 24 = .ok (.bipush 33, 2) := by decide +kernel
theorem dX4_countWays_26 : decode cX4_countWays 26 = .ok (.imul, 1) := by decide +kernel
theorem dX4_countWays_27 : decode cX4_countWays 27 = .ok (.iload 5, 2) := by decide +kernel
theorem dX4_countWays_29 : decode cX4_countWays 29 = .ok (.iadd, 1) := by decide +kernel
theorem dX4_countWays_30 : decode cX4_countWays 30 = .ok (.iload 5, 2) := by decide +kernel
theorem dX4_countWays_32 : decode cX4_countWays 32 = .ok (.ifCond .ne 7, 3) := by decide +kernel
theorem dX4_countWays_35 : decode cX4_countWays 35 = .ok (.iconst 1, 1) := by decide +kernel
theorem dX4_countWays_36 : decode cX4_countWays 36 = .ok (.goto 4, 3) := by decide +kernel
theorem dX4_countWays_39 : decode cX4_countWays 39 = .ok (.iconst 0, 1) := by decide +kernel
theorem dX4_countWays_40 : decode cX4_countWays 40 = .ok (.iastore, 1) := by decide +kernel
theorem dX4_countWays_41 : decode cX4_countWays 41 = .ok (.iinc 5 1, 3) := by decide +kernel
theorem dX4_countWays_44 : decode cX4_countWays 44 = .ok (.goto (-32), 3) := by decide +kernel
theorem dX4_countWays_47 : decode cX4_countWays 47 = .ok (.iinc 4 1, 3) := by decide +kernel
theorem dX4_countWays_50 : decode cX4_countWays 50 = .ok (.goto (-47), 3) := by decide +kernel
theorem dX4_countWays_53 : decode cX4_countWays 53 = .ok (.iconst 1, 1) := by decide +kernel
theorem dX4_countWays_54 : decode cX4_countWays 54 = .ok (.istore 4, 2) := by decide +kernel
theorem dX4_countWays_56 : decode cX4_countWays 56 = .ok (.iload 4, 2) := by decide +kernel
theorem dX4_countWays_58 : decode cX4_countWays 58 = .ok (.iload_n 1, 1) := by decide +kernel
theorem dX4_countWays_59 : decode cX4_countWays 59 = .ok (.if_icmp .gt 74, 3) := by decide +kernel
theorem dX4_countWays_62 : decode cX4_countWays 62 = .ok (.iconst 1, 1) := by decide +kernel
theorem dX4_countWays_63 : decode cX4_countWays 63 = .ok (.istore 5, 2) := by decide +kernel
theorem dX4_countWays_65 : decode cX4_countWays 65 = .ok (.iload 5, 2) := by decide +kernel
theorem dX4_countWays_67 : decode cX4_countWays 67 = .ok (.iload_n 2, 1) := by decide +kernel
theorem dX4_countWays_68 : decode cX4_countWays 68 = .ok (.if_icmp .gt 59, 3) := by decide +kernel
theorem dX4_countWays_71 : decode cX4_countWays 71 = .ok (.iload 4, 2) := by decide +kernel
theorem dX4_countWays_73 : decode cX4_countWays 73 = .ok (.istore 6, 2) := by decide +kernel
theorem dX4_countWays_75 : decode cX4_countWays 75 = .ok (.iload 6, 2) := by decide +kernel
theorem dX4_countWays_77 : decode cX4_countWays 77 = .ok (.iload_n 3, 1) := by decide +kernel
theorem dX4_countWays_78 : decode cX4_countWays 78 = .ok (.if_icmp .gt 43, 3) := by decide +kernel
theorem dX4_countWays_81 : decode cX4_countWays 81 = .ok (.aload_n 0, 1) := by decide +kernel
theorem dX4_countWays_82 : decode cX4_countWays 82 = .ok (.getfield 42, 3) := by decide +kernel
theorem dX4_countWays_85 : decode cX4_countWays 85 = .ok (.iload 5, 2) := by decide +kernel
theorem dX4_countWays_87 : decode cX4_countWays 87 = .ok (.bipush 33, 2) := by decide +kernel
theorem dX4_countWays_89 : decode cX4_countWays 89 = .ok (.imul, 1) := by decide +kernel
theorem dX4_countWays_90 : decode cX4_countWays 90 = .ok (.iload 6, 2) := by decide +kernel
theorem dX4_countWays_92 : decode cX4_countWays 92 = .ok (.iadd, 1) := by decide +kernel
theorem dX4_countWays_93 : decode cX4_countWays 93 = .ok (.dup2, 1) := by decide +kernel
theorem dX4_countWays_94 : decode cX4_countWays 94 = .ok (.iaload, 1) := by decide +kernel
theorem dX4_countWays_95 : decode cX4_countWays 95 = .ok (.aload_n 0, 1) := by decide +kernel
theorem dX4_countWays_96 : decode cX4_countWays 96 = .ok (.getfield 42, 3) := by decide +kernel
theorem dX4_countWays_99 : decode cX4_countWays 99 = .ok (.iload 5, 2) := by decide +kernel
theorem dX4_countWays_101 : decode cX4_countWays 101 = .ok (.iconst 1, 1) := by decide +kernel
theorem dX4_countWays_102 : decode cX4_countWays 102 = .ok (.isub, 1) := by decide +kernel
theorem dX4_countWays_103 : decode cX4_countWays 103 = .ok (.bipush 33, 2) := by decide +kernel
theorem dX4_countWays_105 : decode cX4_countWays 105 = .ok (.imul, 1) := by decide +kernel
theorem dX4_countWays_106 : decode cX4_countWays 106 = .ok (.iload 6, 2) := by decide +kernel
theorem dX4_countWays_108 : decode cX4_countWays 108 = .ok (.iadd, 1) := by decide +kernel
theorem dX4_countWays_109 : decode cX4_countWays 109 = .ok (.iload 4, 2) := by decide +kernel
theorem dX4_countWays_111 : decode cX4_countWays 111 = .ok (.isub, 1) := by decide +kernel
theorem dX4_countWays_112 : decode cX4_countWays 112 = .ok (.iaload, 1) := by decide +kernel
theorem dX4_countWays_113 : decode cX4_countWays 113 = .ok (.iadd, 1) := by decide +kernel
theorem dX4_countWays_114 : decode cX4_countWays 114 = .ok (.iastore, 1) := by decide +kernel
theorem dX4_countWays_115 : decode cX4_countWays 115 = .ok (.iinc 6 1, 3) := by decide +kernel
theorem dX4_countWays_118 : decode cX4_countWays 118 = .ok (.goto (-43), 3) := by decide +kernel
theorem dX4_countWays_121 : decode cX4_countWays 121 = .ok (.iinc 5 1, 3) := by decide +kernel
theorem dX4_countWays_124 : decode cX4_countWays 124 = .ok (.goto (-59), 3) := by decide +kernel
theorem dX4_countWays_127 : decode cX4_countWays 127 = .ok (.iinc 4 1, 3) := by decide +kernel
theorem dX4_countWays_130 : decode cX4_countWays 130 = .ok (.goto (-74), 3) := by decide +kernel
theorem dX4_countWays_133 : decode cX4_countWays 133 = .ok (.return_, 1) := by decide +kernel
end
section
theorem dX5_init_0 : decode cX5_init 0 = .ok (.aload_n 0, 1) := by decide +kernel
theorem dX5_init_1 : decode cX5_init 1 = .ok (.invokespecial 1, 3) := by decide +kernel
theorem dX5_init_4 : decode cX5_init 4 = .ok (.aload_n 0, 1) := by decide +kernel
theorem dX5_init_5 : decode cX5_init 5 = .ok (.bipush 10, 2) := by decide +kernel
theorem dX5_init_7 : decode cX5_init 7 = .ok (.newarray .int, 2) := by decide +kernel
theorem dX5_init_9 : decode cX5_init 9 = .ok (.putfield 7, 3) := by decide +kernel
theorem dX5_init_12 : decode cX5_init 12 = .ok (.aload_n 0, 1) := by decide +kernel
theorem dX5_init_13 : decode cX5_init 13 = .ok (.bipush 10, 2) := by decide +kernel
theorem dX5_init_15 : decode cX5_init 15 = .ok (.newarray .int, 2) := by decide +kernel
theorem dX5_init_17 : decode cX5_init 17 = .ok (.putfield 13, 3) := by decide +kernel
theorem dX5_init_20 : decode cX5_init 20 = .ok (.aload_n 0, 1) := by decide +kernel
theorem dX5_init_21 : decode cX5_init 21 = .ok (.bipush 120, 2) := by decide +kernel
theorem dX5_init_23 : decode cX5_init 23 = .ok (.newarray .int, 2) := by decide +kernel
theorem dX5_init_25 : decode cX5_init 25 = .ok (.putfield 16, 3) := by decide +kernel
theorem dX5_init_28 : decode cX5_init 28 = .ok (.aload_n 0, 1) := by decide +kernel
theorem dX5_init_29 : decode cX5_init 29 = .ok (.bipush 12, 2) := by decide +kernel
theorem dX5_init_31 : decode cX5_init 31 = .ok (.newarray .int, 2) := by decide +kernel
theorem dX5_init_33 : decode cX5_init 33 = .ok (.putfield 19, 3) := by decide +kernel
theorem dX5_init_36 : decode cX5_init 36 = .ok (.aload_n 0, 1) := by decide +kernel
theorem dX5_init_37 : decode cX5_init 37 = .ok (.bipush 9, 2) := by decide +kernel
theorem dX5_init_39 : decode cX5_init 39 = .ok (.newarray .int, 2) := by decide +kernel
theorem dX5_init_41 : decode cX5_init 41 = .ok (.putfield 22, 3) := by decide +kernel
theorem dX5_init_44 : decode cX5_init 44 = .ok (.aload_n 0, 1) := by decide +kernel
theorem dX5_init_45 : decode cX5_init 45 = .ok (.bipush 9, 2) := by decide +kernel
theorem dX5_init_47 : decode cX5_init 47 = .ok (.newarray .int, 2) := by decide +kernel
theorem dX5_init_49 : decode cX5_init 49 = .ok (.putfield 25, 3) := by decide +kernel
theorem dX5_init_52 : decode cX5_init 52 = .ok (.aload_n 0, 1) := by decide +kernel
theorem dX5_init_53 : decode cX5_init 53 = .ok (.bipush 20, 2) := by decide +kernel
theorem dX5_init_55 : decode cX5_init 55 = .ok (.newarray .int, 2) := by decide +kernel
theorem dX5_init_57 : decode cX5_init 57 = .ok (.putfield 28, 3) := by decide +kernel
theorem dX5_init_60 : decode cX5_init 60 = .ok (.aload_n 0, 1) := by decide +kernel
theorem dX5_init_61 : decode cX5_init 61 = .ok (.bipush 10, 2) := by decide +kernel
theorem dX5_init_63 : decode cX5_init 63 = .ok (.newarray .int, 2) := by decide +kernel
theorem dX5_init_65 : decode cX5_init 65 = .ok (.putfield 31, 3) := by decide +kernel
theorem dX5_init_68 : decode cX5_init 68 = .ok (.aload_n 0, 1) := by decide +kernel
theorem dX5_init_69 : decode cX5_init 69 = .ok (.sipush 324, 3) := by decide +kernel
theorem dX5_init_72 : decode cX5_init 72 = .ok (.newarray .int, 2) := by decide +kernel
theorem dX5_init_74 : decode cX5_init 74 = .ok (.putfield 34, 3) := by decide +kernel
theorem dX5_init_77 : decode cX5_init 77 = .ok (.aload_n 0, 1) := by decide +kernel
theorem dX5_init_78 : decode cX5_init 78 = .ok (.bipush 12, 2) := by decide +kernel
theorem dX5_init_80 : decode cX5_init 80 = .ok (.newarray .int, 2) := by decide +kernel
theorem dX5_init_82 : decode cX5_init 82 = .ok (.putfield 37, 3) := by decide +kernel
theorem dX5_init_85 : decode cX5_init 85 = .ok (.aload_n 0, 1) := by decide +kernel
theorem dX5_init_86 : decode cX5_init 86 = .ok (.bipush 12, 2) := by decide +kernel
theorem dX5_init_88 : decode cX5_init 88 = .ok (.newarray .int, 2) := by decide +kernel
theorem dX5_init_90 : decode cX5_init 90 = .ok (.putfield 40, 3) := by decide +kernel
theorem dX5_init_93 : decode cX5_init 93 = .ok (.aload_n 0, 1) := by decide +kernel
theorem dX5_init_94 : decode cX5_init 94 = .ok (.sipush 297, 3) := by decide +kernel
theorem dX5_init_97 : decode cX5_init 97 = .ok (.newarray .int, 2) := by decide +kernel
theorem dX5_init_99 : decode cX5_init 99 = .ok (.putfield 43, 3) := by decide +kernel
theorem dX5_init_102 : decode cX5_init 102 = .ok (.iconst 0, 1) := by decide +kernel
theorem dX5_init_103 : decode cX5_init 103 = .ok (.istore_n 1, 1) := by decide +kernel
theorem dX5_init_104 : decode cX5_init 104 = .ok (.iload_n 1, 1) := by decide +kernel
theorem dX5_init_105 : decode cX5_init 105 = .ok (.bipush 10, 2) := by decide +kernel
theorem dX5_init_107 : decode cX5_init 107 = .ok (.if_icmp .ge 16, 3) := by decide +kernel
theorem dX5_init_110 : decode cX5_init 110 = .ok (.aload_n 0, 1) := by decide +kernel
theorem dX5_init_111 : decode cX5_init 111 = .ok (.getfield 7, 3) := by decide +kernel
theorem dX5_init_114 : decode cX5_init 114 = .ok (.iload_n 1, 1) := by decide +kernel
theorem dX5_init_115 : decode cX5_init 115 = .ok (.iconst (-1), 1) := by decide +kernel
theorem dX5_init_116 : decode cX5_init 116 = .ok (.iastore, 1) := by decide +kernel
theorem dX5_init_117 : decode cX5_init 117 = .ok (.iinc 1 1, 3) := by decide +kernel
theorem dX5_init_120 : decode cX5_init 120 = .ok (.goto (-16), 3) := by decide +kernel
theorem dX5_init_123 : decode cX5_init 123 = .ok (.return_, 1) := by decide +kernel
theorem dX5_in_0 : decode cX5_in 0 = .ok (.lload_n 0, 1) := by decide +kernel
theorem dX5_in_1 : decode cX5_in 1 = .ok (.lload_n 2, 1) := by decide +kernel
theorem dX5_in_2 : decode cX5_in 2 = .ok (.lcmp, 1) := by decide +kernel
theorem dX5_in_3 : decode cX5_in 3 = .ok (.ifCond .lt 14, 3) := by decide +kernel
theorem dX5_in_6 : decode cX5_in 6 = .ok (.lload_n 0, 1) := by decide +kernel
theorem dX5_in_7 : decode cX5_in 7 = .ok (.lload 4, 2) := by decide +kernel
theorem dX5_in_9 : decode cX5_in 9 = .ok (.lcmp, 1) := by decide +kernel
theorem dX5_in_10 : decode cX5_in 10 = .ok (.ifCond .gt 7, 3) := by decide +kernel
theorem dX5_in_13 : decode cX5_in 13 = .ok (.iconst 1, 1) := by decide +kernel
theorem dX5_in_14 : decode cX5_in 14 = .ok (.goto 4, 3) := by decide +kernel
theorem dX5_in_17 : decode cX5_in 17 = .ok (.iconst 0, 1) := by decide +kernel
theorem dX5_in_18 : decode cX5_in 18 = .ok (.ireturn, 1) := by decide +kernel
theorem dX5_mod_0 : decode cX5_mod 0 = .ok (.lload_n 0, 1) := by decide +kernel
theorem dX5_mod_1 : decode cX5_mod 1 = .ok (.ldc2_w 46, 3) := by decide +kernel
theorem dX5_mod_4 : decode cX5_mod 4 = .ok (.lrem, 1) := by decide +kernel
theorem dX5_mod_5 : decode cX5_mod 5 = .ok (.lstore_n 2, 1) := by decide +kernel
theorem dX5_mod_6 : decode cX5_mod 6 = .ok (.lload_n 2, 1) := by decide +kernel
theorem dX5_mod_7 : decode cX5_mod 7 = .ok (.lconst 0, 1) := by decide +kernel
theorem dX5_mod_8 : decode cX5_mod 8 = .ok (.lcmp, 1) := by decide +kernel
theorem dX5_mod_9 : decode cX5_mod 9 = .ok (.ifCond .ge 11, 3) := by decide +kernel
theorem dX5_mod_12 : decode cX5_mod 12 = .ok (.lload_n 2, 1) := by decide +kernel
theorem dX5_mod_13 : decode cX5_mod 13 = .ok (.ldc2_w 46, 3) := by decide +kernel
theorem dX5_mod_16 : decode cX5_mod 16 = .ok (.ladd, 1) := by decide +kernel
theorem dX5_mod_17 : decode cX5_mod 17 = .ok (.goto 4, 3) := by decide +kernel
theorem dX5_mod_20 : decode cX5_mod 20 = .ok (.lload_n 2, 1) := by decide +kernel
theorem dX5_mod_21 : decode cX5_mod 21 = .ok (.l2i, 1) := by decide +kernel
theorem dX5_mod_22 : decode cX5_mod 22 = .ok (.ireturn, 1) := by decide +kernel
theorem dX5_times_0 : decode cX5_times 0 = .ok (.iload_n 0, 1) := by decide +kernel
theorem dX5_times_1 : decode cX5_times 1 = .ok (.i2l, 1) := by decide +kernel
theorem dX5_times_2 : decode cX5_times 2 = .ok (.iload_n 1, 1) := by decide +kernel
theorem dX5_times_3 : decode cX5_times 3 = .ok (.i2l, 1) := by decide +kernel
theorem dX5_times_4 : decode cX5_times 4 = .ok (.lmul, 1) := by decide +kernel
theorem dX5_times_5 : decode cX5_times 5 = .ok (.invokestatic 48, 3) := by decide +kernel
theorem dX5_times_8 : decode cX5_times 8 = .ok (.ireturn, 1) := by decide +kernel
theorem dX5_turned_0 : decode cX5_turned 0 = .ok (.iconst 1, 1) := by decide +kernel
theorem dX5_turned_1 : decode cX5_turned 1 = .ok (.istore_n 1, 1) := by decide +kernel
theorem dX5_turned_2 : decode cX5_turned 2 = .ok (.iload_n 0, 1) := by decide +kernel
theorem dX5_turned_3 : decode cX5_turned 3 = .ok (.istore_n 2, 1) := by decide +kernel
theorem dX5_turned_4 : decode cX5_turned 4 = .ok (.sipush 10005, 3) := by decide +kernel
theorem dX5_turned_7 : decode cX5_turned 7 = .ok (.istore_n 3, 1) := by decide +kernel
theorem dX5_turned_8 : decode cX5_turned 8 = .ok (.iload_n 3, 1) := by decide +kernel
theorem dX5_turned_9 : decode cX5_turned 9 = .ok (.ifCond .le 29, 3) := by decide +kernel
theorem dX5_turned_12 : decode cX5_turned 12 = .ok (.iload_n 3, 1) := by decide +kernel
theorem dX5_turned_13 : decode cX5_turned 13 = .ok (.iconst 2, 1) := by decide +kernel
theorem dX5_turned_14 : decode cX5_turned 14 = .ok (.irem, 1) := by decide +kernel
theorem dX5_turned_15 : decode cX5_turned 15 = .ok (.iconst 1, 1) := by decide +kernel
theorem dX5_turned_16 : decode cX5_turned 16 = .ok (.if_icmp .ne 9, 3) := by decide +kernel
theorem dX5_turned_19 : decode cX5_turned 19 = .ok (.iload_n 1, 1) := by decide +kernel
theorem dX5_turned_20 : decode cX5_turned 20 = .ok (.iload_n 2, 1) := by decide +kernel
theorem dX5_turned_21 : decode cX5_turned 21 = .ok (.invokestatic 52, 3) := by decide +kernel
theorem dX5_turned_24 : decode cX5_turned 24 = .ok (.istore_n 1, 1) := by decide +kernel
theorem dX5_turned_25 : decode cX5_turned 25 = .ok (.iload_n 2, 1) := by decide +kernel
theorem dX5_turned_26 : decode cX5_turned 26 = .ok (.iload_n 2, 1) := by decide +kernel
theorem dX5_turned_27 : decode cX5_turned 27 = .ok (.invokestatic 52, 3) := by decide +kernel
theorem dX5_turned_30 : decode cX5_turned 30 = .ok (.istore_n 2, 1) := by decide +kernel
theorem dX5_turned_31 : decode cX5_turned 31 = .ok (.iload_n 3, 1) := by decide +kernel
theorem dX5_turned_32 : decode cX5_turned 32 = .ok (.iconst 2, 1) := by decide +kernel
theorem dX5_turned_33 : decode cX5_turned 33 = .ok (.idiv, 1) := by decide +kernel
theorem dX5_turned_34 : decode cX5_turned 34 = .ok (.istore_n 3, 1) := by decide +kernel
theorem dX5_turned_35 : decode cX5_turned 35 = .ok (.goto (-27), 3) := by decide +kernel
theorem dX5_turned_38 : decode cX5_turned 38 = .ok (.iload_n 1, 1) := by decide +kernel
theorem dX5_turned_39 : decode cX5_turned 39 = .ok (.ireturn, 1) := by decide +kernel
theorem dX5_over_0 : decode cX5_over 0 = .ok (.iconst 1, 1) := by decide +kernel
theorem dX5_over_1 : decode cX5_over 1 = .ok (.istore_n 2, 1) := by decide +kernel
theorem dX5_over_2 : decode cX5_over 2 = .ok (.iconst 0, 1) := by decide +kernel
theorem dX5_over_3 : decode cX5_over 3 = .ok (.istore_n 3, 1) := by decide +kernel
theorem dX5_over_4 : decode cX5_over 4 = .ok (.iload_n 3, 1) := by decide +kernel
theorem dX5_over_5 : decode cX5_over 5 = .ok (.iload_n 1, 1) := by decide +kernel
theorem dX5_over_6 : decode cX5_over 6 = .ok (.if_icmp .ge 19, 3) := by decide +kernel
theorem dX5_over_9 : decode cX5_over 9 = .ok (.iload_n 2, 1) := by decide +kernel
theorem dX5_over_10 : decode cX5_over 10 = .ok (.iload_n 0, 1) := by decide +kernel
theorem dX5_over_11 : decode cX5_over 11 = .ok (.iload_n 3, 1) := by decide +kernel
theorem dX5_over_12 : decode cX5_over 12 = .ok (.isub, 1) := by decide +kernel
theorem dX5_over_13 : decode cX5_over 13 = .ok (.imul, 1) := by decide +kernel
theorem dX5_over_14 : decode cX5_over 14 = .ok (.iload_n 3, 1) := by decide +kernel
theorem dX5_over_15 : decode cX5_over 15 = .ok (.iconst 1, 1) := by decide +kernel
theorem dX5_over_16 : decode cX5_over 16 = .ok (.iadd, 1) := by decide +kernel
theorem dX5_over_17 : decode cX5_over 17 = .ok (.idiv, 1) := by decide +kernel
theorem dX5_over_18 : decode cX5_over 18 = .ok (.istore_n 2, 1) := by decide +kernel
theorem dX5_over_19 : decode cX5_over 19 = .ok (.iinc 3 1, 3) := by decide +kernel
theorem dX5_over_22 : decode cX5_over 22 = .ok (.goto (-18), 3) := by decide +kernel
theorem dX5_over_25 : decode cX5_over 25 = .ok (.iload_n 2, 1) := by decide +kernel
theorem dX5_over_26 : decode cX5_over 26 = .ok (.ireturn, 1) := by decide +kernel
theorem dX5_factorial_0 : decode cX5_factorial 0 = .ok (.iconst 1, 1) := by decide +kernel
theorem dX5_factorial_1 : decode cX5_factorial 1 = .ok (.istore_n 1, 1) := by decide +kernel
theorem dX5_factorial_2 : decode cX5_factorial 2 = .ok (.iconst 2, 1) := by decide +kernel
theorem dX5_factorial_3 : decode cX5_factorial 3 = .ok (.istore_n 2, 1) := by decide +kernel
theorem dX5_factorial_4 : decode cX5_factorial 4 = .ok (.iload_n 2, 1) := by decide +kernel
theorem dX5_factorial_5 : decode cX5_factorial 5 = .ok (.iload_n 0, 1) := by decide +kernel
theorem dX5_factorial_6 : decode cX5_factorial 6 = .ok (.if_icmp .gt 15, 3) := by decide +kernel
theorem dX5_factorial_9 : decode cX5_factorial 9 = .ok (.iload_n 1, 1) := by decide +kernel
theorem dX5_factorial_10 : decode cX5_factorial 10 = .ok (.iload_n 2, 1) := by decide +kernel
theorem dX5_factorial_11 : decode cX5_factorial 11 = .ok (.invokestatic 52, 3) := by decide +kernel
theorem dX5_factorial_14 : decode cX5_factorial 14 = .ok (.istore_n 1, 1) := by decide +kernel
theorem dX5_factorial_15 : decode cX5_factorial 15 = .ok (.iinc 2 1, 3) := by decide +kernel
theorem dX5_factorial_18 : decode cX5_factorial 18 = .ok (.goto (-14), 3) := by decide +kernel
theorem dX5_factorial_21 : decode cX5_factorial 21 = .ok (.iload_n 1, 1) := by decide +kernel
theorem dX5_factorial_22 : decode cX5_factorial 22 = .ok (.ireturn, 1) := by decide +kernel
theorem dX5_met_0 : decode cX5_met 0 = .ok (.aload_n 0, 1) := by decide +kernel
theorem dX5_met_1 : decode cX5_met 1 = .ok (.iload_n 1, 1) := by decide +kernel
theorem dX5_met_2 : decode cX5_met 2 = .ok (.putfield 56, 3) := by decide +kernel
theorem dX5_met_5 : decode cX5_met 5 = .ok (.bipush (-10), 2) := by decide +kernel
theorem dX5_met_7 : decode cX5_met 7 = .ok (.iload_n 1, 1) := by decide +kernel
theorem dX5_met_8 : decode cX5_met 8 = .ok (.isub, 1) := by decide +kernel
theorem dX5_met_9 : decode cX5_met 9 = .ok (.ireturn, 1) := by decide +kernel
theorem dX5_isSheet_0 : decode cX5_isSheet 0 = .ok (.iload_n 0, 1) := by decide +kernel
theorem dX5_isSheet_1 : decode cX5_isSheet 1 = .ok (.i2l, 1) := by decide +kernel
theorem dX5_isSheet_2 : decode cX5_isSheet 2 = .ok (.lconst 0, 1) := by decide +kernel
theorem dX5_isSheet_3 : decode cX5_isSheet 3 = .ok (.ldc2_w 60, 3) := by decide +kernel
theorem dX5_isSheet_6 : decode cX5_isSheet 6 = .ok (.invokestatic 62, 3) := by decide +kernel
theorem dX5_isSheet_9 : decode cX5_isSheet 9 = .ok (.ireturn, 1) := by decide +kernel
theorem dX5_sheet_0 : decode cX5_sheet 0 = .ok (.iload_n 1, 1) := by decide +kernel
theorem dX5_sheet_1 : decode cX5_sheet 1 = .ok (.invokestatic 66, 3) := by decide +kernel
theorem dX5_sheet_4 : decode cX5_sheet 4 = .ok (.ifCond .eq 21, 3) := by decide +kernel
theorem dX5_sheet_7 : decode cX5_sheet 7 = .ok (.iload_n 2, 1) := by decide +kernel
theorem dX5_sheet_8 : decode cX5_sheet 8 = .ok (.i2l, 1) := by decide +kernel
theorem dX5_sheet_9 : decode cX5_sheet 9 = .ok (.lconst 0, 1) := by decide +kernel
theorem dX5_sheet_10 : decode cX5_sheet 10 = .ok (.ldc2_w 70, 3) := by decide +kernel
theorem dX5_sheet_13 : decode cX5_sheet 13 = .ok (.invokestatic 62, 3) := by decide +kernel
theorem dX5_sheet_16 : decode cX5_sheet 16 = .ok (.ifCond .eq 9, 3) := by decide +kernel
theorem dX5_sheet_19 : decode cX5_sheet 19 = .ok (.iload_n 3, 1) := by decide +kernel
theorem dX5_sheet_20 : decode cX5_sheet 20 = .ok (.bipush 12, 2) := by decide +kernel
theorem dX5_sheet_22 : decode cX5_sheet 22 = .ok (.if_icmp .le 6, 3) := by decide +kernel
theorem dX5_sheet_25 : decode cX5_sheet 25 = .ok (.bipush (-2), 2) := by decide +kernel
theorem dX5_sheet_27 : decode cX5_sheet 27 = .ok (.ireturn, 1) := by decide +kernel
theorem dX5_sheet_28 : decode cX5_sheet 28 = .ok (.iload_n 3, 1) := by decide +kernel
theorem dX5_sheet_29 : decode cX5_sheet 29 = .ok (.ifCond .ge 9, 3) := by decide +kernel
theorem dX5_sheet_32 : decode cX5_sheet 32 = .ok (.aload_n 0, 1) := by decide +kernel
theorem dX5_sheet_33 : decode cX5_sheet 33 = .ok (.iconst 5, 1) := by decide +kernel
theorem dX5_sheet_34 : decode cX5_sheet 34 = .ok (.invokevirtual 72, 3) := by decide +kernel
theorem dX5_sheet_37 : decode cX5_sheet 37 = .ok (.ireturn, 1) := by decide +kernel
theorem dX5_sheet_38 : decode cX5_sheet 38 = .ok (.aload_n 0, 1) := by decide +kernel
theorem dX5_sheet_39 : decode cX5_sheet 39 = .ok (.getfield 7, 3) := by decide +kernel
theorem dX5_sheet_42 : decode cX5_sheet 42 = .ok (.iload_n 1, 1) := by decide +kernel
theorem dX5_sheet_43 : decode cX5_sheet 43 = .ok (.iload_n 2, 1) := by decide +kernel
theorem dX5_sheet_44 : decode cX5_sheet 44 = .ok (.iastore, 1) := by decide +kernel
theorem dX5_sheet_45 : decode cX5_sheet 45 = .ok (.aload_n 0, 1) := by decide +kernel
theorem dX5_sheet_46 : decode cX5_sheet 46 = .ok (.getfield 13, 3) := by decide +kernel
theorem dX5_sheet_49 : decode cX5_sheet 49 = .ok (.iload_n 1, 1) := by decide +kernel
theorem dX5_sheet_50 : decode cX5_sheet 50 = .ok (.iload_n 3, 1) := by decide +kernel
theorem dX5_sheet_51 : decode cX5_sheet 51 = .ok (.iastore, 1) := by decide +kernel
theorem dX5_sheet_52 : decode cX5_sheet 52 = .ok (.iconst 0, 1) := by decide +kernel
theorem dX5_sheet_53 : decode cX5_sheet 53 = .ok (.istore 4, 2) := by decide +kernel
theorem dX5_sheet_55 : decode cX5_sheet 55 = .ok (.iload 4, 2) := by decide +kernel
theorem dX5_sheet_57 : decode cX5_sheet 57 = .ok (.iload_n 3, 1) := by decide +kernel
theorem dX5_sheet_58 : decode cX5_sheet 58 = .ok (.if_icmp .ge 22, 3) := by decide +kernel
theorem dX5_sheet_61 : decode cX5_sheet 61 = .ok (.aload_n 0, 1) := by decide +kernel
theorem dX5_sheet_62 : decode cX5_sheet 62 = .ok (.getfield 16, 3) := by decide +kernel
theorem dX5_sheet_65 : decode cX5_sheet 65 = .ok (.bipush 12, 2) := by decide +kernel
theorem dX5_sheet_67 : decode cX5_sheet 67 = .ok (.iload_n 1, 1) := by decide +kernel
theorem dX5_sheet_68 : decode cX5_sheet 68 = .ok (.imul, 1) := by decide +kernel
theorem dX5_sheet_69 : decode cX5_sheet 69 = .ok (.iload 4, 2) := by decide +kernel
theorem dX5_sheet_71 : decode cX5_sheet 71 = .ok (.iadd, 1) := by decide +kernel
theorem dX5_sheet_72 : decode cX5_sheet 72 = .ok (.iconst 0, 1) := by decide +kernel
theorem dX5_sheet_73 : decode cX5_sheet 73 = .ok (.iastore, 1) := by decide +kernel
theorem dX5_sheet_74 : decode cX5_sheet 74 = .ok (.iinc 4 1, 3) := by decide +kernel
theorem dX5_sheet_77 : decode cX5_sheet 77 = .ok (.goto (-22), 3) := by decide +kernel
theorem dX5_sheet_80 : decode cX5_sheet 80 = .ok (.iload_n 3, 1) := by decide +kernel
theorem dX5_sheet_81 : decode cX5_sheet 81 = .ok (.ireturn, 1) := by decide +kernel
theorem dX5_lose_0 : decode cX5_lose 0 = .ok (.iload_n 1, 1) := by decide +kernel
theorem dX5_lose_1 : decode cX5_lose 1 = .ok (.invokestatic 66, 3) := by decide +kernel
theorem dX5_lose_4 : decode cX5_lose 4 = .ok (.ifCond .ne 6, 3) := by decide +kernel
theorem dX5_lose_7 : decode cX5_lose 7 = .ok (.bipush (-2), 2) := by decide +kernel
theorem dX5_lose_9 : decode cX5_lose 9 = .ok (.ireturn, 1) := by decide +kernel
theorem dX5_lose_10 : decode cX5_lose 10 = .ok (.aload_n 0, 1) := by decide +kernel
theorem dX5_lose_11 : decode cX5_lose 11 = .ok (.getfield 7, 3) := by decide +kernel
theorem dX5_lose_14 : decode cX5_lose 14 = .ok (.iload_n 1, 1) := by decide +kernel
theorem dX5_lose_15 : decode cX5_lose 15 = .ok (.iaload, 1) := by decide +kernel
theorem dX5_lose_16 : decode cX5_lose 16 = .ok (.ifCond .ge 9, 3) := by decide +kernel
theorem dX5_lose_19 : decode cX5_lose 19 = .ok (.aload_n 0, 1) := by decide +kernel
theorem dX5_lose_20 : decode cX5_lose 20 = .ok (.iconst 1, 1) := by decide +kernel
theorem dX5_lose_21 : decode cX5_lose 21 = .ok (.invokevirtual 72, 3) := by decide +kernel
theorem dX5_lose_24 : decode cX5_lose 24 = .ok (.ireturn, 1) := by decide +kernel
theorem dX5_lose_25 : decode cX5_lose 25 = .ok (.aload_n 0, 1) := by decide +kernel
theorem dX5_lose_26 : decode cX5_lose 26 = .ok (.getfield 7, 3) := by decide +kernel
theorem dX5_lose_29 : decode cX5_lose 29 = .ok (.iload_n 1, 1) := by decide +kernel
theorem dX5_lose_30 : decode cX5_lose 30 = .ok (.iconst (-1), 1) := by decide +kernel
theorem dX5_lose_31 : decode cX5_lose 31 = .ok (.iastore, 1) := by decide +kernel
theorem dX5_lose_32 : decode cX5_lose 32 = .ok (.aload_n 0, 1) := by decide +kernel
theorem dX5_lose_33 : decode cX5_lose 33 = .ok (.getfield 13, 3) := by decide +kernel
theorem dX5_lose_36 : decode cX5_lose 36 = .ok (.iload_n 1, 1) := by decide +kernel
theorem dX5_lose_37 : decode cX5_lose 37 = .ok (.iaload, 1) := by decide +kernel
theorem dX5_lose_38 : decode cX5_lose 38 = .ok (.ireturn, 1) := by decide +kernel
theorem dX5_lacks_0 : decode cX5_lacks 0 = .ok (.aload_n 0, 1) := by decide +kernel
theorem dX5_lacks_1 : decode cX5_lacks 1 = .ok (.getfield 7, 3) := by decide +kernel
theorem dX5_lacks_4 : decode cX5_lacks 4 = .ok (.iload_n 1, 1) := by decide +kernel
theorem dX5_lacks_5 : decode cX5_lacks 5 = .ok (.iaload, 1) := by decide +kernel
theorem dX5_lacks_6 : decode cX5_lacks 6 = .ok (.ifCond .ge 9, 3) := by decide +kernel
theorem dX5_lacks_9 : decode cX5_lacks 9 = .ok (.aload_n 0, 1) := by decide +kernel
theorem dX5_lacks_10 : decode cX5_lacks 10 = .ok (.iconst 1, 1) := by decide +kernel
theorem dX5_lacks_11 : decode cX5_lacks 11 = .ok (.invokevirtual 72, 3) := by decide +kernel
theorem dX5_lacks_14 : decode cX5_lacks 14 = .ok (.ireturn, 1) := by decide +kernel
theorem dX5_lacks_15 : decode cX5_lacks 15 = .ok (.aload_n 0, 1) := by decide +kernel
theorem dX5_lacks_16 : decode cX5_lacks 16 = .ok (.getfield 7, 3) := by decide +kernel
theorem dX5_lacks_19 : decode cX5_lacks 19 = .ok (.iload_n 1, 1) := by decide +kernel
theorem dX5_lacks_20 : decode cX5_lacks 20 = .ok (.iaload, 1) := by decide +kernel
theorem dX5_lacks_21 : decode cX5_lacks 21 = .ok (.iload_n 2, 1) := by decide +kernel
theorem dX5_lacks_22 : decode cX5_lacks 22 = .ok (.if_icmp .eq 9, 3) := by decide +kernel
theorem dX5_lacks_25 : decode cX5_lacks 25 = .ok (.aload_n 0, 1) := by decide +kernel
theorem dX5_lacks_26 : decode cX5_lacks 26 = .ok (.iconst 3, 1) := by decide +kernel
theorem dX5_lacks_27 : decode cX5_lacks 27 = .ok (.invokevirtual 72, 3) := by decide +kernel
theorem dX5_lacks_30 : decode cX5_lacks 30 = .ok (.ireturn, 1) := by decide +kernel
theorem dX5_lacks_31 : decode cX5_lacks 31 = .ok (.iload_n 3, 1) := by decide +kernel
theorem dX5_lacks_32 : decode cX5_lacks 32 = .ok (.i2l, 1) := by decide +kernel
theorem dX5_lacks_33 : decode cX5_lacks 33 = .ok (.lconst 0, 1) := by decide +kernel
theorem dX5_lacks_34 : decode cX5_lacks 34 = .ok (.aload_n 0, 1) := by decide +kernel
theorem dX5_lacks_35 : decode cX5_lacks 35 = .ok (.getfield 13, 3) := by decide +kernel
theorem dX5_lacks_38 : decode cX5_lacks 38 = .ok (.iload_n 1, 1) := by decide +kernel
theorem dX5_lacks_39 : decode cX5_lacks 39 = .ok (.iaload, 1) := by decide +kernel
theorem dX5_lacks_40 : decode cX5_lacks 40 = .ok (.iconst 1, 1) := by decide +kernel
theorem dX5_lacks_41 : decode cX5_lacks 41 = .ok (.isub, 1) := by decide +kernel
theorem dX5_lacks_42 : decode cX5_lacks 42 = .ok (.i2l, 1) := by decide +kernel
theorem dX5_lacks_43 : decode cX5_lacks 43 = .ok (.invokestatic 62, 3) := by decide +kernel
theorem dX5_lacks_46 : decode cX5_lacks 46 = .ok (.ifCond .eq 7, 3) := by decide +kernel
theorem dX5_lacks_49 : decode cX5_lacks 49 = .ok (.iconst 0, 1) := by decide +kernel
theorem dX5_lacks_50 : decode cX5_lacks 50 = .ok (.goto 8, 3) := by decide +kernel
theorem dX5_lacks_53 : decode cX5_lacks 53 = .ok (.aload_n 0, 1) := by decide +kernel
theorem dX5_lacks_54 : decode cX5_lacks 54 = .ok (.iconst 2, 1) := by decide +kernel
theorem dX5_lacks_55 : decode cX5_lacks 55 = .ok (.invokevirtual 72, 3) := by decide +kernel
theorem dX5_lacks_58 : decode cX5_lacks 58 = .ok (.ireturn, 1) := by decide +kernel
theorem dX5_put_0 : decode cX5_put 0 = .ok (.iload_n 1, 1) := by decide +kernel
theorem dX5_put_1 : decode cX5_put 1 = .ok (.invokestatic 66, 3) := by decide +kernel
theorem dX5_put_4 : decode cX5_put 4 = .ok (.ifCond .eq 15, 3) := by decide +kernel
theorem dX5_put_7 : decode cX5_put 7 = .ok (.iload_n 2, 1) := by decide +kernel
theorem dX5_put_8 : decode cX5_put 8 = .ok (.i2l, 1) := by decide +kernel
theorem dX5_put_9 : decode cX5_put 9 = .ok (.lconst 0, 1) := by decide +kernel
theorem dX5_put_10 : decode cX5_put 10 = .ok (.ldc2_w 70, 3) := by decide +kernel
theorem dX5_put_13 : decode cX5_put 13 = .ok (.invokestatic 62, 3) := by decide +kernel
theorem dX5_put_16 : decode cX5_put 16 = .ok (.ifCond .ne 6, 3) := by decide +kernel
theorem dX5_put_19 : decode cX5_put 19 = .ok (.bipush (-2), 2) := by decide +kernel
theorem dX5_put_21 : decode cX5_put 21 = .ok (.ireturn, 1) := by decide +kernel
theorem dX5_put_22 : decode cX5_put 22 = .ok (.aload_n 0, 1) := by decide +kernel
theorem dX5_put_23 : decode cX5_put 23 = .ok (.iload_n 1, 1) := by decide +kernel
theorem dX5_put_24 : decode cX5_put 24 = .ok (.iload_n 2, 1) := by decide +kernel
theorem dX5_put_25 : decode cX5_put 25 = .ok (.iload_n 3, 1) := by decide +kernel
theorem dX5_put_26 : decode cX5_put 26 = .ok (.invokevirtual 76, 3) := by decide +kernel
theorem dX5_put_29 : decode cX5_put 29 = .ok (.istore 5, 2) := by decide +kernel
theorem dX5_put_31 : decode cX5_put 31 = .ok (.iload 5, 2) := by decide +kernel
theorem dX5_put_33 : decode cX5_put 33 = .ok (.ifCond .eq 6, 3) := by decide +kernel
theorem dX5_put_36 : decode cX5_put 36 = .ok (.iload 5, 2) := by decide +kernel
theorem dX5_put_38 : decode cX5_put 38 = .ok (.ireturn, 1) := by decide +kernel
theorem dX5_put_39 : decode cX5_put 39 = .ok (.aload_n 0, 1) := by decide +kernel
theorem dX5_put_40 : decode cX5_put 40 = .ok (.getfield 16, 3) := by decide +kernel
theorem dX5_put_43 : decode cX5_put 43 = .ok (.bipush 12, 2) := by decide +kernel
theorem dX5_put_45 : decode cX5_put 45 = .ok (.iload_n 1, 1) := by decide +kernel
theorem dX5_put_46 : decode cX5_put 46 = .ok (.imul, 1) := by decide +kernel
theorem dX5_put_47 : decode cX5_put 47 = .ok (.iload_n 3, 1) := by decide +kernel
theorem dX5_put_48 : decode cX5_put 48 = .ok (.iadd, 1) := by decide +kernel
theorem dX5_put_49 : decode cX5_put 49 = .ok (.iload_n 2, 1) := by decide +kernel
theorem dX5_put_50 : decode cX5_put 50 = .ok (.ifCond .ne 9, 3) := by decide +kernel
theorem dX5_put_53 : decode cX5_put 53 = .ok (.iload 4, 2) := by decide +kernel
theorem dX5_put_55 : decode cX5_put 55 = .ok (.i2b, 1) := by decide +kernel
theorem dX5_put_56 : decode cX5_put 56 = .ok (.goto 16, 3) := by decide +kernel
theorem dX5_put_59 : decode cX5_put 59 = .ok (.iload_n 2, 1) := by decide +kernel
theorem dX5_put_60 : decode cX5_put 60 = .ok (.iconst 1, 1) := by decide +kernel
theorem dX5_put_61 : decode cX5_put 61 = .ok (.if_icmp .ne 9, 3) := by decide +kernel
theorem dX5_put_64 : decode cX5_put 64 = .ok (.iload 4, 2) := by decide +kernel
theorem dX5_put_66 : decode cX5_put 66 = .ok (.i2s, 1) := by decide +kernel
theorem dX5_put_67 : decode cX5_put 67 = .ok (.goto 5, 3) := by decide +kernel
theorem dX5_put_70 : decode cX5_put 70 = .ok (.iload 4, 2) := by decide +kernel
theorem dX5_put_72 : decode cX5_put 72 = .ok (.iastore, 1) := by decide +kernel
theorem dX5_put_73 : decode cX5_put 73 = .ok (.iconst 1, 1) := by decide +kernel
theorem dX5_put_74 : decode cX5_put 74 = .ok (.ireturn, 1) := by decide +kernel
theorem dX5_get_0 : decode cX5_get 0 = .ok (.iload_n 1, 1) := by decide +kernel
theorem dX5_get_1 : decode cX5_get 1 = .ok (.invokestatic 66, 3) := by decide +kernel
theorem dX5_get_4 : decode cX5_get 4 = .ok (.ifCond .eq 25, 3) := by decide +kernel
theorem dX5_get_7 : decode cX5_get 7 = .ok (.iload_n 2, 1) := by decide +kernel
theorem dX5_get_8 : decode cX5_get 8 = .ok (.i2l, 1) := by decide +kernel
theorem dX5_get_9 : decode cX5_get 9 = .ok (.lconst 0, 1) := by decide +kernel
theorem dX5_get_10 : decode cX5_get 10 = .ok (.ldc2_w 70, 3) := by decide +kernel
theorem dX5_get_13 : decode cX5_get 13 = .ok (.invokestatic 62, 3) := by decide +kernel
theorem dX5_get_16 : decode cX5_get 16 = .ok (.ifCond .eq 13, 3) := by decide +kernel
theorem dX5_get_19 : decode cX5_get 19 = .ok (.aload_n 0, 1) := by decide +kernel
theorem dX5_get_20 : decode cX5_get 20 = .ok (.iload_n 1, 1) := by decide +kernel
theorem dX5_get_21 : decode cX5_get 21 = .ok (.iload_n 2, 1) := by decide +kernel
theorem dX5_get_22 : decode cX5_get 22 = .ok (.iload_n 3, 1) := by decide +kernel
theorem dX5_get_23 : decode cX5_get 23 = .ok (.invokevirtual 76, 3) := by decide +kernel
theorem dX5_get_26 : decode cX5_get 26 = .ok (.ifCond .eq 6, 3) := by decide +kernel
theorem dX5_get_29 : decode cX5_get 29 = .ok (.ldc 80, 2) := by decide +kernel
theorem dX5_get_31 : decode cX5_get 31 = .ok (.ireturn, 1) := by decide +kernel
theorem dX5_get_32 : decode cX5_get 32 = .ok (.aload_n 0, 1) := by decide +kernel
theorem dX5_get_33 : decode cX5_get 33 = .ok (.getfield 16, 3) := by decide +kernel
theorem dX5_get_36 : decode cX5_get 36 = .ok (.bipush 12, 2) := by decide +kernel
theorem dX5_get_38 : decode cX5_get 38 = .ok (.iload_n 1, 1) := by decide +kernel
theorem dX5_get_39 : decode cX5_get 39 = .ok (.imul, 1) := by decide +kernel
theorem dX5_get_40 : decode cX5_get 40 = .ok (.iload_n 3, 1) := by decide +kernel
theorem dX5_get_41 : decode cX5_get 41 = .ok (.iadd, 1) := by decide +kernel
theorem dX5_get_42 : decode cX5_get 42 = .ok (.iaload, 1) := by decide +kernel
theorem dX5_get_43 : decode cX5_get 43 = .ok (.ireturn, 1) := by decide +kernel
theorem dX5_copy_0 : decode cX5_copy 0 = .ok (.iload_n 1, 1) := by decide +kernel
theorem dX5_copy_1 : decode cX5_copy 1 = .ok (.invokestatic 66, 3) := by decide +kernel
theorem dX5_copy_4 : decode cX5_copy 4 = .ok (.ifCond .eq 10, 3) := by decide +kernel
theorem dX5_copy_7 : decode cX5_copy 7 = .ok (.iload_n 3, 1) := by decide +kernel
theorem dX5_copy_8 : decode cX5_copy 8 = .ok (.invokestatic 66, 3) := by decide +kernel
theorem dX5_copy_11 : decode cX5_copy 11 = .ok (.ifCond .ne 6, 3) := by decide +kernel
theorem dX5_copy_14 : decode cX5_copy 14 = .ok (.bipush (-2), 2) := by decide +kernel
theorem dX5_copy_16 : decode cX5_copy 16 = .ok (.ireturn, 1) := by decide +kernel
theorem dX5_copy_17 : decode cX5_copy 17 = .ok (.aload_n 0, 1) := by decide +kernel
theorem dX5_copy_18 : decode cX5_copy 18 = .ok (.getfield 7, 3) := by decide +kernel
theorem dX5_copy_21 : decode cX5_copy 21 = .ok (.iload_n 1, 1) := by decide +kernel
theorem dX5_copy_22 : decode cX5_copy 22 = .ok (.iaload, 1) := by decide +kernel
theorem dX5_copy_23 : decode cX5_copy 23 = .ok (.ifCond .lt 12, 3) := by decide +kernel
theorem dX5_copy_26 : decode cX5_copy 26 = .ok (.aload_n 0, 1) := by decide +kernel
theorem dX5_copy_27 : decode cX5_copy 27 = .ok (.getfield 7, 3) := by decide +kernel
theorem dX5_copy_30 : decode cX5_copy 30 = .ok (.iload_n 3, 1) := by decide +kernel
theorem dX5_copy_31 : decode cX5_copy 31 = .ok (.iaload, 1) := by decide +kernel
theorem dX5_copy_32 : decode cX5_copy 32 = .ok (.ifCond .ge 9, 3) := by decide +kernel
theorem dX5_copy_35 : decode cX5_copy 35 = .ok (.aload_n 0, 1) := by decide +kernel
theorem dX5_copy_36 : decode cX5_copy 36 = .ok (.iconst 1, 1) := by decide +kernel
theorem dX5_copy_37 : decode cX5_copy 37 = .ok (.invokevirtual 72, 3) := by decide +kernel
theorem dX5_copy_40 : decode cX5_copy 40 = .ok (.ireturn, 1) := by decide +kernel
theorem dX5_copy_41 : decode cX5_copy 41 = .ok (.aload_n 0, 1) := by decide +kernel
theorem dX5_copy_42 : decode cX5_copy 42 = .ok (.getfield 7, 3) := by decide +kernel
theorem dX5_copy_45 : decode cX5_copy 45 = .ok (.iload_n 1, 1) := by decide +kernel
theorem dX5_copy_46 : decode cX5_copy 46 = .ok (.iaload, 1) := by decide +kernel
theorem dX5_copy_47 : decode cX5_copy 47 = .ok (.aload_n 0, 1) := by decide +kernel
theorem dX5_copy_48 : decode cX5_copy 48 = .ok (.getfield 7, 3) := by decide +kernel
theorem dX5_copy_51 : decode cX5_copy 51 = .ok (.iload_n 3, 1) := by decide +kernel
theorem dX5_copy_52 : decode cX5_copy 52 = .ok (.iaload, 1) := by decide +kernel
theorem dX5_copy_53 : decode cX5_copy 53 = .ok (.if_icmp .eq 9, 3) := by decide +kernel
theorem dX5_copy_56 : decode cX5_copy 56 = .ok (.aload_n 0, 1) := by decide +kernel
theorem dX5_copy_57 : decode cX5_copy 57 = .ok (.iconst 4, 1) := by decide +kernel
theorem dX5_copy_58 : decode cX5_copy 58 = .ok (.invokevirtual 72, 3) := by decide +kernel
theorem dX5_copy_61 : decode cX5_copy 61 = .ok (.ireturn, 1) := by decide +kernel
theorem dX5_copy_62 : decode cX5_copy 62 = .ok (.iload_n 2, 1) := by decide +kernel
theorem dX5_copy_63 : decode cX5_copy 63 = .ok (.ifCond .lt 48, 3) := by decide +kernel
theorem dX5_copy_66 : decode cX5_copy 66 = .ok (.iload 4, 2) := by decide +kernel
theorem dX5_copy_68 : decode cX5_copy 68 = .ok (.ifCond .lt 43, 3) := by decide +kernel
theorem dX5_copy_71 : decode cX5_copy 71 = .ok (.iload 5, 2) := by decide +kernel
theorem dX5_copy_73 : decode cX5_copy 73 = .ok (.ifCond .lt 38, 3) := by decide +kernel
theorem dX5_copy_76 : decode cX5_copy 76 = .ok (.iload_n 2, 1) := by decide +kernel
theorem dX5_copy_77 : decode cX5_copy 77 = .ok (.i2l, 1) := by decide +kernel
theorem dX5_copy_78 : decode cX5_copy 78 = .ok (.iload 5, 2) := by decide +kernel
theorem dX5_copy_80 : decode cX5_copy 80 = .ok (.i2l, 1) := by decide +kernel
theorem dX5_copy_81 : decode cX5_copy 81 = .ok (.ladd, 1) := by decide +kernel
theorem dX5_copy_82 : decode cX5_copy 82 = .ok (.aload_n 0, 1) := by decide +kernel
theorem dX5_copy_83 : decode cX5_copy 83 = .ok (.getfield 13, 3) := by decide +kernel
theorem dX5_copy_86 : decode cX5_copy 86 = .ok (.iload_n 1, 1) := by decide +kernel
theorem dX5_copy_87 : decode cX5_copy 87 = .ok (.iaload, 1) := by decide +kernel
theorem dX5_copy_88 : decode cX5_copy 88 = .ok (.i2l, 1) := by decide +kernel
theorem dX5_copy_89 : decode cX5_copy 89 = .ok (.lcmp, 1) := by decide +kernel
theorem dX5_copy_90 : decode cX5_copy 90 = .ok (.ifCond .gt 21, 3) := by decide +kernel
theorem dX5_copy_93 : decode cX5_copy 93 = .ok (.iload 4, 2) := by decide +kernel
theorem dX5_copy_95 : decode cX5_copy 95 = .ok (.i2l, 1) := by decide +kernel
theorem dX5_copy_96 : decode cX5_copy 96 = .ok (.iload 5, 2) := by decide +kernel
theorem dX5_copy_98 : decode cX5_copy 98 = .ok (.i2l, 1) := by decide +kernel
theorem dX5_copy_99 : decode cX5_copy 99 = .ok (.ladd, 1) := by decide +kernel
theorem dX5_copy_100 : decode cX5_copy 100 = .ok (.aload_n 0, 1) := by decide +kernel
theorem dX5_copy_101 : decode cX5_copy 101 = .ok (.getfield 13, 3) := by decide +kernel
theorem dX5_copy_104 : decode cX5_copy 104 = .ok (.iload_n 3, 1) := by decide +kernel
theorem dX5_copy_105 : decode cX5_copy 105 = .ok (.iaload, 1) := by decide +kernel
theorem dX5_copy_106 : decode cX5_copy 106 = .ok (.i2l, 1) := by decide +kernel
theorem dX5_copy_107 : decode cX5_copy 107 = .ok (.lcmp, 1) := by decide +kernel
theorem dX5_copy_108 : decode cX5_copy 108 = .ok (.ifCond .le 9, 3) := by decide +kernel
theorem dX5_copy_111 : decode cX5_copy 111 = .ok (.aload_n 0, 1) := by decide +kernel
theorem dX5_copy_112 : decode cX5_copy 112 = .ok (.iconst 2, 1) := by decide +kernel
theorem dX5_copy_113 : decode cX5_copy 113 = .ok (.invokevirtual 72, 3) := by decide +kernel
theorem dX5_copy_116 : decode cX5_copy 116 = .ok (.ireturn, 1) := by decide +kernel
theorem dX5_copy_117 : decode cX5_copy 117 = .ok (.iconst 0, 1) := by decide +kernel
theorem dX5_copy_118 : decode cX5_copy 118 = .ok (.istore 6, 2) := by decide +kernel
theorem dX5_copy_120 : decode cX5_copy 120 = .ok (.iload 6, 2) := by decide +kernel
theorem dX5_copy_122 : decode cX5_copy 122 = .ok (.iload 5, 2) := by decide +kernel
theorem dX5_copy_124 : decode cX5_copy 124 = .ok (.if_icmp .ge 30, 3) := by decide +kernel
theorem dX5_copy_127 : decode cX5_copy 127 = .ok (.aload_n 0, 1) := by decide +kernel
theorem dX5_copy_128 : decode cX5_copy 128 = .ok (.getfield 19, 3) := by decide +kernel
theorem dX5_copy_131 : decode cX5_copy 131 = .ok (.iload 6, 2) := by decide +kernel
theorem dX5_copy_133 : decode cX5_copy 133 = .ok (.aload_n 0, 1) := by decide +kernel
theorem dX5_copy_134 : decode cX5_copy 134 = .ok (.getfield 16, 3) := by decide +kernel
theorem dX5_copy_137 : decode cX5_copy 137 = .ok (.bipush 12, 2) := by decide +kernel
theorem dX5_copy_139 : decode cX5_copy 139 = .ok (.iload_n 1, 1) := by decide +kernel
theorem dX5_copy_140 : decode cX5_copy 140 = .ok (.imul, 1) := by decide +kernel
theorem dX5_copy_141 : decode cX5_copy 141 = .ok (.iload_n 2, 1) := by decide +kernel
theorem dX5_copy_142 : decode cX5_copy 142 = .ok (.iadd, 1) := by decide +kernel
theorem dX5_copy_143 : decode cX5_copy 143 = .ok (.iload 6, 2) := by decide +kernel
theorem dX5_copy_145 : decode cX5_copy 145 = .ok (.iadd, 1) := by decide +kernel
theorem dX5_copy_146 : decode cX5_copy 146 = .ok (.iaload, 1) := by decide +kernel
theorem dX5_copy_147 : decode cX5_copy 147 = .ok (.iastore, 1) := by decide +kernel
theorem dX5_copy_148 : decode cX5_copy 148 = .ok (.iinc 6 1, 3) := by decide +kernel
theorem dX5_copy_151 : decode cX5_copy 151 = .ok (.goto (-31), 3) := by decide +kernel
theorem dX5_copy_154 : decode cX5_copy 154 = .ok (.iconst 0, 1) := by decide +kernel
theorem dX5_copy_155 : decode cX5_copy 155 = .ok (.istore 6, 2) := by decide +kernel
theorem dX5_copy_157 : decode cX5_copy 157 = .ok (.iload 6, 2) := by decide +kernel
theorem dX5_copy_159 : decode cX5_copy 159 = .ok (.iload 5, 2) := by decide +kernel
theorem dX5_copy_161 : decode cX5_copy 161 = .ok (.if_icmp .ge 31, 3) := by decide +kernel
theorem dX5_copy_164 : decode cX5_copy 164 = .ok (.aload_n 0, 1) := by decide +kernel
theorem dX5_copy_165 : decode cX5_copy 165 = .ok (.getfield 16, 3) := by decide +kernel
theorem dX5_copy_168 : decode cX5_copy 168 = .ok (.bipush 12, 2) := by decide +kernel
theorem dX5_copy_170 : decode cX5_copy 170 = .ok (.iload_n 3, 1) := by decide +kernel
theorem dX5_copy_171 : decode cX5_copy 171 = .ok (.imul, 1) := by decide +kernel
theorem dX5_copy_172 : decode cX5_copy 172 = .ok (.iload 4, 2) := by decide +kernel
theorem dX5_copy_174 : decode cX5_copy 174 = .ok (.iadd, 1) := by decide +kernel
theorem dX5_copy_175 : decode cX5_copy 175 = .ok (.iload 6, 2) := by decide +kernel
theorem dX5_copy_177 : decode cX5_copy 177 = .ok (.iadd, 1) := by decide +kernel
theorem dX5_copy_178 : decode cX5_copy 178 = .ok (.aload_n 0, 1) := by decide +kernel
theorem dX5_copy_179 : decode cX5_copy 179 = .ok (.getfield 19, 3) := by decide +kernel
theorem dX5_copy_182 : decode cX5_copy 182 = .ok (.iload 6, 2) := by decide +kernel
theorem dX5_copy_184 : decode cX5_copy 184 = .ok (.iaload, 1) := by decide +kernel
theorem dX5_copy_185 : decode cX5_copy 185 = .ok (.iastore, 1) := by decide +kernel
theorem dX5_copy_186 : decode cX5_copy 186 = .ok (.iinc 6 1, 3) := by decide +kernel
theorem dX5_copy_189 : decode cX5_copy 189 = .ok (.goto (-32), 3) := by decide +kernel
theorem dX5_copy_192 : decode cX5_copy 192 = .ok (.iconst 1, 1) := by decide +kernel
theorem dX5_copy_193 : decode cX5_copy 193 = .ok (.ireturn, 1) := by decide +kernel
theorem dX5_isForm_0 : decode cX5_isForm 0 = .ok (.aload_n 0, 1) := by decide +kernel
theorem dX5_isForm_1 : decode cX5_isForm 1 = .ok (.getfield 7, 3) := by decide +kernel
theorem dX5_isForm_4 : decode cX5_isForm 4 = .ok (.iload_n 1, 1) := by decide +kernel
theorem dX5_isForm_5 : decode cX5_isForm 5 = .ok (.iaload, 1) := by decide +kernel
theorem dX5_isForm_6 : decode cX5_isForm 6 = .ok (.ifCond .lt 24, 3) := by decide +kernel
theorem dX5_isForm_9 : decode cX5_isForm 9 = .ok (.aload_n 0, 1) := by decide +kernel
theorem dX5_isForm_10 : decode cX5_isForm 10 = .ok (.getfield 13, 3) := by decide +kernel
theorem dX5_isForm_13 : decode cX5_isForm 13 = .ok (.iload_n 1, 1) := by decide +kernel
theorem dX5_isForm_14 : decode cX5_isForm 14 = .ok (.iaload, 1) := by decide +kernel
theorem dX5_isForm_15 : decode cX5_isForm 15 = .ok (.i2l, 1) := by decide +kernel
theorem dX5_isForm_16 : decode cX5_isForm 16 = .ok (.lconst 1, 1) := by decide +kernel
theorem dX5_isForm_17 : decode cX5_isForm 17 = .ok (.ldc2_w 60, 3) := by decide +kernel
theorem dX5_isForm_20 : decode cX5_isForm 20 = .ok (.invokestatic 62, 3) := by decide +kernel
theorem dX5_isForm_23 : decode cX5_isForm 23 = .ok (.ifCond .eq 7, 3) := by decide +kernel
theorem dX5_isForm_26 : decode cX5_isForm 26 = .ok (.iconst 1, 1) := by decide +kernel
theorem dX5_isForm_27 : decode cX5_isForm 27 = .ok (.goto 4, 3) := by decide +kernel
theorem dX5_isForm_30 : decode cX5_isForm 30 = .ok (.iconst 0, 1) := by decide +kernel
theorem dX5_isForm_31 : decode cX5_isForm 31 = .ok (.ireturn, 1) := by decide +kernel
theorem dX5_takeF_0 : decode cX5_takeF 0 = .ok (.aload_n 0, 1) := by decide +kernel
theorem dX5_takeF_1 : decode cX5_takeF 1 = .ok (.aload_n 0, 1) := by decide +kernel
theorem dX5_takeF_2 : decode cX5_takeF 2 = .ok (.getfield 13, 3) := by decide +kernel
theorem dX5_takeF_5 : decode cX5_takeF 5 = .ok (.iload_n 1, 1) := by decide +kernel
theorem dX5_takeF_6 : decode cX5_takeF 6 = .ok (.iaload, 1) := by decide +kernel
theorem dX5_takeF_7 : decode cX5_takeF 7 = .ok (.iconst 1, 1) := by decide +kernel
theorem dX5_takeF_8 : decode cX5_takeF 8 = .ok (.isub, 1) := by decide +kernel
theorem dX5_takeF_9 : decode cX5_takeF 9 = .ok (.putfield 81, 3) := by decide +kernel
theorem dX5_takeF_12 : decode cX5_takeF 12 = .ok (.iconst 0, 1) := by decide +kernel
theorem dX5_takeF_13 : decode cX5_takeF 13 = .ok (.istore_n 2, 1) := by decide +kernel
theorem dX5_takeF_14 : decode cX5_takeF 14 = .ok (.iload_n 2, 1) := by decide +kernel
theorem dX5_takeF_15 : decode cX5_takeF 15 = .ok (.bipush 9, 2) := by decide +kernel
theorem dX5_takeF_17 : decode cX5_takeF 17 = .ok (.if_icmp .ge 42, 3) := by decide +kernel
theorem dX5_takeF_20 : decode cX5_takeF 20 = .ok (.aload_n 0, 1) := by decide +kernel
theorem dX5_takeF_21 : decode cX5_takeF 21 = .ok (.getfield 22, 3) := by decide +kernel
theorem dX5_takeF_24 : decode cX5_takeF 24 = .ok (.iload_n 2, 1) := by decide +kernel
theorem dX5_takeF_25 : decode cX5_takeF 25 = .ok (.iload_n 2, 1) := by decide +kernel
theorem dX5_takeF_26 : decode cX5_takeF 26 = .ok (.aload_n 0, 1) := by decide +kernel
theorem dX5_takeF_27 : decode cX5_takeF 27 = .ok (.getfield 81, 3) := by decide +kernel
theorem dX5_takeF_30 : decode cX5_takeF 30 = .ok (.if_icmp .gt 21, 3) := by decide +kernel
theorem dX5_takeF_33 : decode cX5_takeF 33 = .ok (.aload_n 0, 1) := by decide +kernel
theorem dX5_takeF_34 : decode cX5_takeF 34 = .ok (.getfield 16, 3) := by decide +kernel
theorem dX5_takeF_37 : decode cX5_takeF 37 = .ok (.bipush 12, 2) := by decide +kernel
theorem dX5_takeF_39 : decode cX5_takeF 39 = .ok (.iload_n 1, 1) := by decide +kernel
theorem dX5_takeF_40 : decode cX5_takeF 40 = .ok (.imul, 1) := by decide +kernel
theorem dX5_takeF_41 : decode cX5_takeF 41 = .ok (.iload_n 2, 1) := by decide +kernel
theorem dX5_takeF_42 : decode cX5_takeF 42 = .ok (.iadd, 1) := by decide +kernel
theorem dX5_takeF_43 : decode cX5_takeF 43 = .ok (.iaload, 1) := by decide +kernel
theorem dX5_takeF_44 : decode cX5_takeF 44 = .ok (.i2l, 1) := by decide +kernel
theorem dX5_takeF_45 : decode cX5_takeF 45 = .ok (.invokestatic 48, 3) := by decide +kernel
theorem dX5_takeF_48 : decode cX5_takeF 48 = .ok (.goto 4, 3) := by decide +kernel
theorem dX5_takeF_51 : decode cX5_takeF 51 = .ok (.iconst 0, 1) := by decide +kernel
theorem dX5_takeF_52 : decode cX5_takeF 52 = .ok (.iastore, 1) := by decide +kernel
theorem dX5_takeF_53 : decode cX5_takeF 53 = .ok (.iinc 2 1, 3) := by decide +kernel
theorem dX5_takeF_56 : decode cX5_takeF 56 = .ok (.goto (-42), 3) := by decide +kernel
theorem dX5_takeF_59 : decode cX5_takeF 59 = .ok (.return_, 1) := by decide +kernel
theorem dX5_takeG_0 : decode cX5_takeG 0 = .ok (.aload_n 0, 1) := by decide +kernel
theorem dX5_takeG_1 : decode cX5_takeG 1 = .ok (.aload_n 0, 1) := by decide +kernel
theorem dX5_takeG_2 : decode cX5_takeG 2 = .ok (.getfield 13, 3) := by decide +kernel
theorem dX5_takeG_5 : decode cX5_takeG 5 = .ok (.iload_n 1, 1) := by decide +kernel
theorem dX5_takeG_6 : decode cX5_takeG 6 = .ok (.iaload, 1) := by decide +kernel
theorem dX5_takeG_7 : decode cX5_takeG 7 = .ok (.iconst 1, 1) := by decide +kernel
theorem dX5_takeG_8 : decode cX5_takeG 8 = .ok (.isub, 1) := by decide +kernel
theorem dX5_takeG_9 : decode cX5_takeG 9 = .ok (.putfield 84, 3) := by decide +kernel
theorem dX5_takeG_12 : decode cX5_takeG 12 = .ok (.iconst 0, 1) := by decide +kernel
theorem dX5_takeG_13 : decode cX5_takeG 13 = .ok (.istore_n 2, 1) := by decide +kernel
theorem dX5_takeG_14 : decode cX5_takeG 14 = .ok (.iload_n 2, 1) := by decide +kernel
theorem dX5_takeG_15 : decode cX5_takeG 15 = .ok (.bipush 9, 2) := by decide +kernel
theorem dX5_takeG_17 : decode cX5_takeG 17 = .ok (.if_icmp .ge 42, 3) := by decide +kernel
theorem dX5_takeG_20 : decode cX5_takeG 20 = .ok (.aload_n 0, 1) := by decide +kernel
theorem dX5_takeG_21 : decode cX5_takeG 21 = .ok (.getfield 25, 3) := by decide +kernel
theorem dX5_takeG_24 : decode cX5_takeG 24 = .ok (.iload_n 2, 1) := by decide +kernel
theorem dX5_takeG_25 : decode cX5_takeG 25 = .ok (.iload_n 2, 1) := by decide +kernel
theorem dX5_takeG_26 : decode cX5_takeG 26 = .ok (.aload_n 0, 1) := by decide +kernel
theorem dX5_takeG_27 : decode cX5_takeG 27 = .ok (.getfield 84, 3) := by decide +kernel
theorem dX5_takeG_30 : decode cX5_takeG 30 = .ok (.if_icmp .gt 21, 3) := by decide +kernel
theorem dX5_takeG_33 : decode cX5_takeG 33 = .ok (.aload_n 0, 1) := by decide +kernel
theorem dX5_takeG_34 : decode cX5_takeG 34 = .ok (.getfield 16, 3) := by decide +kernel
theorem dX5_takeG_37 : decode cX5_takeG 37 = .ok (.bipush 12, 2) := by decide +kernel
theorem dX5_takeG_39 : decode cX5_takeG 39 = .ok (.iload_n 1, 1) := by decide +kernel
theorem dX5_takeG_40 : decode cX5_takeG 40 = .ok (.imul, 1) := by decide +kernel
theorem dX5_takeG_41 : decode cX5_takeG 41 = .ok (.iload_n 2, 1) := by decide +kernel
theorem dX5_takeG_42 : decode cX5_takeG 42 = .ok (.iadd, 1) := by decide +kernel
theorem dX5_takeG_43 : decode cX5_takeG 43 = .ok (.iaload, 1) := by decide +kernel
theorem dX5_takeG_44 : decode cX5_takeG 44 = .ok (.i2l, 1) := by decide +kernel
theorem dX5_takeG_45 : decode cX5_takeG 45 = .ok (.invokestatic 48, 3) := by decide +kernel
theorem dX5_takeG_48 : decode cX5_takeG 48 = .ok (.goto 4, 3) := by decide +kernel
theorem dX5_takeG_51 : decode cX5_takeG 51 = .ok (.iconst 0, 1) := by decide +kernel
theorem dX5_takeG_52 : decode cX5_takeG 52 = .ok (.iastore, 1) := by decide +kernel
theorem dX5_takeG_53 : decode cX5_takeG 53 = .ok (.iinc 2 1, 3) := by decide +kernel
theorem dX5_takeG_56 : decode cX5_takeG 56 = .ok (.goto (-42), 3) := by decide +kernel
theorem dX5_takeG_59 : decode cX5_takeG 59 = .ok (.return_, 1) := by decide +kernel
theorem dX5_lay_0 : decode cX5_lay 0 = .ok (.aload_n 0, 1) := by decide +kernel
theorem dX5_lay_1 : decode cX5_lay 1 = .ok (.getfield 7, 3) := by decide +kernel
theorem dX5_lay_4 : decode cX5_lay 4 = .ok (.iload_n 1, 1) := by decide +kernel
theorem dX5_lay_5 : decode cX5_lay 5 = .ok (.iconst 2, 1) := by decide +kernel
theorem dX5_lay_6 : decode cX5_lay 6 = .ok (.iastore, 1) := by decide +kernel
theorem dX5_lay_7 : decode cX5_lay 7 = .ok (.aload_n 0, 1) := by decide +kernel
theorem dX5_lay_8 : decode cX5_lay 8 = .ok (.getfield 13, 3) := by decide +kernel
theorem dX5_lay_11 : decode cX5_lay 11 = .ok (.iload_n 1, 1) := by decide +kernel
theorem dX5_lay_12 : decode cX5_lay 12 = .ok (.aload_n 0, 1) := by decide +kernel
theorem dX5_lay_13 : decode cX5_lay 13 = .ok (.getfield 87, 3) := by decide +kernel
theorem dX5_lay_16 : decode cX5_lay 16 = .ok (.iconst 1, 1) := by decide +kernel
theorem dX5_lay_17 : decode cX5_lay 17 = .ok (.iadd, 1) := by decide +kernel
theorem dX5_lay_18 : decode cX5_lay 18 = .ok (.iastore, 1) := by decide +kernel
theorem dX5_lay_19 : decode cX5_lay 19 = .ok (.iconst 0, 1) := by decide +kernel
theorem dX5_lay_20 : decode cX5_lay 20 = .ok (.istore_n 2, 1) := by decide +kernel
theorem dX5_lay_21 : decode cX5_lay 21 = .ok (.iload_n 2, 1) := by decide +kernel
theorem dX5_lay_22 : decode cX5_lay 22 = .ok (.aload_n 0, 1) := by decide +kernel
theorem dX5_lay_23 : decode cX5_lay 23 = .ok (.getfield 87, 3) := by decide +kernel
theorem dX5_lay_26 : decode cX5_lay 26 = .ok (.if_icmp .gt 26, 3) := by decide +kernel
theorem dX5_lay_29 : decode cX5_lay 29 = .ok (.aload_n 0, 1) := by decide +kernel
theorem dX5_lay_30 : decode cX5_lay 30 = .ok (.getfield 16, 3) := by decide +kernel
theorem dX5_lay_33 : decode cX5_lay 33 = .ok (.bipush 12, 2) := by decide +kernel
theorem dX5_lay_35 : decode cX5_lay 35 = .ok (.iload_n 1, 1) := by decide +kernel
theorem dX5_lay_36 : decode cX5_lay 36 = .ok (.imul, 1) := by decide +kernel
theorem dX5_lay_37 : decode cX5_lay 37 = .ok (.iload_n 2, 1) := by decide +kernel
theorem dX5_lay_38 : decode cX5_lay 38 = .ok (.iadd, 1) := by decide +kernel
theorem dX5_lay_39 : decode cX5_lay 39 = .ok (.aload_n 0, 1) := by decide +kernel
theorem dX5_lay_40 : decode cX5_lay 40 = .ok (.getfield 28, 3) := by decide +kernel
theorem dX5_lay_43 : decode cX5_lay 43 = .ok (.iload_n 2, 1) := by decide +kernel
theorem dX5_lay_44 : decode cX5_lay 44 = .ok (.iaload, 1) := by decide +kernel
theorem dX5_lay_45 : decode cX5_lay 45 = .ok (.iastore, 1) := by decide +kernel
theorem dX5_lay_46 : decode cX5_lay 46 = .ok (.iinc 2 1, 3) := by decide +kernel
theorem dX5_lay_49 : decode cX5_lay 49 = .ok (.goto (-28), 3) := by decide +kernel
theorem dX5_lay_52 : decode cX5_lay 52 = .ok (.aload_n 0, 1) := by decide +kernel
theorem dX5_lay_53 : decode cX5_lay 53 = .ok (.getfield 87, 3) := by decide +kernel
theorem dX5_lay_56 : decode cX5_lay 56 = .ok (.ireturn, 1) := by decide +kernel
theorem dX5_noughtH_0 : decode cX5_noughtH 0 = .ok (.aload_n 0, 1) := by decide +kernel
theorem dX5_noughtH_1 : decode cX5_noughtH 1 = .ok (.iload_n 1, 1) := by decide +kernel
theorem dX5_noughtH_2 : decode cX5_noughtH 2 = .ok (.putfield 87, 3) := by decide +kernel
theorem dX5_noughtH_5 : decode cX5_noughtH 5 = .ok (.iconst 0, 1) := by decide +kernel
theorem dX5_noughtH_6 : decode cX5_noughtH 6 = .ok (.istore_n 2, 1) := by decide +kernel
theorem dX5_noughtH_7 : decode cX5_noughtH 7 = .ok (.iload_n 2, 1) := by decide +kernel
theorem dX5_noughtH_8 : decode cX5_noughtH 8 = .ok (.bipush 20, 2) := by decide +kernel
theorem dX5_noughtH_10 : decode cX5_noughtH 10 = .ok (.if_icmp .ge 16, 3) := by decide +kernel
theorem dX5_noughtH_13 : decode cX5_noughtH 13 = .ok (.aload_n 0, 1) := by decide +kernel
theorem dX5_noughtH_14 : decode cX5_noughtH 14 = .ok (.getfield 28, 3) := by decide +kernel
theorem dX5_noughtH_17 : decode cX5_noughtH 17 = .ok (.iload_n 2, 1) := by decide +kernel
theorem dX5_noughtH_18 : decode cX5_noughtH 18 = .ok (.iconst 0, 1) := by decide +kernel
theorem dX5_noughtH_19 : decode cX5_noughtH 19 = .ok (.iastore, 1) := by decide +kernel
theorem dX5_noughtH_20 : decode cX5_noughtH 20 = .ok (.iinc 2 1, 3) := by decide +kernel
theorem dX5_noughtH_23 : decode cX5_noughtH 23 = .ok (.goto (-16), 3) := by decide +kernel
theorem dX5_noughtH_26 : decode cX5_noughtH 26 = .ok (.return_, 1) := by decide +kernel
theorem dX5_lacksOne_0 : decode cX5_lacksOne 0 = .ok (.aload_n 0, 1) := by decide +kernel
theorem dX5_lacksOne_1 : decode cX5_lacksOne 1 = .ok (.getfield 7, 3) := by decide +kernel
theorem dX5_lacksOne_4 : decode cX5_lacksOne 4 = .ok (.iload_n 1, 1) := by decide +kernel
theorem dX5_lacksOne_5 : decode cX5_lacksOne 5 = .ok (.iaload, 1) := by decide +kernel
theorem dX5_lacksOne_6 : decode cX5_lacksOne 6 = .ok (.ifCond .ge 9, 3) := by decide +kernel
theorem dX5_lacksOne_9 : decode cX5_lacksOne 9 = .ok (.aload_n 0, 1) := by decide +kernel
theorem dX5_lacksOne_10 : decode cX5_lacksOne 10 = .ok (.iconst 1, 1) := by decide +kernel
theorem dX5_lacksOne_11 : decode cX5_lacksOne 11 = .ok (.invokevirtual 72, 3) := by decide +kernel
theorem dX5_lacksOne_14 : decode cX5_lacksOne 14 = .ok (.ireturn, 1) := by decide +kernel
theorem dX5_lacksOne_15 : decode cX5_lacksOne 15 = .ok (.aload_n 0, 1) := by decide +kernel
theorem dX5_lacksOne_16 : decode cX5_lacksOne 16 = .ok (.iload_n 1, 1) := by decide +kernel
theorem dX5_lacksOne_17 : decode cX5_lacksOne 17 = .ok (.invokevirtual 90, 3) := by decide +kernel
theorem dX5_lacksOne_20 : decode cX5_lacksOne 20 = .ok (.ifCond .ne 6, 3) := by decide +kernel
theorem dX5_lacksOne_23 : decode cX5_lacksOne 23 = .ok (.bipush (-3), 2) := by decide +kernel
theorem dX5_lacksOne_25 : decode cX5_lacksOne 25 = .ok (.ireturn, 1) := by decide +kernel
theorem dX5_lacksOne_26 : decode cX5_lacksOne 26 = .ok (.aload_n 0, 1) := by decide +kernel
theorem dX5_lacksOne_27 : decode cX5_lacksOne 27 = .ok (.iload_n 1, 1) := by decide +kernel
theorem dX5_lacksOne_28 : decode cX5_lacksOne 28 = .ok (.invokevirtual 93, 3) := by decide +kernel
theorem dX5_lacksOne_31 : decode cX5_lacksOne 31 = .ok (.iconst 0, 1) := by decide +kernel
theorem dX5_lacksOne_32 : decode cX5_lacksOne 32 = .ok (.ireturn, 1) := by decide +kernel
theorem dX5_lacksTwo_0 : decode cX5_lacksTwo 0 = .ok (.aload_n 0, 1) := by decide +kernel
theorem dX5_lacksTwo_1 : decode cX5_lacksTwo 1 = .ok (.getfield 7, 3) := by decide +kernel
theorem dX5_lacksTwo_4 : decode cX5_lacksTwo 4 = .ok (.iload_n 1, 1) := by decide +kernel
theorem dX5_lacksTwo_5 : decode cX5_lacksTwo 5 = .ok (.iaload, 1) := by decide +kernel
theorem dX5_lacksTwo_6 : decode cX5_lacksTwo 6 = .ok (.ifCond .lt 12, 3) := by decide +kernel
theorem dX5_lacksTwo_9 : decode cX5_lacksTwo 9 = .ok (.aload_n 0, 1) := by decide +kernel
theorem dX5_lacksTwo_10 : decode cX5_lacksTwo 10 = .ok (.getfield 7, 3) := by decide +kernel
theorem dX5_lacksTwo_13 : decode cX5_lacksTwo 13 = .ok (.iload_n 2, 1) := by decide +kernel
theorem dX5_lacksTwo_14 : decode cX5_lacksTwo 14 = .ok (.iaload, 1) := by decide +kernel
theorem dX5_lacksTwo_15 : decode cX5_lacksTwo 15 = .ok (.ifCond .ge 9, 3) := by decide +kernel
theorem dX5_lacksTwo_18 : decode cX5_lacksTwo 18 = .ok (.aload_n 0, 1) := by decide +kernel
theorem dX5_lacksTwo_19 : decode cX5_lacksTwo 19 = .ok (.iconst 1, 1) := by decide +kernel
theorem dX5_lacksTwo_20 : decode cX5_lacksTwo 20 = .ok (.invokevirtual 72, 3) := by decide +kernel
theorem dX5_lacksTwo_23 : decode cX5_lacksTwo 23 = .ok (.ireturn, 1) := by decide +kernel
theorem dX5_lacksTwo_24 : decode cX5_lacksTwo 24 = .ok (.aload_n 0, 1) := by decide +kernel
theorem dX5_lacksTwo_25 : decode cX5_lacksTwo 25 = .ok (.iload_n 1, 1) := by decide +kernel
theorem dX5_lacksTwo_26 : decode cX5_lacksTwo 26 = .ok (.invokevirtual 90, 3) := by decide +kernel
theorem dX5_lacksTwo_29 : decode cX5_lacksTwo 29 = .ok (.ifCond .eq 11, 3) := by decide +kernel
theorem dX5_lacksTwo_32 : decode cX5_lacksTwo 32 = .ok (.aload_n 0, 1) := by decide +kernel
theorem dX5_lacksTwo_33 : decode cX5_lacksTwo 33 = .ok (.iload_n 2, 1) := by decide +kernel
theorem dX5_lacksTwo_34 : decode cX5_lacksTwo 34 = .ok (.invokevirtual 90, 3) := by decide +kernel
theorem dX5_lacksTwo_37 : decode cX5_lacksTwo 37 = .ok (.ifCond .ne 6, 3) := by decide +kernel
theorem dX5_lacksTwo_40 : decode cX5_lacksTwo 40 = .ok (.bipush (-3), 2) := by decide +kernel
theorem dX5_lacksTwo_42 : decode cX5_lacksTwo 42 = .ok (.ireturn, 1) := by decide +kernel
theorem dX5_lacksTwo_43 : decode cX5_lacksTwo 43 = .ok (.aload_n 0, 1) := by decide +kernel
theorem dX5_lacksTwo_44 : decode cX5_lacksTwo 44 = .ok (.iload_n 1, 1) := by decide +kernel
theorem dX5_lacksTwo_45 : decode cX5_lacksTwo 45 = .ok (.invokevirtual 93, 3) := by decide +kernel
theorem dX5_lacksTwo_48 : decode cX5_lacksTwo 48 = .ok (.aload_n 0, 1) := by decide +kernel
theorem dX5_lacksTwo_49 : decode cX5_lacksTwo 49 = .ok (.iload_n 2, 1) := by decide +kernel
theorem dX5_lacksTwo_50 : decode cX5_lacksTwo 50 = .ok (.invokevirtual 97, 3) := by decide +kernel
theorem dX5_lacksTwo_53 : decode cX5_lacksTwo 53 = .ok (.iconst 0, 1) := by decide +kernel
theorem dX5_lacksTwo_54 : decode cX5_lacksTwo 54 = .ok (.ireturn, 1) := by decide +kernel
theorem dX5_isNoughtF_0 : decode cX5_isNoughtF 0 = .ok (.iconst 1, 1) := by decide +kernel
theorem dX5_isNoughtF_1 : decode cX5_isNoughtF 1 = .ok (.istore_n 1, 1) := by decide +kernel
theorem dX5_isNoughtF_2 : decode cX5_isNoughtF 2 = .ok (.iconst 0, 1) := by decide +kernel
theorem dX5_isNoughtF_3 : decode cX5_isNoughtF 3 = .ok (.istore_n 2, 1) := by decide +kernel
theorem dX5_isNoughtF_4 : decode cX5_isNoughtF 4 = .ok (.iload_n 2, 1) := by decide +kernel
theorem dX5_isNoughtF_5 : decode cX5_isNoughtF 5 = .ok (.aload_n 0, 1) := by decide +kernel
theorem dX5_isNoughtF_6 : decode cX5_isNoughtF 6 = .ok (.getfield 81, 3) := by decide +kernel
theorem dX5_isNoughtF_9 : decode cX5_isNoughtF 9 = .ok (.if_icmp .gt 28, 3) := by decide +kernel
theorem dX5_isNoughtF_12 : decode cX5_isNoughtF 12 = .ok (.iload_n 1, 1) := by decide +kernel
theorem dX5_isNoughtF_13 : decode cX5_isNoughtF 13 = .ok (.ifCond .eq 16, 3) := by decide +kernel
theorem dX5_isNoughtF_16 : decode cX5_isNoughtF 16 = .ok (.aload_n 0, 1) := by decide +kernel
theorem dX5_isNoughtF_17 : decode cX5_isNoughtF 17 = .ok (.getfield 22, 3) := by decide +kernel
theorem dX5_isNoughtF_20 : decode cX5_isNoughtF 20 = .ok (.iload_n 2, 1) := by decide +kernel
theorem dX5_isNoughtF_21 : decode cX5_isNoughtF 21 = .ok (.iaload, 1) := by decide +kernel
theorem dX5_isNoughtF_22 : decode cX5_isNoughtF 22 = .ok (.ifCond .ne 7, 3) := by decide +kernel
theorem dX5_isNoughtF_25 : decode cX5_isNoughtF 25 = .ok (.iconst 1, 1) := by decide +kernel
theorem dX5_isNoughtF_26 : decode cX5_isNoughtF 26 = .ok (.goto 4, 3) := by decide +kernel
theorem dX5_isNoughtF_29 : decode cX5_isNoughtF 29 = .ok (.iconst 0, 1) := by decide +kernel
theorem dX5_isNoughtF_30 : decode cX5_isNoughtF 30 = .ok (.istore_n 1, 1) := by decide +kernel
theorem dX5_isNoughtF_31 : decode cX5_isNoughtF 31 = .ok (.iinc 2 1, 3) := by decide +kernel
theorem dX5_isNoughtF_34 : decode cX5_isNoughtF 34 = .ok (.goto (-30), 3) := by decide +kernel
theorem dX5_isNoughtF_37 : decode cX5_isNoughtF 37 = .ok (.iload_n 1, 1) := by decide +kernel
theorem dX5_isNoughtF_38 : decode cX5_isNoughtF 38 = .ok (.ireturn, 1) := by decide +kernel
theorem dX5_isNoughtG_0 : decode cX5_isNoughtG 0 = .ok (.iconst 1, 1) := by decide +kernel
theorem dX5_isNoughtG_1 : decode cX5_isNoughtG 1 = .ok (.istore_n 1, 1) := by decide +kernel
theorem dX5_isNoughtG_2 : decode cX5_isNoughtG 2 = .ok (.iconst 0, 1) := by decide +kernel
theorem dX5_isNoughtG_3 : decode cX5_isNoughtG 3 = .ok (.istore_n 2, 1) := by decide +kernel
theorem dX5_isNoughtG_4 : decode cX5_isNoughtG 4 = .ok (.iload_n 2, 1) := by decide +kernel
theorem dX5_isNoughtG_5 : decode cX5_isNoughtG 5 = .ok (.aload_n 0, 1) := by decide +kernel
theorem dX5_isNoughtG_6 : decode cX5_isNoughtG 6 = .ok (.getfield 84, 3) := by decide +kernel
theorem dX5_isNoughtG_9 : decode cX5_isNoughtG 9 = .ok (.if_icmp .gt 28, 3) := by decide +kernel
theorem dX5_isNoughtG_12 : decode cX5_isNoughtG 12 = .ok (.iload_n 1, 1) := by decide +kernel
theorem dX5_isNoughtG_13 : decode cX5_isNoughtG 13 = .ok (.ifCond .eq 16, 3) := by decide +kernel
theorem dX5_isNoughtG_16 : decode cX5_isNoughtG 16 = .ok (.aload_n 0, 1) := by decide +kernel
theorem dX5_isNoughtG_17 : decode cX5_isNoughtG 17 = .ok (.getfield 25, 3) := by decide +kernel
theorem dX5_isNoughtG_20 : decode cX5_isNoughtG 20 = .ok (.iload_n 2, 1) := by decide +kernel
theorem dX5_isNoughtG_21 : decode cX5_isNoughtG 21 = .ok (.iaload, 1) := by decide +kernel
theorem dX5_isNoughtG_22 : decode cX5_isNoughtG 22 = .ok (.ifCond .ne 7, 3) := by decide +kernel
theorem dX5_isNoughtG_25 : decode cX5_isNoughtG 25 = .ok (.iconst 1, 1) := by decide +kernel
theorem dX5_isNoughtG_26 : decode cX5_isNoughtG 26 = .ok (.goto 4, 3) := by decide +kernel
theorem dX5_isNoughtG_29 : decode cX5_isNoughtG 29 = .ok (.iconst 0, 1) := by decide +kernel
theorem dX5_isNoughtG_30 : decode cX5_isNoughtG 30 = .ok (.istore_n 1, 1) := by decide +kernel
theorem dX5_isNoughtG_31 : decode cX5_isNoughtG 31 = .ok (.iinc 2 1, 3) := by decide +kernel
theorem dX5_isNoughtG_34 : decode cX5_isNoughtG 34 = .ok (.goto (-30), 3) := by decide +kernel
theorem dX5_isNoughtG_37 : decode cX5_isNoughtG 37 = .ok (.iload_n 1, 1) := by decide +kernel
theorem dX5_isNoughtG_38 : decode cX5_isNoughtG 38 = .ok (.ireturn, 1) := by decide +kernel
theorem dX5_term_0 : decode cX5_term 0 = .ok (.iload_n 1, 1) := by decide +kernel
theorem dX5_term_1 : decode cX5_term 1 = .ok (.invokestatic 66, 3) := by decide +kernel
theorem dX5_term_4 : decode cX5_term 4 = .ok (.ifCond .eq 15, 3) := by decide +kernel
theorem dX5_term_7 : decode cX5_term 7 = .ok (.iload_n 2, 1) := by decide +kernel
theorem dX5_term_8 : decode cX5_term 8 = .ok (.i2l, 1) := by decide +kernel
theorem dX5_term_9 : decode cX5_term 9 = .ok (.lconst 0, 1) := by decide +kernel
theorem dX5_term_10 : decode cX5_term 10 = .ok (.ldc2_w 100, 3) := by decide +kernel
theorem dX5_term_13 : decode cX5_term 13 = .ok (.invokestatic 62, 3) := by decide +kernel
theorem dX5_term_16 : decode cX5_term 16 = .ok (.ifCond .ne 6, 3) := by decide +kernel
theorem dX5_term_19 : decode cX5_term 19 = .ok (.bipush (-2), 2) := by decide +kernel
theorem dX5_term_21 : decode cX5_term 21 = .ok (.ireturn, 1) := by decide +kernel
theorem dX5_term_22 : decode cX5_term 22 = .ok (.aload_n 0, 1) := by decide +kernel
theorem dX5_term_23 : decode cX5_term 23 = .ok (.iload_n 1, 1) := by decide +kernel
theorem dX5_term_24 : decode cX5_term 24 = .ok (.invokevirtual 102, 3) := by decide +kernel
theorem dX5_term_27 : decode cX5_term 27 = .ok (.istore_n 3, 1) := by decide +kernel
theorem dX5_term_28 : decode cX5_term 28 = .ok (.iload_n 3, 1) := by decide +kernel
theorem dX5_term_29 : decode cX5_term 29 = .ok (.ifCond .eq 7, 3) := by decide +kernel
theorem dX5_term_32 : decode cX5_term 32 = .ok (.iload_n 3, 1) := by decide +kernel
theorem dX5_term_33 : decode cX5_term 33 = .ok (.goto 9, 3) := by decide +kernel
theorem dX5_term_36 : decode cX5_term 36 = .ok (.aload_n 0, 1) := by decide +kernel
theorem dX5_term_37 : decode cX5_term 37 = .ok (.getfield 22, 3) := by decide +kernel
theorem dX5_term_40 : decode cX5_term 40 = .ok (.iload_n 2, 1) := by decide +kernel
theorem dX5_term_41 : decode cX5_term 41 = .ok (.iaload, 1) := by decide +kernel
theorem dX5_term_42 : decode cX5_term 42 = .ok (.ireturn, 1) := by decide +kernel
theorem dX5_degree_0 : decode cX5_degree 0 = .ok (.iload_n 1, 1) := by decide +kernel
theorem dX5_degree_1 : decode cX5_degree 1 = .ok (.invokestatic 66, 3) := by decide +kernel
theorem dX5_degree_4 : decode cX5_degree 4 = .ok (.ifCond .ne 6, 3) := by decide +kernel
theorem dX5_degree_7 : decode cX5_degree 7 = .ok (.bipush (-2), 2) := by decide +kernel
theorem dX5_degree_9 : decode cX5_degree 9 = .ok (.ireturn, 1) := by decide +kernel
theorem dX5_degree_10 : decode cX5_degree 10 = .ok (.aload_n 0, 1) := by decide +kernel
theorem dX5_degree_11 : decode cX5_degree 11 = .ok (.iload_n 1, 1) := by decide +kernel
theorem dX5_degree_12 : decode cX5_degree 12 = .ok (.invokevirtual 102, 3) := by decide +kernel
theorem dX5_degree_15 : decode cX5_degree 15 = .ok (.istore_n 2, 1) := by decide +kernel
theorem dX5_degree_16 : decode cX5_degree 16 = .ok (.iload_n 2, 1) := by decide +kernel
theorem dX5_degree_17 : decode cX5_degree 17 = .ok (.ifCond .eq 7, 3) := by decide +kernel
theorem dX5_degree_20 : decode cX5_degree 20 = .ok (.iload_n 2, 1) := by decide +kernel
theorem dX5_degree_21 : decode cX5_degree 21 = .ok (.goto 7, 3) := by decide +kernel
theorem dX5_degree_24 : decode cX5_degree 24 = .ok (.aload_n 0, 1) := by decide +kernel
theorem dX5_degree_25 : decode cX5_degree 25 = .ok (.getfield 81, 3) := by decide +kernel
theorem dX5_degree_28 : decode cX5_degree 28 = .ok (.ireturn, 1) := by decide +kernel
theorem dX5_valueF_0 : decode cX5_valueF 0 = .ok (.iconst 0, 1) := by decide +kernel
theorem dX5_valueF_1 : decode cX5_valueF 1 = .ok (.istore_n 3, 1) := by decide +kernel
theorem dX5_valueF_2 : decode cX5_valueF 2 = .ok (.iconst 1, 1) := by decide +kernel
theorem dX5_valueF_3 : decode cX5_valueF 3 = .ok (.istore 4, 2) := by decide +kernel
theorem dX5_valueF_5 : decode cX5_valueF 5 = .ok (.iconst 0, 1) := by decide +kernel
theorem dX5_valueF_6 : decode cX5_valueF 6 = .ok (.istore 5, 2) := by decide +kernel
theorem dX5_valueF_8 : decode cX5_valueF 8 = .ok (.iload 5, 2) := by decide +kernel
theorem dX5_valueF_10 : decode cX5_valueF 10 = .ok (.aload_n 0, 1) := by decide +kernel
theorem dX5_valueF_11 : decode cX5_valueF 11 = .ok (.getfield 81, 3) := by decide +kernel
theorem dX5_valueF_14 : decode cX5_valueF 14 = .ok (.if_icmp .gt 68, 3) := by decide +kernel
theorem dX5_valueF_17 : decode cX5_valueF 17 = .ok (.aload_n 0, 1) := by decide +kernel
theorem dX5_valueF_18 : decode cX5_valueF 18 = .ok (.getfield 22, 3) := by decide +kernel
theorem dX5_valueF_21 : decode cX5_valueF 21 = .ok (.iload 5, 2) := by decide +kernel
theorem dX5_valueF_23 : decode cX5_valueF 23 = .ok (.iaload, 1) := by decide +kernel
theorem dX5_valueF_24 : decode cX5_valueF 24 = .ok (.iload 4, 2) := by decide +kernel
theorem dX5_valueF_26 : decode cX5_valueF 26 = .ok (.invokestatic 52, 3) := by decide +kernel
theorem dX5_valueF_29 : decode cX5_valueF 29 = .ok (.istore 6, 2) := by decide +kernel
theorem dX5_valueF_31 : decode cX5_valueF 31 = .ok (.iload 5, 2) := by decide +kernel
theorem dX5_valueF_33 : decode cX5_valueF 33 = .ok (.istore 7, 2) := by decide +kernel
theorem dX5_valueF_35 : decode cX5_valueF 35 = .ok (.iload 7, 2) := by decide +kernel
theorem dX5_valueF_37 : decode cX5_valueF 37 = .ok (.aload_n 0, 1) := by decide +kernel
theorem dX5_valueF_38 : decode cX5_valueF 38 = .ok (.getfield 81, 3) := by decide +kernel
theorem dX5_valueF_41 : decode cX5_valueF 41 = .ok (.if_icmp .ge 17, 3) := by decide +kernel
theorem dX5_valueF_44 : decode cX5_valueF 44 = .ok (.iload 6, 2) := by decide +kernel
theorem dX5_valueF_46 : decode cX5_valueF 46 = .ok (.iload_n 1, 1) := by decide +kernel
theorem dX5_valueF_47 : decode cX5_valueF 47 = .ok (.invokestatic 52, 3) := by decide +kernel
theorem dX5_valueF_50 : decode cX5_valueF 50 = .ok (.istore 6, 2) := by decide +kernel
theorem dX5_valueF_52 : decode cX5_valueF 52 = .ok (.iinc 7 1, 3) := by decide +kernel
theorem dX5_valueF_55 : decode cX5_valueF 55 = .ok (.goto (-20), 3) := by decide +kernel
theorem dX5_valueF_58 : decode cX5_valueF 58 = .ok (.iload_n 3, 1) := by decide +kernel
theorem dX5_valueF_59 : decode cX5_valueF 59 = .ok (.i2l, 1) := by decide +kernel
theorem dX5_valueF_60 : decode cX5_valueF 60 = .ok (.iload 6, 2) := by decide +kernel
theorem dX5_valueF_62 : decode cX5_valueF 62 = .ok (.i2l, 1) := by decide +kernel
theorem dX5_valueF_63 : decode cX5_valueF 63 = .ok (.ladd, 1) := by decide +kernel
theorem dX5_valueF_64 : decode cX5_valueF 64 = .ok (.invokestatic 48, 3) := by decide +kernel
theorem dX5_valueF_67 : decode cX5_valueF 67 = .ok (.istore_n 3, 1) := by decide +kernel
theorem dX5_valueF_68 : decode cX5_valueF 68 = .ok (.iload 4, 2) := by decide +kernel
theorem dX5_valueF_70 : decode cX5_valueF 70 = .ok (.iload_n 2, 1) := by decide +kernel
theorem dX5_valueF_71 : decode cX5_valueF 71 = .ok (.invokestatic 52, 3) := by decide +kernel
theorem dX5_valueF_74 : decode cX5_valueF 74 = .ok (.istore 4, 2) := by decide +kernel
theorem dX5_valueF_76 : decode cX5_valueF 76 = .ok (.iinc 5 1, 3) := by decide +kernel
theorem dX5_valueF_79 : decode cX5_valueF 79 = .ok (.goto (-71), 3) := by decide +kernel
theorem dX5_valueF_82 : decode cX5_valueF 82 = .ok (.iload_n 3, 1) := by decide +kernel
theorem dX5_valueF_83 : decode cX5_valueF 83 = .ok (.ireturn, 1) := by decide +kernel
theorem dX5_value_0 : decode cX5_value 0 = .ok (.iload_n 1, 1) := by decide +kernel
theorem dX5_value_1 : decode cX5_value 1 = .ok (.invokestatic 66, 3) := by decide +kernel
theorem dX5_value_4 : decode cX5_value 4 = .ok (.ifCond .ne 6, 3) := by decide +kernel
theorem dX5_value_7 : decode cX5_value 7 = .ok (.bipush (-2), 2) := by decide +kernel
theorem dX5_value_9 : decode cX5_value 9 = .ok (.ireturn, 1) := by decide +kernel
theorem dX5_value_10 : decode cX5_value 10 = .ok (.aload_n 0, 1) := by decide +kernel
theorem dX5_value_11 : decode cX5_value 11 = .ok (.iload_n 1, 1) := by decide +kernel
theorem dX5_value_12 : decode cX5_value 12 = .ok (.invokevirtual 102, 3) := by decide +kernel
theorem dX5_value_15 : decode cX5_value 15 = .ok (.istore 4, 2) := by decide +kernel
theorem dX5_value_17 : decode cX5_value 17 = .ok (.iload 4, 2) := by decide +kernel
theorem dX5_value_19 : decode cX5_value 19 = .ok (.ifCond .eq 8, 3) := by decide +kernel
theorem dX5_value_22 : decode cX5_value 22 = .ok (.iload 4, 2) := by decide +kernel
theorem dX5_value_24 : decode cX5_value 24 = .ok (.goto 17, 3) := by decide +kernel
theorem dX5_value_27 : decode cX5_value 27 = .ok (.aload_n 0, 1) := by decide +kernel
theorem dX5_value_28 : decode cX5_value 28 = .ok (.iload_n 2, 1) := by decide +kernel
theorem dX5_value_29 : decode cX5_value 29 = .ok (.i2l, 1) := by decide +kernel
theorem dX5_value_30 : decode cX5_value 30 = .ok (.invokestatic 48, 3) := by decide +kernel
theorem dX5_value_33 : decode cX5_value 33 = .ok (.iload_n 3, 1) := by decide +kernel
theorem dX5_value_34 : decode cX5_value 34 = .ok (.i2l, 1) := by decide +kernel
theorem dX5_value_35 : decode cX5_value 35 = .ok (.invokestatic 48, 3) := by decide +kernel
theorem dX5_value_38 : decode cX5_value 38 = .ok (.invokevirtual 105, 3) := by decide +kernel
theorem dX5_value_41 : decode cX5_value 41 = .ok (.ireturn, 1) := by decide +kernel
theorem dX5_join_0 : decode cX5_join 0 = .ok (.iload_n 1, 1) := by decide +kernel
theorem dX5_join_1 : decode cX5_join 1 = .ok (.invokestatic 66, 3) := by decide +kernel
theorem dX5_join_4 : decode cX5_join 4 = .ok (.ifCond .eq 30, 3) := by decide +kernel
theorem dX5_join_7 : decode cX5_join 7 = .ok (.iload_n 2, 1) := by decide +kernel
theorem dX5_join_8 : decode cX5_join 8 = .ok (.invokestatic 66, 3) := by decide +kernel
theorem dX5_join_11 : decode cX5_join 11 = .ok (.ifCond .eq 23, 3) := by decide +kernel
theorem dX5_join_14 : decode cX5_join 14 = .ok (.iload_n 3, 1) := by decide +kernel
theorem dX5_join_15 : decode cX5_join 15 = .ok (.invokestatic 66, 3) := by decide +kernel
theorem dX5_join_18 : decode cX5_join 18 = .ok (.ifCond .eq 16, 3) := by decide +kernel
theorem dX5_join_21 : decode cX5_join 21 = .ok (.iload 4, 2) := by decide +kernel
theorem dX5_join_23 : decode cX5_join 23 = .ok (.i2l, 1) := by decide +kernel
theorem dX5_join_24 : decode cX5_join 24 = .ok (.lconst 0, 1) := by decide +kernel
theorem dX5_join_25 : decode cX5_join 25 = .ok (.ldc2_w 108, 3) := by decide +kernel
theorem dX5_join_28 : decode cX5_join 28 = .ok (.invokestatic 62, 3) := by decide +kernel
theorem dX5_join_31 : decode cX5_join 31 = .ok (.ifCond .ne 6, 3) := by decide +kernel
theorem dX5_join_34 : decode cX5_join 34 = .ok (.bipush (-2), 2) := by decide +kernel
theorem dX5_join_36 : decode cX5_join 36 = .ok (.ireturn, 1) := by decide +kernel
theorem dX5_join_37 : decode cX5_join 37 = .ok (.aload_n 0, 1) := by decide +kernel
theorem dX5_join_38 : decode cX5_join 38 = .ok (.iload_n 1, 1) := by decide +kernel
theorem dX5_join_39 : decode cX5_join 39 = .ok (.iload_n 2, 1) := by decide +kernel
theorem dX5_join_40 : decode cX5_join 40 = .ok (.invokevirtual 110, 3) := by decide +kernel
theorem dX5_join_43 : decode cX5_join 43 = .ok (.istore 5, 2) := by decide +kernel
theorem dX5_join_45 : decode cX5_join 45 = .ok (.iload 5, 2) := by decide +kernel
theorem dX5_join_47 : decode cX5_join 47 = .ok (.ifCond .eq 6, 3) := by decide +kernel
theorem dX5_join_50 : decode cX5_join 50 = .ok (.iload 5, 2) := by decide +kernel
theorem dX5_join_52 : decode cX5_join 52 = .ok (.ireturn, 1) := by decide +kernel
theorem dX5_join_53 : decode cX5_join 53 = .ok (.iload 4, 2) := by decide +kernel
theorem dX5_join_55 : decode cX5_join 55 = .ok (.iconst 2, 1) := by decide +kernel
theorem dX5_join_56 : decode cX5_join 56 = .ok (.if_icmp .ge 14, 3) := by decide +kernel
theorem dX5_join_59 : decode cX5_join 59 = .ok (.aload_n 0, 1) := by decide +kernel
theorem dX5_join_60 : decode cX5_join 60 = .ok (.getfield 81, 3) := by decide +kernel
theorem dX5_join_63 : decode cX5_join 63 = .ok (.aload_n 0, 1) := by decide +kernel
theorem dX5_join_64 : decode cX5_join 64 = .ok (.getfield 84, 3) := by decide +kernel
theorem dX5_join_67 : decode cX5_join 67 = .ok (.if_icmp .ne 23, 3) := by decide +kernel
theorem dX5_join_70 : decode cX5_join 70 = .ok (.iload 4, 2) := by decide +kernel
theorem dX5_join_72 : decode cX5_join 72 = .ok (.iconst 2, 1) := by decide +kernel
theorem dX5_join_73 : decode cX5_join 73 = .ok (.if_icmp .ne 20, 3) := by decide +kernel
theorem dX5_join_76 : decode cX5_join 76 = .ok (.aload_n 0, 1) := by decide +kernel
theorem dX5_join_77 : decode cX5_join 77 = .ok (.getfield 81, 3) := by decide +kernel
theorem dX5_join_80 : decode cX5_join 80 = .ok (.aload_n 0, 1) := by decide +kernel
theorem dX5_join_81 : decode cX5_join 81 = .ok (.getfield 84, 3) := by decide +kernel
theorem dX5_join_84 : decode cX5_join 84 = .ok (.iadd, 1) := by decide +kernel
theorem dX5_join_85 : decode cX5_join 85 = .ok (.bipush 8, 2) := by decide +kernel
theorem dX5_join_87 : decode cX5_join 87 = .ok (.if_icmp .le 6, 3) := by decide +kernel
theorem dX5_join_90 : decode cX5_join 90 = .ok (.bipush (-3), 2) := by decide +kernel
theorem dX5_join_92 : decode cX5_join 92 = .ok (.ireturn, 1) := by decide +kernel
theorem dX5_join_93 : decode cX5_join 93 = .ok (.aload_n 0, 1) := by decide +kernel
theorem dX5_join_94 : decode cX5_join 94 = .ok (.iload 4, 2) := by decide +kernel
theorem dX5_join_96 : decode cX5_join 96 = .ok (.iconst 2, 1) := by decide +kernel
theorem dX5_join_97 : decode cX5_join 97 = .ok (.if_icmp .ne 15, 3) := by decide +kernel
theorem dX5_join_100 : decode cX5_join 100 = .ok (.aload_n 0, 1) := by decide +kernel
theorem dX5_join_101 : decode cX5_join 101 = .ok (.getfield 81, 3) := by decide +kernel
theorem dX5_join_104 : decode cX5_join 104 = .ok (.aload_n 0, 1) := by decide +kernel
theorem dX5_join_105 : decode cX5_join 105 = .ok (.getfield 84, 3) := by decide +kernel
theorem dX5_join_108 : decode cX5_join 108 = .ok (.iadd, 1) := by decide +kernel
theorem dX5_join_109 : decode cX5_join 109 = .ok (.goto 7, 3) := by decide +kernel
theorem dX5_join_112 : decode cX5_join 112 = .ok (.aload_n 0, 1) := by decide +kernel
theorem dX5_join_113 : decode cX5_join 113 = .ok (.getfield 81, 3) := by decide +kernel
theorem dX5_join_116 : decode cX5_join 116 = .ok (.invokevirtual 113, 3) := by decide +kernel
theorem dX5_join_119 : decode cX5_join 119 = .ok (.iconst 0, 1) := by decide +kernel
theorem dX5_join_120 : decode cX5_join 120 = .ok (.istore 6, 2) := by decide +kernel
theorem dX5_join_122 : decode cX5_join 122 = .ok (.iload 6, 2) := by decide +kernel
theorem dX5_join_124 : decode cX5_join 124 = .ok (.aload_n 0, 1) := by decide +kernel
theorem dX5_join_125 : decode cX5_join 125 = .ok (.getfield 81, 3) := by decide +kernel
theorem dX5_join_128 : decode cX5_join 128 = .ok (.if_icmp .gt 156, 3) := by decide +kernel
theorem dX5_join_131 : decode cX5_join 131 = .ok (.iload 4, 2) := by decide +kernel
theorem dX5_join_133 : decode cX5_join 133 = .ok (.iconst 2, 1) := by decide +kernel
theorem dX5_join_134 : decode cX5_join 134 = .ok (.if_icmp .ne 66, 3) := by decide +kernel
theorem dX5_join_137 : decode cX5_join 137 = .ok (.iconst 0, 1) := by decide +kernel
theorem dX5_join_138 : decode cX5_join 138 = .ok (.istore 7, 2) := by decide +kernel
theorem dX5_join_140 : decode cX5_join 140 = .ok (.iload 7, 2) := by decide +kernel
theorem dX5_join_142 : decode cX5_join 142 = .ok (.aload_n 0, 1) := by decide +kernel
theorem dX5_join_143 : decode cX5_join 143 = .ok (.getfield 84, 3) := by decide +kernel
theorem dX5_join_146 : decode cX5_join 146 = .ok (.if_icmp .gt 51, 3) := by decide +kernel
theorem dX5_join_149 : decode cX5_join 149 = .ok (.aload_n 0, 1) := by decide +kernel
theorem dX5_join_150 : decode cX5_join 150 = .ok (.getfield 28, 3) := by decide +kernel
theorem dX5_join_153 : decode cX5_join 153 = .ok (.iload 6, 2) := by decide +kernel
theorem dX5_join_155 : decode cX5_join 155 = .ok (.iload 7, 2) := by decide +kernel
theorem dX5_join_157 : decode cX5_join 157 = .ok (.iadd, 1) := by decide +kernel
theorem dX5_join_158 : decode cX5_join 158 = .ok (.aload_n 0, 1) := by decide +kernel
theorem dX5_join_159 : decode cX5_join 159 = .ok (.getfield 28, 3) := by decide +kernel
theorem dX5_join_162 : decode cX5_join 162 = .ok (.iload 6, 2) := by decide +kernel
theorem dX5_join_164 : decode cX5_join 164 = .ok (.iload 7, 2) := by decide +kernel
theorem dX5_join_166 : decode cX5_join 166 = .ok (.iadd, 1) := by decide +kernel
theorem dX5_join_167 : decode cX5_join 167 = .ok (.iaload, 1) := by decide +kernel
theorem dX5_join_168 : decode cX5_join 168 = .ok (.i2l, 1) := by decide +kernel
theorem dX5_join_169 : decode cX5_join 169 = .ok (.aload_n 0, 1) := by decide +kernel
theorem dX5_join_170 : decode cX5_join 170 = .ok (.getfield 22, 3) := by decide +kernel
theorem dX5_join_173 : decode cX5_join 173 = .ok (.iload 6, 2) := by decide +kernel
theorem dX5_join_175 : decode cX5_join 175 = .ok (.iaload, 1) := by decide +kernel
theorem dX5_join_176 : decode cX5_join 176 = .ok (.i2l, 1) := by decide +kernel
theorem dX5_join_177 : decode cX5_join 177 = .ok (.aload_n 0, 1) := by decide +kernel
theorem dX5_join_178 : decode cX5_join 178 = .ok (.getfield 25, 3) := by decide +kernel
theorem dX5_join_181 : decode cX5_join 181 = .ok (.iload 7, 2) := by decide +kernel
theorem dX5_join_183 : decode cX5_join 183 = .ok (.iaload, 1) := by decide +kernel
theorem dX5_join_184 : decode cX5_join 184 = .ok (.i2l, 1) := by decide +kernel
theorem dX5_join_185 : decode cX5_join 185 = .ok (.lmul, 1) := by decide +kernel
theorem dX5_join_186 : decode cX5_join 186 = .ok (.ladd, 1) := by decide +kernel
theorem dX5_join_187 : decode cX5_join 187 = .ok (.invokestatic 48, 3) := by decide +kernel
theorem dX5_join_190 : decode cX5_join 190 = .ok (.iastore, 1) := by decide +kernel
theorem dX5_join_191 : decode cX5_join 191 = .ok (.iinc 7 1, 3) := by decide +kernel
theorem dX5_join_194 : decode cX5_join 194 = .ok (.goto (-54), 3) := by decide +kernel
theorem dX5_join_197 : decode cX5_join 197 = .ok (.goto 81, 3) := by decide +kernel
theorem dX5_join_200 : decode cX5_join 200 = .ok (.aload_n 0, 1) := by decide +kernel
theorem dX5_join_201 : decode cX5_join 201 = .ok (.getfield 28, 3) := by decide +kernel
theorem dX5_join_204 : decode cX5_join 204 = .ok (.iload 6, 2) := by decide +kernel
theorem dX5_join_206 : decode cX5_join 206 = .ok (.iload 4, 2) := by decide +kernel
theorem dX5_join_208 : decode cX5_join 208 = .ok (.ifCond .ne 25, 3) := by decide +kernel
theorem dX5_join_211 : decode cX5_join 211 = .ok (.aload_n 0, 1) := by decide +kernel
theorem dX5_join_212 : decode cX5_join 212 = .ok (.getfield 22, 3) := by decide +kernel
theorem dX5_join_215 : decode cX5_join 215 = .ok (.iload 6, 2) := by decide +kernel
theorem dX5_join_217 : decode cX5_join 217 = .ok (.iaload, 1) := by decide +kernel
theorem dX5_join_218 : decode cX5_join 218 = .ok (.aload_n 0, 1) := by decide +kernel
theorem dX5_join_219 : decode cX5_join 219 = .ok (.getfield 25, 3) := by decide +kernel
theorem dX5_join_222 : decode cX5_join 222 = .ok (.iload 6, 2) := by decide +kernel
theorem dX5_join_224 : decode cX5_join 224 = .ok (.iaload, 1) := by decide +kernel
theorem dX5_join_225 : decode cX5_join 225 = .ok (.iadd, 1) := by decide +kernel
theorem dX5_join_226 : decode cX5_join 226 = .ok (.i2l, 1) := by decide +kernel
theorem dX5_join_227 : decode cX5_join 227 = .ok (.invokestatic 48, 3) := by decide +kernel
theorem dX5_join_230 : decode cX5_join 230 = .ok (.goto 47, 3) := by decide +kernel
theorem dX5_join_233 : decode cX5_join 233 = .ok (.iload 4, 2) := by decide +kernel
theorem dX5_join_235 : decode cX5_join 235 = .ok (.iconst 1, 1) := by decide +kernel
theorem dX5_join_236 : decode cX5_join 236 = .ok (.if_icmp .ne 25, 3) := by decide +kernel
theorem dX5_join_239 : decode cX5_join 239 = .ok (.aload_n 0, 1) := by decide +kernel
theorem dX5_join_240 : decode cX5_join 240 = .ok (.getfield 22, 3) := by decide +kernel
theorem dX5_join_243 : decode cX5_join 243 = .ok (.iload 6, 2) := by decide +kernel
theorem dX5_join_245 : decode cX5_join 245 = .ok (.iaload, 1) := by decide +kernel
theorem dX5_join_246 : decode cX5_join 246 = .ok (.aload_n 0, 1) := by decide +kernel
theorem dX5_join_247 : decode cX5_join 247 = .ok (.getfield 25, 3) := by decide +kernel
theorem dX5_join_250 : decode cX5_join 250 = .ok (.iload 6, 2) := by decide +kernel
theorem dX5_join_252 : decode cX5_join 252 = .ok (.iaload, 1) := by decide +kernel
theorem dX5_join_253 : decode cX5_join 253 = .ok (.isub, 1) := by decide +kernel
theorem dX5_join_254 : decode cX5_join 254 = .ok (.i2l, 1) := by decide +kernel
theorem dX5_join_255 : decode cX5_join 255 = .ok (.invokestatic 48, 3) := by decide +kernel
theorem dX5_join_258 : decode cX5_join 258 = .ok (.goto 19, 3) := by decide +kernel
theorem dX5_join_261 : decode cX5_join 261 = .ok (.aload_n 0, 1) := by decide +kernel
theorem dX5_join_262 : decode cX5_join 262 = .ok (.getfield 22, 3) := by decide +kernel
theorem dX5_join_265 : decode cX5_join 265 = .ok (.iload 6, 2) := by decide +kernel
theorem dX5_join_267 : decode cX5_join 267 = .ok (.iaload, 1) := by decide +kernel
theorem dX5_join_268 : decode cX5_join 268 = .ok (.aload_n 0, 1) := by decide +kernel
theorem dX5_join_269 : decode cX5_join 269 = .ok (.getfield 25, 3) := by decide +kernel
theorem dX5_join_272 : decode cX5_join 272 = .ok (.iconst 0, 1) := by decide +kernel
theorem dX5_join_273 : decode cX5_join 273 = .ok (.iaload, 1) := by decide +kernel
theorem dX5_join_274 : decode cX5_join 274 = .ok (.invokestatic 52, 3) := by decide +kernel
theorem dX5_join_277 : decode cX5_join 277 = .ok (.iastore, 1) := by decide +kernel
theorem dX5_join_278 : decode cX5_join 278 = .ok (.iinc 6 1, 3) := by decide +kernel
theorem dX5_join_281 : decode cX5_join 281 = .ok (.goto (-159), 3) := by decide +kernel
theorem dX5_join_284 : decode cX5_join 284 = .ok (.aload_n 0, 1) := by decide +kernel
theorem dX5_join_285 : decode cX5_join 285 = .ok (.iload_n 3, 1) := by decide +kernel
theorem dX5_join_286 : decode cX5_join 286 = .ok (.invokevirtual 116, 3) := by decide +kernel
theorem dX5_join_289 : decode cX5_join 289 = .ok (.ireturn, 1) := by decide +kernel
theorem dX5_mixes_0 : decode cX5_mixes 0 = .ok (.aload_n 0, 1) := by decide +kernel
theorem dX5_mixes_1 : decode cX5_mixes 1 = .ok (.aload_n 0, 1) := by decide +kernel
theorem dX5_mixes_2 : decode cX5_mixes 2 = .ok (.getfield 81, 3) := by decide +kernel
theorem dX5_mixes_5 : decode cX5_mixes 5 = .ok (.invokevirtual 113, 3) := by decide +kernel
theorem dX5_mixes_8 : decode cX5_mixes 8 = .ok (.iconst 0, 1) := by decide +kernel
theorem dX5_mixes_9 : decode cX5_mixes 9 = .ok (.istore 5, 2) := by decide +kernel
theorem dX5_mixes_11 : decode cX5_mixes 11 = .ok (.iload 5, 2) := by decide +kernel
theorem dX5_mixes_13 : decode cX5_mixes 13 = .ok (.aload_n 0, 1) := by decide +kernel
theorem dX5_mixes_14 : decode cX5_mixes 14 = .ok (.getfield 81, 3) := by decide +kernel
theorem dX5_mixes_17 : decode cX5_mixes 17 = .ok (.if_icmp .gt 212, 3) := by decide +kernel
theorem dX5_mixes_20 : decode cX5_mixes 20 = .ok (.iconst 0, 1) := by decide +kernel
theorem dX5_mixes_21 : decode cX5_mixes 21 = .ok (.istore 6, 2) := by decide +kernel
theorem dX5_mixes_23 : decode cX5_mixes 23 = .ok (.iload 6, 2) := by decide +kernel
theorem dX5_mixes_25 : decode cX5_mixes 25 = .ok (.bipush 10, 2) := by decide +kernel
theorem dX5_mixes_27 : decode cX5_mixes 27 = .ok (.if_icmp .ge 32, 3) := by decide +kernel
theorem dX5_mixes_30 : decode cX5_mixes 30 = .ok (.aload_n 0, 1) := by decide +kernel
theorem dX5_mixes_31 : decode cX5_mixes 31 = .ok (.getfield 31, 3) := by decide +kernel
theorem dX5_mixes_34 : decode cX5_mixes 34 = .ok (.iload 6, 2) := by decide +kernel
theorem dX5_mixes_36 : decode cX5_mixes 36 = .ok (.iload 6, 2) := by decide +kernel
theorem dX5_mixes_38 : decode cX5_mixes 38 = .ok (.ifCond .ne 13, 3) := by decide +kernel
theorem dX5_mixes_41 : decode cX5_mixes 41 = .ok (.aload_n 0, 1) := by decide +kernel
theorem dX5_mixes_42 : decode cX5_mixes 42 = .ok (.getfield 22, 3) := by decide +kernel
theorem dX5_mixes_45 : decode cX5_mixes 45 = .ok (.iload 5, 2) := by decide +kernel
theorem dX5_mixes_47 : decode cX5_mixes 47 = .ok (.iaload, 1) := by decide +kernel
theorem dX5_mixes_48 : decode cX5_mixes 48 = .ok (.goto 4, 3) := by decide +kernel
theorem dX5_mixes_51 : decode cX5_mixes 51 = .ok (.iconst 0, 1) := by decide +kernel
theorem dX5_mixes_52 : decode cX5_mixes 52 = .ok (.iastore, 1) := by decide +kernel
theorem dX5_mixes_53 : decode cX5_mixes 53 = .ok (.iinc 6 1, 3) := by decide +kernel
theorem dX5_mixes_56 : decode cX5_mixes 56 = .ok (.goto (-33), 3) := by decide +kernel
theorem dX5_mixes_59 : decode cX5_mixes 59 = .ok (.iconst 0, 1) := by decide +kernel
theorem dX5_mixes_60 : decode cX5_mixes 60 = .ok (.istore 6, 2) := by decide +kernel
theorem dX5_mixes_62 : decode cX5_mixes 62 = .ok (.iload 6, 2) := by decide +kernel
theorem dX5_mixes_64 : decode cX5_mixes 64 = .ok (.aload_n 0, 1) := by decide +kernel
theorem dX5_mixes_65 : decode cX5_mixes 65 = .ok (.getfield 81, 3) := by decide +kernel
theorem dX5_mixes_68 : decode cX5_mixes 68 = .ok (.if_icmp .ge 111, 3) := by decide +kernel
theorem dX5_mixes_71 : decode cX5_mixes 71 = .ok (.iload 6, 2) := by decide +kernel
theorem dX5_mixes_73 : decode cX5_mixes 73 = .ok (.aload_n 0, 1) := by decide +kernel
theorem dX5_mixes_74 : decode cX5_mixes 74 = .ok (.getfield 81, 3) := by decide +kernel
theorem dX5_mixes_77 : decode cX5_mixes 77 = .ok (.iload 5, 2) := by decide +kernel
theorem dX5_mixes_79 : decode cX5_mixes 79 = .ok (.isub, 1) := by decide +kernel
theorem dX5_mixes_80 : decode cX5_mixes 80 = .ok (.if_icmp .ge 7, 3) := by decide +kernel
theorem dX5_mixes_83 : decode cX5_mixes 83 = .ok (.iload_n 1, 1) := by decide +kernel
theorem dX5_mixes_84 : decode cX5_mixes 84 = .ok (.goto 4, 3) := by decide +kernel
theorem dX5_mixes_87 : decode cX5_mixes 87 = .ok (.iload_n 3, 1) := by decide +kernel
theorem dX5_mixes_88 : decode cX5_mixes 88 = .ok (.istore 7, 2) := by decide +kernel
theorem dX5_mixes_90 : decode cX5_mixes 90 = .ok (.iload 6, 2) := by decide +kernel
theorem dX5_mixes_92 : decode cX5_mixes 92 = .ok (.aload_n 0, 1) := by decide +kernel
theorem dX5_mixes_93 : decode cX5_mixes 93 = .ok (.getfield 81, 3) := by decide +kernel
theorem dX5_mixes_96 : decode cX5_mixes 96 = .ok (.iload 5, 2) := by decide +kernel
theorem dX5_mixes_98 : decode cX5_mixes 98 = .ok (.isub, 1) := by decide +kernel
theorem dX5_mixes_99 : decode cX5_mixes 99 = .ok (.if_icmp .ge 7, 3) := by decide +kernel
theorem dX5_mixes_102 : decode cX5_mixes 102 = .ok (.iload_n 2, 1) := by decide +kernel
theorem dX5_mixes_103 : decode cX5_mixes 103 = .ok (.goto 5, 3) := by decide +kernel
theorem dX5_mixes_106 : decode cX5_mixes 106 = .ok (.iload 4, 2) := by decide +kernel
theorem dX5_mixes_108 : decode cX5_mixes 108 = .ok (.istore 8, 2) := by decide +kernel
theorem dX5_mixes_110 : decode cX5_mixes 110 = .ok (.iload 6, 2) := by decide +kernel
theorem dX5_mixes_112 : decode cX5_mixes 112 = .ok (.iconst 1, 1) := by decide +kernel
theorem dX5_mixes_113 : decode cX5_mixes 113 = .ok (.iadd, 1) := by decide +kernel
theorem dX5_mixes_114 : decode cX5_mixes 114 = .ok (.istore 9, 2) := by decide +kernel
theorem dX5_mixes_116 : decode cX5_mixes 116 = .ok (.iload 9, 2) := by decide +kernel
theorem dX5_mixes_118 : decode cX5_mixes 118 = .ok (.ifCond .lt 55, 3) := by decide +kernel
theorem dX5_mixes_121 : decode cX5_mixes 121 = .ok (.aload_n 0, 1) := by decide +kernel
theorem dX5_mixes_122 : decode cX5_mixes 122 = .ok (.getfield 31, 3) := by decide +kernel
theorem dX5_mixes_125 : decode cX5_mixes 125 = .ok (.iload 9, 2) := by decide +kernel
theorem dX5_mixes_127 : decode cX5_mixes 127 = .ok (.aload_n 0, 1) := by decide +kernel
theorem dX5_mixes_128 : decode cX5_mixes 128 = .ok (.getfield 31, 3) := by decide +kernel
theorem dX5_mixes_131 : decode cX5_mixes 131 = .ok (.iload 9, 2) := by decide +kernel
theorem dX5_mixes_133 : decode cX5_mixes 133 = .ok (.iaload, 1) := by decide +kernel
theorem dX5_mixes_134 : decode cX5_mixes 134 = .ok (.i2l, 1) := by decide +kernel
theorem dX5_mixes_135 : decode cX5_mixes 135 = .ok (.iload 7, 2) := by decide +kernel
theorem dX5_mixes_137 : decode cX5_mixes 137 = .ok (.i2l, 1) := by decide +kernel
theorem dX5_mixes_138 : decode cX5_mixes 138 = .ok (.lmul, 1) := by decide +kernel
theorem dX5_mixes_139 : decode cX5_mixes 139 = .ok (.iload 9, 2) := by decide +kernel
theorem dX5_mixes_141 : decode cX5_mixes 141 = .ok (.ifCond .le 20, 3) := by decide +kernel
theorem dX5_mixes_144 : decode cX5_mixes 144 = .ok (.aload_n 0, 1) := by decide +kernel
theorem dX5_mixes_145 : decode cX5_mixes 145 = .ok (.getfield 31, 3) := by decide +kernel
theorem dX5_mixes_148 : decode cX5_mixes 148 = .ok (.iload 9, 2) := by decide +kernel
theorem dX5_mixes_150 : decode cX5_mixes 150 = .ok (.iconst 1, 1) := by decide +kernel
theorem dX5_mixes_151 : decode cX5_mixes 151 = .ok (.isub, 1) := by decide +kernel
theorem dX5_mixes_152 : decode cX5_mixes 152 = .ok (.iaload, 1) := by decide +kernel
theorem dX5_mixes_153 : decode cX5_mixes 153 = .ok (.i2l, 1) := by decide +kernel
theorem dX5_mixes_154 : decode cX5_mixes 154 = .ok (.iload 8, 2) := by decide +kernel
theorem dX5_mixes_156 : decode cX5_mixes 156 = .ok (.i2l, 1) := by decide +kernel
theorem dX5_mixes_157 : decode cX5_mixes 157 = .ok (.lmul, 1) := by decide +kernel
theorem dX5_mixes_158 : decode cX5_mixes 158 = .ok (.goto 4, 3) := by decide +kernel
theorem dX5_mixes_161 : decode cX5_mixes 161 = .ok (.lconst 0, 1) := by decide +kernel
theorem dX5_mixes_162 : decode cX5_mixes 162 = .ok (.ladd, 1) := by decide +kernel
theorem dX5_mixes_163 : decode cX5_mixes 163 = .ok (.invokestatic 48, 3) := by decide +kernel
theorem dX5_mixes_166 : decode cX5_mixes 166 = .ok (.iastore, 1) := by decide +kernel
theorem dX5_mixes_167 : decode cX5_mixes 167 = .ok (.iinc 9 (-1), 3) := by decide +kernel
theorem dX5_mixes_170 : decode cX5_mixes 170 = .ok (.goto (-54), 3) := by decide +kernel
theorem dX5_mixes_173 : decode cX5_mixes 173 = .ok (.iinc 6 1, 3) := by decide +kernel
theorem dX5_mixes_176 : decode cX5_mixes 176 = .ok (.goto (-114), 3) := by decide +kernel
theorem dX5_mixes_179 : decode cX5_mixes 179 = .ok (.iconst 0, 1) := by decide +kernel
theorem dX5_mixes_180 : decode cX5_mixes 180 = .ok (.istore 6, 2) := by decide +kernel
theorem dX5_mixes_182 : decode cX5_mixes 182 = .ok (.iload 6, 2) := by decide +kernel
theorem dX5_mixes_184 : decode cX5_mixes 184 = .ok (.aload_n 0, 1) := by decide +kernel
theorem dX5_mixes_185 : decode cX5_mixes 185 = .ok (.getfield 81, 3) := by decide +kernel
theorem dX5_mixes_188 : decode cX5_mixes 188 = .ok (.if_icmp .gt 35, 3) := by decide +kernel
theorem dX5_mixes_191 : decode cX5_mixes 191 = .ok (.aload_n 0, 1) := by decide +kernel
theorem dX5_mixes_192 : decode cX5_mixes 192 = .ok (.getfield 28, 3) := by decide +kernel
theorem dX5_mixes_195 : decode cX5_mixes 195 = .ok (.iload 6, 2) := by decide +kernel
theorem dX5_mixes_197 : decode cX5_mixes 197 = .ok (.aload_n 0, 1) := by decide +kernel
theorem dX5_mixes_198 : decode cX5_mixes 198 = .ok (.getfield 28, 3) := by decide +kernel
theorem dX5_mixes_201 : decode cX5_mixes 201 = .ok (.iload 6, 2) := by decide +kernel
theorem dX5_mixes_203 : decode cX5_mixes 203 = .ok (.iaload, 1) := by decide +kernel
theorem dX5_mixes_204 : decode cX5_mixes 204 = .ok (.aload_n 0, 1) := by decide +kernel
theorem dX5_mixes_205 : decode cX5_mixes 205 = .ok (.getfield 31, 3) := by decide +kernel
theorem dX5_mixes_208 : decode cX5_mixes 208 = .ok (.iload 6, 2) := by decide +kernel
theorem dX5_mixes_210 : decode cX5_mixes 210 = .ok (.iaload, 1) := by decide +kernel
theorem dX5_mixes_211 : decode cX5_mixes 211 = .ok (.iadd, 1) := by decide +kernel
theorem dX5_mixes_212 : decode cX5_mixes 212 = .ok (.i2l, 1) := by decide +kernel
theorem dX5_mixes_213 : decode cX5_mixes 213 = .ok (.invokestatic 48, 3) := by decide +kernel
theorem dX5_mixes_216 : decode cX5_mixes 216 = .ok (.iastore, 1) := by decide +kernel
theorem dX5_mixes_217 : decode cX5_mixes 217 = .ok (.iinc 6 1, 3) := by decide +kernel
theorem dX5_mixes_220 : decode cX5_mixes 220 = .ok (.goto (-38), 3) := by decide +kernel
theorem dX5_mixes_223 : decode cX5_mixes 223 = .ok (.iinc 5 1, 3) := by decide +kernel
theorem dX5_mixes_226 : decode cX5_mixes 226 = .ok (.goto (-215), 3) := by decide +kernel
theorem dX5_mixes_229 : decode cX5_mixes 229 = .ok (.return_, 1) := by decide +kernel
theorem dX5_mix_0 : decode cX5_mix 0 = .ok (.iload_n 1, 1) := by decide +kernel
theorem dX5_mix_1 : decode cX5_mix 1 = .ok (.invokestatic 66, 3) := by decide +kernel
theorem dX5_mix_4 : decode cX5_mix 4 = .ok (.ifCond .eq 11, 3) := by decide +kernel
theorem dX5_mix_7 : decode cX5_mix 7 = .ok (.iload 6, 2) := by decide +kernel
theorem dX5_mix_9 : decode cX5_mix 9 = .ok (.invokestatic 66, 3) := by decide +kernel
theorem dX5_mix_12 : decode cX5_mix 12 = .ok (.ifCond .ne 6, 3) := by decide +kernel
theorem dX5_mix_15 : decode cX5_mix 15 = .ok (.bipush (-2), 2) := by decide +kernel
theorem dX5_mix_17 : decode cX5_mix 17 = .ok (.ireturn, 1) := by decide +kernel
theorem dX5_mix_18 : decode cX5_mix 18 = .ok (.aload_n 0, 1) := by decide +kernel
theorem dX5_mix_19 : decode cX5_mix 19 = .ok (.iload_n 1, 1) := by decide +kernel
theorem dX5_mix_20 : decode cX5_mix 20 = .ok (.invokevirtual 102, 3) := by decide +kernel
theorem dX5_mix_23 : decode cX5_mix 23 = .ok (.istore 7, 2) := by decide +kernel
theorem dX5_mix_25 : decode cX5_mix 25 = .ok (.iload 7, 2) := by decide +kernel
theorem dX5_mix_27 : decode cX5_mix 27 = .ok (.ifCond .eq 6, 3) := by decide +kernel
theorem dX5_mix_30 : decode cX5_mix 30 = .ok (.iload 7, 2) := by decide +kernel
theorem dX5_mix_32 : decode cX5_mix 32 = .ok (.ireturn, 1) := by decide +kernel
theorem dX5_mix_33 : decode cX5_mix 33 = .ok (.aload_n 0, 1) := by decide +kernel
theorem dX5_mix_34 : decode cX5_mix 34 = .ok (.iload_n 2, 1) := by decide +kernel
theorem dX5_mix_35 : decode cX5_mix 35 = .ok (.i2l, 1) := by decide +kernel
theorem dX5_mix_36 : decode cX5_mix 36 = .ok (.invokestatic 48, 3) := by decide +kernel
theorem dX5_mix_39 : decode cX5_mix 39 = .ok (.iload_n 3, 1) := by decide +kernel
theorem dX5_mix_40 : decode cX5_mix 40 = .ok (.i2l, 1) := by decide +kernel
theorem dX5_mix_41 : decode cX5_mix 41 = .ok (.invokestatic 48, 3) := by decide +kernel
theorem dX5_mix_44 : decode cX5_mix 44 = .ok (.iload 4, 2) := by decide +kernel
theorem dX5_mix_46 : decode cX5_mix 46 = .ok (.i2l, 1) := by decide +kernel
theorem dX5_mix_47 : decode cX5_mix 47 = .ok (.invokestatic 48, 3) := by decide +kernel
theorem dX5_mix_50 : decode cX5_mix 50 = .ok (.iload 5, 2) := by decide +kernel
theorem dX5_mix_52 : decode cX5_mix 52 = .ok (.i2l, 1) := by decide +kernel
theorem dX5_mix_53 : decode cX5_mix 53 = .ok (.invokestatic 48, 3) := by decide +kernel
theorem dX5_mix_56 : decode cX5_mix 56 = .ok (.invokevirtual 119, 3) := by decide +kernel
theorem dX5_mix_59 : decode cX5_mix 59 = .ok (.aload_n 0, 1) := by decide +kernel
theorem dX5_mix_60 : decode cX5_mix 60 = .ok (.iload 6, 2) := by decide +kernel
theorem dX5_mix_62 : decode cX5_mix 62 = .ok (.invokevirtual 116, 3) := by decide +kernel
theorem dX5_mix_65 : decode cX5_mix 65 = .ok (.istore 8, 2) := by decide +kernel
theorem dX5_mix_67 : decode cX5_mix 67 = .ok (.iload_n 2, 1) := by decide +kernel
theorem dX5_mix_68 : decode cX5_mix 68 = .ok (.i2l, 1) := by decide +kernel
theorem dX5_mix_69 : decode cX5_mix 69 = .ok (.invokestatic 48, 3) := by decide +kernel
theorem dX5_mix_72 : decode cX5_mix 72 = .ok (.iload 5, 2) := by decide +kernel
theorem dX5_mix_74 : decode cX5_mix 74 = .ok (.i2l, 1) := by decide +kernel
theorem dX5_mix_75 : decode cX5_mix 75 = .ok (.invokestatic 48, 3) := by decide +kernel
theorem dX5_mix_78 : decode cX5_mix 78 = .ok (.invokestatic 52, 3) := by decide +kernel
theorem dX5_mix_81 : decode cX5_mix 81 = .ok (.i2l, 1) := by decide +kernel
theorem dX5_mix_82 : decode cX5_mix 82 = .ok (.iload_n 3, 1) := by decide +kernel
theorem dX5_mix_83 : decode cX5_mix 83 = .ok (.i2l, 1) := by decide +kernel
theorem dX5_mix_84 : decode cX5_mix 84 = .ok (.invokestatic 48, 3) := by decide +kernel
theorem dX5_mix_87 : decode cX5_mix 87 = .ok (.iload 4, 2) := by decide +kernel
theorem dX5_mix_89 : decode cX5_mix 89 = .ok (.i2l, 1) := by decide +kernel
theorem dX5_mix_90 : decode cX5_mix 90 = .ok (.invokestatic 48, 3) := by decide +kernel
theorem dX5_mix_93 : decode cX5_mix 93 = .ok (.invokestatic 52, 3) := by decide +kernel
theorem dX5_mix_96 : decode cX5_mix 96 = .ok (.i2l, 1) := by decide +kernel
theorem dX5_mix_97 : decode cX5_mix 97 = .ok (.lsub, 1) := by decide +kernel
theorem dX5_mix_98 : decode cX5_mix 98 = .ok (.invokestatic 48, 3) := by decide +kernel
theorem dX5_mix_101 : decode cX5_mix 101 = .ok (.ireturn, 1) := by decide +kernel
theorem dX5_change_0 : decode cX5_change 0 = .ok (.iload_n 1, 1) := by decide +kernel
theorem dX5_change_1 : decode cX5_change 1 = .ok (.invokestatic 66, 3) := by decide +kernel
theorem dX5_change_4 : decode cX5_change 4 = .ok (.ifCond .eq 20, 3) := by decide +kernel
theorem dX5_change_7 : decode cX5_change 7 = .ok (.iload_n 2, 1) := by decide +kernel
theorem dX5_change_8 : decode cX5_change 8 = .ok (.i2l, 1) := by decide +kernel
theorem dX5_change_9 : decode cX5_change 9 = .ok (.lconst 0, 1) := by decide +kernel
theorem dX5_change_10 : decode cX5_change 10 = .ok (.lconst 1, 1) := by decide +kernel
theorem dX5_change_11 : decode cX5_change 11 = .ok (.invokestatic 62, 3) := by decide +kernel
theorem dX5_change_14 : decode cX5_change 14 = .ok (.ifCond .eq 10, 3) := by decide +kernel
theorem dX5_change_17 : decode cX5_change 17 = .ok (.iload_n 3, 1) := by decide +kernel
theorem dX5_change_18 : decode cX5_change 18 = .ok (.invokestatic 66, 3) := by decide +kernel
theorem dX5_change_21 : decode cX5_change 21 = .ok (.ifCond .ne 6, 3) := by decide +kernel
theorem dX5_change_24 : decode cX5_change 24 = .ok (.bipush (-2), 2) := by decide +kernel
theorem dX5_change_26 : decode cX5_change 26 = .ok (.ireturn, 1) := by decide +kernel
theorem dX5_change_27 : decode cX5_change 27 = .ok (.aload_n 0, 1) := by decide +kernel
theorem dX5_change_28 : decode cX5_change 28 = .ok (.iload_n 1, 1) := by decide +kernel
theorem dX5_change_29 : decode cX5_change 29 = .ok (.invokevirtual 102, 3) := by decide +kernel
theorem dX5_change_32 : decode cX5_change 32 = .ok (.istore 4, 2) := by decide +kernel
theorem dX5_change_34 : decode cX5_change 34 = .ok (.iload 4, 2) := by decide +kernel
theorem dX5_change_36 : decode cX5_change 36 = .ok (.ifCond .eq 6, 3) := by decide +kernel
theorem dX5_change_39 : decode cX5_change 39 = .ok (.iload 4, 2) := by decide +kernel
theorem dX5_change_41 : decode cX5_change 41 = .ok (.ireturn, 1) := by decide +kernel
theorem dX5_change_42 : decode cX5_change 42 = .ok (.aload_n 0, 1) := by decide +kernel
theorem dX5_change_43 : decode cX5_change 43 = .ok (.getfield 81, 3) := by decide +kernel
theorem dX5_change_46 : decode cX5_change 46 = .ok (.ifCond .ne 6, 3) := by decide +kernel
theorem dX5_change_49 : decode cX5_change 49 = .ok (.bipush (-3), 2) := by decide +kernel
theorem dX5_change_51 : decode cX5_change 51 = .ok (.ireturn, 1) := by decide +kernel
theorem dX5_change_52 : decode cX5_change 52 = .ok (.aload_n 0, 1) := by decide +kernel
theorem dX5_change_53 : decode cX5_change 53 = .ok (.aload_n 0, 1) := by decide +kernel
theorem dX5_change_54 : decode cX5_change 54 = .ok (.getfield 81, 3) := by decide +kernel
theorem dX5_change_57 : decode cX5_change 57 = .ok (.iconst 1, 1) := by decide +kernel
theorem dX5_change_58 : decode cX5_change 58 = .ok (.isub, 1) := by decide +kernel
theorem dX5_change_59 : decode cX5_change 59 = .ok (.invokevirtual 113, 3) := by decide +kernel
theorem dX5_change_62 : decode cX5_change 62 = .ok (.iconst 0, 1) := by decide +kernel
theorem dX5_change_63 : decode cX5_change 63 = .ok (.istore 5, 2) := by decide +kernel
theorem dX5_change_65 : decode cX5_change 65 = .ok (.iload 5, 2) := by decide +kernel
theorem dX5_change_67 : decode cX5_change 67 = .ok (.aload_n 0, 1) := by decide +kernel
theorem dX5_change_68 : decode cX5_change 68 = .ok (.getfield 81, 3) := by decide +kernel
theorem dX5_change_71 : decode cX5_change 71 = .ok (.if_icmp .ge 56, 3) := by decide +kernel
theorem dX5_change_74 : decode cX5_change 74 = .ok (.aload_n 0, 1) := by decide +kernel
theorem dX5_change_75 : decode cX5_change 75 = .ok (.getfield 28, 3) := by decide +kernel
theorem dX5_change_78 : decode cX5_change 78 = .ok (.iload 5, 2) := by decide +kernel
theorem dX5_change_80 : decode cX5_change 80 = .ok (.iload_n 2, 1) := by decide +kernel
theorem dX5_change_81 : decode cX5_change 81 = .ok (.ifCond .ne 23, 3) := by decide +kernel
theorem dX5_change_84 : decode cX5_change 84 = .ok (.aload_n 0, 1) := by decide +kernel
theorem dX5_change_85 : decode cX5_change 85 = .ok (.getfield 22, 3) := by decide +kernel
theorem dX5_change_88 : decode cX5_change 88 = .ok (.iload 5, 2) := by decide +kernel
theorem dX5_change_90 : decode cX5_change 90 = .ok (.iaload, 1) := by decide +kernel
theorem dX5_change_91 : decode cX5_change 91 = .ok (.aload_n 0, 1) := by decide +kernel
theorem dX5_change_92 : decode cX5_change 92 = .ok (.getfield 81, 3) := by decide +kernel
theorem dX5_change_95 : decode cX5_change 95 = .ok (.iload 5, 2) := by decide +kernel
theorem dX5_change_97 : decode cX5_change 97 = .ok (.isub, 1) := by decide +kernel
theorem dX5_change_98 : decode cX5_change 98 = .ok (.invokestatic 52, 3) := by decide +kernel
theorem dX5_change_101 : decode cX5_change 101 = .ok (.goto 19, 3) := by decide +kernel
theorem dX5_change_104 : decode cX5_change 104 = .ok (.aload_n 0, 1) := by decide +kernel
theorem dX5_change_105 : decode cX5_change 105 = .ok (.getfield 22, 3) := by decide +kernel
theorem dX5_change_108 : decode cX5_change 108 = .ok (.iload 5, 2) := by decide +kernel
theorem dX5_change_110 : decode cX5_change 110 = .ok (.iconst 1, 1) := by decide +kernel
theorem dX5_change_111 : decode cX5_change 111 = .ok (.iadd, 1) := by decide +kernel
theorem dX5_change_112 : decode cX5_change 112 = .ok (.iaload, 1) := by decide +kernel
theorem dX5_change_113 : decode cX5_change 113 = .ok (.iload 5, 2) := by decide +kernel
theorem dX5_change_115 : decode cX5_change 115 = .ok (.iconst 1, 1) := by decide +kernel
theorem dX5_change_116 : decode cX5_change 116 = .ok (.iadd, 1) := by decide +kernel
theorem dX5_change_117 : decode cX5_change 117 = .ok (.invokestatic 52, 3) := by decide +kernel
theorem dX5_change_120 : decode cX5_change 120 = .ok (.iastore, 1) := by decide +kernel
theorem dX5_change_121 : decode cX5_change 121 = .ok (.iinc 5 1, 3) := by decide +kernel
end
section
theorem dX5_change_124 : decode cX5_change 124 = .ok (.goto (-59), 3) := by decide +kernel
theorem dX5_change_127 : decode cX5_change 127 = .ok (.aload_n 0, 1) := by decide +kernel
theorem dX5_change_128 : decode cX5_change 128 = .ok (.iload_n 3, 1) := by decide +kernel
theorem dX5_change_129 : decode cX5_change 129 = .ok (.invokevirtual 116, 3) := by decide +kernel
theorem dX5_change_132 : decode cX5_change 132 = .ok (.ireturn, 1) := by decide +kernel
theorem dX5_changed_0 : decode cX5_changed 0 = .ok (.iconst 1, 1) := by decide +kernel
theorem dX5_changed_1 : decode cX5_changed 1 = .ok (.istore 4, 2) := by decide +kernel
theorem dX5_changed_3 : decode cX5_changed 3 = .ok (.iconst 0, 1) := by decide +kernel
theorem dX5_changed_4 : decode cX5_changed 4 = .ok (.istore 5, 2) := by decide +kernel
theorem dX5_changed_6 : decode cX5_changed 6 = .ok (.iload 5, 2) := by decide +kernel
theorem dX5_changed_8 : decode cX5_changed 8 = .ok (.iload_n 2, 1) := by decide +kernel
theorem dX5_changed_9 : decode cX5_changed 9 = .ok (.if_icmp .ge 35, 3) := by decide +kernel
theorem dX5_changed_12 : decode cX5_changed 12 = .ok (.iload 4, 2) := by decide +kernel
theorem dX5_changed_14 : decode cX5_changed 14 = .ok (.iload_n 0, 1) := by decide +kernel
theorem dX5_changed_15 : decode cX5_changed 15 = .ok (.iload_n 1, 1) := by decide +kernel
theorem dX5_changed_16 : decode cX5_changed 16 = .ok (.isub, 1) := by decide +kernel
theorem dX5_changed_17 : decode cX5_changed 17 = .ok (.iload 5, 2) := by decide +kernel
theorem dX5_changed_19 : decode cX5_changed 19 = .ok (.isub, 1) := by decide +kernel
theorem dX5_changed_20 : decode cX5_changed 20 = .ok (.ifCond .le 12, 3) := by decide +kernel
theorem dX5_changed_23 : decode cX5_changed 23 = .ok (.iload_n 0, 1) := by decide +kernel
theorem dX5_changed_24 : decode cX5_changed 24 = .ok (.iload_n 1, 1) := by decide +kernel
theorem dX5_changed_25 : decode cX5_changed 25 = .ok (.isub, 1) := by decide +kernel
theorem dX5_changed_26 : decode cX5_changed 26 = .ok (.iload 5, 2) := by decide +kernel
theorem dX5_changed_28 : decode cX5_changed 28 = .ok (.isub, 1) := by decide +kernel
theorem dX5_changed_29 : decode cX5_changed 29 = .ok (.goto 4, 3) := by decide +kernel
theorem dX5_changed_32 : decode cX5_changed 32 = .ok (.iconst 0, 1) := by decide +kernel
theorem dX5_changed_33 : decode cX5_changed 33 = .ok (.invokestatic 52, 3) := by decide +kernel
theorem dX5_changed_36 : decode cX5_changed 36 = .ok (.istore 4, 2) := by decide +kernel
theorem dX5_changed_38 : decode cX5_changed 38 = .ok (.iinc 5 1, 3) := by decide +kernel
theorem dX5_changed_41 : decode cX5_changed 41 = .ok (.goto (-35), 3) := by decide +kernel
theorem dX5_changed_44 : decode cX5_changed 44 = .ok (.iconst 0, 1) := by decide +kernel
theorem dX5_changed_45 : decode cX5_changed 45 = .ok (.istore 5, 2) := by decide +kernel
theorem dX5_changed_47 : decode cX5_changed 47 = .ok (.iload 5, 2) := by decide +kernel
theorem dX5_changed_49 : decode cX5_changed 49 = .ok (.iload_n 3, 1) := by decide +kernel
theorem dX5_changed_50 : decode cX5_changed 50 = .ok (.if_icmp .ge 31, 3) := by decide +kernel
theorem dX5_changed_53 : decode cX5_changed 53 = .ok (.iload 4, 2) := by decide +kernel
theorem dX5_changed_55 : decode cX5_changed 55 = .ok (.iload_n 1, 1) := by decide +kernel
theorem dX5_changed_56 : decode cX5_changed 56 = .ok (.iload 5, 2) := by decide +kernel
theorem dX5_changed_58 : decode cX5_changed 58 = .ok (.isub, 1) := by decide +kernel
theorem dX5_changed_59 : decode cX5_changed 59 = .ok (.ifCond .le 10, 3) := by decide +kernel
theorem dX5_changed_62 : decode cX5_changed 62 = .ok (.iload_n 1, 1) := by decide +kernel
theorem dX5_changed_63 : decode cX5_changed 63 = .ok (.iload 5, 2) := by decide +kernel
theorem dX5_changed_65 : decode cX5_changed 65 = .ok (.isub, 1) := by decide +kernel
theorem dX5_changed_66 : decode cX5_changed 66 = .ok (.goto 4, 3) := by decide +kernel
theorem dX5_changed_69 : decode cX5_changed 69 = .ok (.iconst 0, 1) := by decide +kernel
theorem dX5_changed_70 : decode cX5_changed 70 = .ok (.invokestatic 52, 3) := by decide +kernel
theorem dX5_changed_73 : decode cX5_changed 73 = .ok (.istore 4, 2) := by decide +kernel
theorem dX5_changed_75 : decode cX5_changed 75 = .ok (.iinc 5 1, 3) := by decide +kernel
theorem dX5_changed_78 : decode cX5_changed 78 = .ok (.goto (-31), 3) := by decide +kernel
theorem dX5_changed_81 : decode cX5_changed 81 = .ok (.iload 4, 2) := by decide +kernel
theorem dX5_changed_83 : decode cX5_changed 83 = .ok (.ireturn, 1) := by decide +kernel
theorem dX5_overlap_0 : decode cX5_overlap 0 = .ok (.iload_n 1, 1) := by decide +kernel
theorem dX5_overlap_1 : decode cX5_overlap 1 = .ok (.invokestatic 66, 3) := by decide +kernel
theorem dX5_overlap_4 : decode cX5_overlap 4 = .ok (.ifCond .eq 30, 3) := by decide +kernel
theorem dX5_overlap_7 : decode cX5_overlap 7 = .ok (.iload_n 2, 1) := by decide +kernel
theorem dX5_overlap_8 : decode cX5_overlap 8 = .ok (.invokestatic 66, 3) := by decide +kernel
theorem dX5_overlap_11 : decode cX5_overlap 11 = .ok (.ifCond .eq 23, 3) := by decide +kernel
theorem dX5_overlap_14 : decode cX5_overlap 14 = .ok (.iload_n 3, 1) := by decide +kernel
theorem dX5_overlap_15 : decode cX5_overlap 15 = .ok (.i2l, 1) := by decide +kernel
theorem dX5_overlap_16 : decode cX5_overlap 16 = .ok (.lconst 0, 1) := by decide +kernel
theorem dX5_overlap_17 : decode cX5_overlap 17 = .ok (.ldc2_w 100, 3) := by decide +kernel
theorem dX5_overlap_20 : decode cX5_overlap 20 = .ok (.invokestatic 62, 3) := by decide +kernel
theorem dX5_overlap_23 : decode cX5_overlap 23 = .ok (.ifCond .eq 11, 3) := by decide +kernel
theorem dX5_overlap_26 : decode cX5_overlap 26 = .ok (.iload 4, 2) := by decide +kernel
theorem dX5_overlap_28 : decode cX5_overlap 28 = .ok (.invokestatic 66, 3) := by decide +kernel
theorem dX5_overlap_31 : decode cX5_overlap 31 = .ok (.ifCond .ne 6, 3) := by decide +kernel
theorem dX5_overlap_34 : decode cX5_overlap 34 = .ok (.bipush (-2), 2) := by decide +kernel
theorem dX5_overlap_36 : decode cX5_overlap 36 = .ok (.ireturn, 1) := by decide +kernel
theorem dX5_overlap_37 : decode cX5_overlap 37 = .ok (.aload_n 0, 1) := by decide +kernel
theorem dX5_overlap_38 : decode cX5_overlap 38 = .ok (.iload_n 1, 1) := by decide +kernel
theorem dX5_overlap_39 : decode cX5_overlap 39 = .ok (.iload_n 2, 1) := by decide +kernel
theorem dX5_overlap_40 : decode cX5_overlap 40 = .ok (.invokevirtual 110, 3) := by decide +kernel
theorem dX5_overlap_43 : decode cX5_overlap 43 = .ok (.istore 5, 2) := by decide +kernel
theorem dX5_overlap_45 : decode cX5_overlap 45 = .ok (.iload 5, 2) := by decide +kernel
theorem dX5_overlap_47 : decode cX5_overlap 47 = .ok (.ifCond .eq 6, 3) := by decide +kernel
theorem dX5_overlap_50 : decode cX5_overlap 50 = .ok (.iload 5, 2) := by decide +kernel
theorem dX5_overlap_52 : decode cX5_overlap 52 = .ok (.ireturn, 1) := by decide +kernel
theorem dX5_overlap_53 : decode cX5_overlap 53 = .ok (.iload_n 3, 1) := by decide +kernel
theorem dX5_overlap_54 : decode cX5_overlap 54 = .ok (.aload_n 0, 1) := by decide +kernel
theorem dX5_overlap_55 : decode cX5_overlap 55 = .ok (.getfield 81, 3) := by decide +kernel
theorem dX5_overlap_58 : decode cX5_overlap 58 = .ok (.if_icmp .gt 29, 3) := by decide +kernel
theorem dX5_overlap_61 : decode cX5_overlap 61 = .ok (.iload_n 3, 1) := by decide +kernel
theorem dX5_overlap_62 : decode cX5_overlap 62 = .ok (.aload_n 0, 1) := by decide +kernel
theorem dX5_overlap_63 : decode cX5_overlap 63 = .ok (.getfield 84, 3) := by decide +kernel
theorem dX5_overlap_66 : decode cX5_overlap 66 = .ok (.if_icmp .gt 21, 3) := by decide +kernel
theorem dX5_overlap_69 : decode cX5_overlap 69 = .ok (.aload_n 0, 1) := by decide +kernel
theorem dX5_overlap_70 : decode cX5_overlap 70 = .ok (.getfield 81, 3) := by decide +kernel
theorem dX5_overlap_73 : decode cX5_overlap 73 = .ok (.aload_n 0, 1) := by decide +kernel
theorem dX5_overlap_74 : decode cX5_overlap 74 = .ok (.getfield 84, 3) := by decide +kernel
theorem dX5_overlap_77 : decode cX5_overlap 77 = .ok (.iadd, 1) := by decide +kernel
theorem dX5_overlap_78 : decode cX5_overlap 78 = .ok (.iconst 2, 1) := by decide +kernel
theorem dX5_overlap_79 : decode cX5_overlap 79 = .ok (.iload_n 3, 1) := by decide +kernel
theorem dX5_overlap_80 : decode cX5_overlap 80 = .ok (.imul, 1) := by decide +kernel
theorem dX5_overlap_81 : decode cX5_overlap 81 = .ok (.isub, 1) := by decide +kernel
theorem dX5_overlap_82 : decode cX5_overlap 82 = .ok (.bipush 8, 2) := by decide +kernel
theorem dX5_overlap_84 : decode cX5_overlap 84 = .ok (.if_icmp .le 6, 3) := by decide +kernel
theorem dX5_overlap_87 : decode cX5_overlap 87 = .ok (.bipush (-3), 2) := by decide +kernel
theorem dX5_overlap_89 : decode cX5_overlap 89 = .ok (.ireturn, 1) := by decide +kernel
theorem dX5_overlap_90 : decode cX5_overlap 90 = .ok (.aload_n 0, 1) := by decide +kernel
theorem dX5_overlap_91 : decode cX5_overlap 91 = .ok (.aload_n 0, 1) := by decide +kernel
theorem dX5_overlap_92 : decode cX5_overlap 92 = .ok (.getfield 81, 3) := by decide +kernel
theorem dX5_overlap_95 : decode cX5_overlap 95 = .ok (.aload_n 0, 1) := by decide +kernel
theorem dX5_overlap_96 : decode cX5_overlap 96 = .ok (.getfield 84, 3) := by decide +kernel
theorem dX5_overlap_99 : decode cX5_overlap 99 = .ok (.iadd, 1) := by decide +kernel
theorem dX5_overlap_100 : decode cX5_overlap 100 = .ok (.iconst 2, 1) := by decide +kernel
theorem dX5_overlap_101 : decode cX5_overlap 101 = .ok (.iload_n 3, 1) := by decide +kernel
theorem dX5_overlap_102 : decode cX5_overlap 102 = .ok (.imul, 1) := by decide +kernel
theorem dX5_overlap_103 : decode cX5_overlap 103 = .ok (.isub, 1) := by decide +kernel
theorem dX5_overlap_104 : decode cX5_overlap 104 = .ok (.invokevirtual 113, 3) := by decide +kernel
theorem dX5_overlap_107 : decode cX5_overlap 107 = .ok (.iconst 0, 1) := by decide +kernel
theorem dX5_overlap_108 : decode cX5_overlap 108 = .ok (.istore 6, 2) := by decide +kernel
theorem dX5_overlap_110 : decode cX5_overlap 110 = .ok (.iload 6, 2) := by decide +kernel
theorem dX5_overlap_112 : decode cX5_overlap 112 = .ok (.iload_n 3, 1) := by decide +kernel
theorem dX5_overlap_113 : decode cX5_overlap 113 = .ok (.if_icmp .gt 182, 3) := by decide +kernel
theorem dX5_overlap_116 : decode cX5_overlap 116 = .ok (.iload 6, 2) := by decide +kernel
theorem dX5_overlap_118 : decode cX5_overlap 118 = .ok (.iconst 2, 1) := by decide +kernel
theorem dX5_overlap_119 : decode cX5_overlap 119 = .ok (.irem, 1) := by decide +kernel
theorem dX5_overlap_120 : decode cX5_overlap 120 = .ok (.ifCond .ne 12, 3) := by decide +kernel
theorem dX5_overlap_123 : decode cX5_overlap 123 = .ok (.iload_n 3, 1) := by decide +kernel
theorem dX5_overlap_124 : decode cX5_overlap 124 = .ok (.iload 6, 2) := by decide +kernel
theorem dX5_overlap_126 : decode cX5_overlap 126 = .ok (.invokestatic 123, 3) := by decide +kernel
theorem dX5_overlap_129 : decode cX5_overlap 129 = .ok (.goto 13, 3) := by decide +kernel
theorem dX5_overlap_132 : decode cX5_overlap 132 = .ok (.sipush 10007, 3) := by decide +kernel
theorem dX5_overlap_135 : decode cX5_overlap 135 = .ok (.iload_n 3, 1) := by decide +kernel
theorem dX5_overlap_136 : decode cX5_overlap 136 = .ok (.iload 6, 2) := by decide +kernel
theorem dX5_overlap_138 : decode cX5_overlap 138 = .ok (.invokestatic 123, 3) := by decide +kernel
theorem dX5_overlap_141 : decode cX5_overlap 141 = .ok (.isub, 1) := by decide +kernel
theorem dX5_overlap_142 : decode cX5_overlap 142 = .ok (.istore 7, 2) := by decide +kernel
theorem dX5_overlap_144 : decode cX5_overlap 144 = .ok (.iload 6, 2) := by decide +kernel
theorem dX5_overlap_146 : decode cX5_overlap 146 = .ok (.istore 8, 2) := by decide +kernel
theorem dX5_overlap_148 : decode cX5_overlap 148 = .ok (.iload 8, 2) := by decide +kernel
theorem dX5_overlap_150 : decode cX5_overlap 150 = .ok (.aload_n 0, 1) := by decide +kernel
theorem dX5_overlap_151 : decode cX5_overlap 151 = .ok (.getfield 81, 3) := by decide +kernel
theorem dX5_overlap_154 : decode cX5_overlap 154 = .ok (.if_icmp .gt 135, 3) := by decide +kernel
theorem dX5_overlap_157 : decode cX5_overlap 157 = .ok (.iload_n 3, 1) := by decide +kernel
theorem dX5_overlap_158 : decode cX5_overlap 158 = .ok (.iload 6, 2) := by decide +kernel
theorem dX5_overlap_160 : decode cX5_overlap 160 = .ok (.isub, 1) := by decide +kernel
theorem dX5_overlap_161 : decode cX5_overlap 161 = .ok (.istore 9, 2) := by decide +kernel
theorem dX5_overlap_163 : decode cX5_overlap 163 = .ok (.iload 9, 2) := by decide +kernel
theorem dX5_overlap_165 : decode cX5_overlap 165 = .ok (.aload_n 0, 1) := by decide +kernel
theorem dX5_overlap_166 : decode cX5_overlap 166 = .ok (.getfield 84, 3) := by decide +kernel
theorem dX5_overlap_169 : decode cX5_overlap 169 = .ok (.if_icmp .gt 114, 3) := by decide +kernel
theorem dX5_overlap_172 : decode cX5_overlap 172 = .ok (.aload_n 0, 1) := by decide +kernel
theorem dX5_overlap_173 : decode cX5_overlap 173 = .ok (.getfield 22, 3) := by decide +kernel
theorem dX5_overlap_176 : decode cX5_overlap 176 = .ok (.iload 8, 2) := by decide +kernel
theorem dX5_overlap_178 : decode cX5_overlap 178 = .ok (.iaload, 1) := by decide +kernel
theorem dX5_overlap_179 : decode cX5_overlap 179 = .ok (.aload_n 0, 1) := by decide +kernel
theorem dX5_overlap_180 : decode cX5_overlap 180 = .ok (.getfield 81, 3) := by decide +kernel
theorem dX5_overlap_183 : decode cX5_overlap 183 = .ok (.iload 8, 2) := by decide +kernel
theorem dX5_overlap_185 : decode cX5_overlap 185 = .ok (.iload_n 3, 1) := by decide +kernel
theorem dX5_overlap_186 : decode cX5_overlap 186 = .ok (.iload 6, 2) := by decide +kernel
theorem dX5_overlap_188 : decode cX5_overlap 188 = .ok (.isub, 1) := by decide +kernel
theorem dX5_overlap_189 : decode cX5_overlap 189 = .ok (.iload 6, 2) := by decide +kernel
theorem dX5_overlap_191 : decode cX5_overlap 191 = .ok (.invokestatic 126, 3) := by decide +kernel
theorem dX5_overlap_194 : decode cX5_overlap 194 = .ok (.invokestatic 52, 3) := by decide +kernel
theorem dX5_overlap_197 : decode cX5_overlap 197 = .ok (.istore 10, 2) := by decide +kernel
theorem dX5_overlap_199 : decode cX5_overlap 199 = .ok (.aload_n 0, 1) := by decide +kernel
theorem dX5_overlap_200 : decode cX5_overlap 200 = .ok (.getfield 25, 3) := by decide +kernel
theorem dX5_overlap_203 : decode cX5_overlap 203 = .ok (.iload 9, 2) := by decide +kernel
theorem dX5_overlap_205 : decode cX5_overlap 205 = .ok (.iaload, 1) := by decide +kernel
theorem dX5_overlap_206 : decode cX5_overlap 206 = .ok (.aload_n 0, 1) := by decide +kernel
theorem dX5_overlap_207 : decode cX5_overlap 207 = .ok (.getfield 84, 3) := by decide +kernel
theorem dX5_overlap_210 : decode cX5_overlap 210 = .ok (.iload 9, 2) := by decide +kernel
theorem dX5_overlap_212 : decode cX5_overlap 212 = .ok (.iload 6, 2) := by decide +kernel
theorem dX5_overlap_214 : decode cX5_overlap 214 = .ok (.iload_n 3, 1) := by decide +kernel
theorem dX5_overlap_215 : decode cX5_overlap 215 = .ok (.iload 6, 2) := by decide +kernel
theorem dX5_overlap_217 : decode cX5_overlap 217 = .ok (.isub, 1) := by decide +kernel
theorem dX5_overlap_218 : decode cX5_overlap 218 = .ok (.invokestatic 126, 3) := by decide +kernel
theorem dX5_overlap_221 : decode cX5_overlap 221 = .ok (.invokestatic 52, 3) := by decide +kernel
theorem dX5_overlap_224 : decode cX5_overlap 224 = .ok (.istore 11, 2) := by decide +kernel
theorem dX5_overlap_226 : decode cX5_overlap 226 = .ok (.iload 10, 2) := by decide +kernel
theorem dX5_overlap_228 : decode cX5_overlap 228 = .ok (.ifCond .eq 49, 3) := by decide +kernel
theorem dX5_overlap_231 : decode cX5_overlap 231 = .ok (.iload 11, 2) := by decide +kernel
theorem dX5_overlap_233 : decode cX5_overlap 233 = .ok (.ifCond .eq 44, 3) := by decide +kernel
theorem dX5_overlap_236 : decode cX5_overlap 236 = .ok (.aload_n 0, 1) := by decide +kernel
theorem dX5_overlap_237 : decode cX5_overlap 237 = .ok (.getfield 28, 3) := by decide +kernel
theorem dX5_overlap_240 : decode cX5_overlap 240 = .ok (.iload 8, 2) := by decide +kernel
theorem dX5_overlap_242 : decode cX5_overlap 242 = .ok (.iload 9, 2) := by decide +kernel
theorem dX5_overlap_244 : decode cX5_overlap 244 = .ok (.iadd, 1) := by decide +kernel
theorem dX5_overlap_245 : decode cX5_overlap 245 = .ok (.iload_n 3, 1) := by decide +kernel
theorem dX5_overlap_246 : decode cX5_overlap 246 = .ok (.isub, 1) := by decide +kernel
theorem dX5_overlap_247 : decode cX5_overlap 247 = .ok (.aload_n 0, 1) := by decide +kernel
theorem dX5_overlap_248 : decode cX5_overlap 248 = .ok (.getfield 28, 3) := by decide +kernel
theorem dX5_overlap_251 : decode cX5_overlap 251 = .ok (.iload 8, 2) := by decide +kernel
theorem dX5_overlap_253 : decode cX5_overlap 253 = .ok (.iload 9, 2) := by decide +kernel
theorem dX5_overlap_255 : decode cX5_overlap 255 = .ok (.iadd, 1) := by decide +kernel
theorem dX5_overlap_256 : decode cX5_overlap 256 = .ok (.iload_n 3, 1) := by decide +kernel
theorem dX5_overlap_257 : decode cX5_overlap 257 = .ok (.isub, 1) := by decide +kernel
theorem dX5_overlap_258 : decode cX5_overlap 258 = .ok (.iaload, 1) := by decide +kernel
theorem dX5_overlap_259 : decode cX5_overlap 259 = .ok (.i2l, 1) := by decide +kernel
theorem dX5_overlap_260 : decode cX5_overlap 260 = .ok (.iload 10, 2) := by decide +kernel
theorem dX5_overlap_262 : decode cX5_overlap 262 = .ok (.iload 11, 2) := by decide +kernel
theorem dX5_overlap_264 : decode cX5_overlap 264 = .ok (.invokestatic 52, 3) := by decide +kernel
theorem dX5_overlap_267 : decode cX5_overlap 267 = .ok (.i2l, 1) := by decide +kernel
theorem dX5_overlap_268 : decode cX5_overlap 268 = .ok (.iload 7, 2) := by decide +kernel
theorem dX5_overlap_270 : decode cX5_overlap 270 = .ok (.i2l, 1) := by decide +kernel
theorem dX5_overlap_271 : decode cX5_overlap 271 = .ok (.lmul, 1) := by decide +kernel
theorem dX5_overlap_272 : decode cX5_overlap 272 = .ok (.ladd, 1) := by decide +kernel
theorem dX5_overlap_273 : decode cX5_overlap 273 = .ok (.invokestatic 48, 3) := by decide +kernel
theorem dX5_overlap_276 : decode cX5_overlap 276 = .ok (.iastore, 1) := by decide +kernel
theorem dX5_overlap_277 : decode cX5_overlap 277 = .ok (.iinc 9 1, 3) := by decide +kernel
theorem dX5_overlap_280 : decode cX5_overlap 280 = .ok (.goto (-117), 3) := by decide +kernel
theorem dX5_overlap_283 : decode cX5_overlap 283 = .ok (.iinc 8 1, 3) := by decide +kernel
theorem dX5_overlap_286 : decode cX5_overlap 286 = .ok (.goto (-138), 3) := by decide +kernel
theorem dX5_overlap_289 : decode cX5_overlap 289 = .ok (.iinc 6 1, 3) := by decide +kernel
theorem dX5_overlap_292 : decode cX5_overlap 292 = .ok (.goto (-182), 3) := by decide +kernel
theorem dX5_overlap_295 : decode cX5_overlap 295 = .ok (.aload_n 0, 1) := by decide +kernel
theorem dX5_overlap_296 : decode cX5_overlap 296 = .ok (.getfield 81, 3) := by decide +kernel
theorem dX5_overlap_299 : decode cX5_overlap 299 = .ok (.iload_n 3, 1) := by decide +kernel
theorem dX5_overlap_300 : decode cX5_overlap 300 = .ok (.isub, 1) := by decide +kernel
theorem dX5_overlap_301 : decode cX5_overlap 301 = .ok (.invokestatic 130, 3) := by decide +kernel
theorem dX5_overlap_304 : decode cX5_overlap 304 = .ok (.aload_n 0, 1) := by decide +kernel
theorem dX5_overlap_305 : decode cX5_overlap 305 = .ok (.getfield 84, 3) := by decide +kernel
theorem dX5_overlap_308 : decode cX5_overlap 308 = .ok (.iload_n 3, 1) := by decide +kernel
theorem dX5_overlap_309 : decode cX5_overlap 309 = .ok (.isub, 1) := by decide +kernel
theorem dX5_overlap_310 : decode cX5_overlap 310 = .ok (.invokestatic 130, 3) := by decide +kernel
theorem dX5_overlap_313 : decode cX5_overlap 313 = .ok (.invokestatic 52, 3) := by decide +kernel
theorem dX5_overlap_316 : decode cX5_overlap 316 = .ok (.aload_n 0, 1) := by decide +kernel
theorem dX5_overlap_317 : decode cX5_overlap 317 = .ok (.getfield 81, 3) := by decide +kernel
theorem dX5_overlap_320 : decode cX5_overlap 320 = .ok (.invokestatic 130, 3) := by decide +kernel
theorem dX5_overlap_323 : decode cX5_overlap 323 = .ok (.aload_n 0, 1) := by decide +kernel
theorem dX5_overlap_324 : decode cX5_overlap 324 = .ok (.getfield 84, 3) := by decide +kernel
theorem dX5_overlap_327 : decode cX5_overlap 327 = .ok (.invokestatic 130, 3) := by decide +kernel
theorem dX5_overlap_330 : decode cX5_overlap 330 = .ok (.invokestatic 52, 3) := by decide +kernel
theorem dX5_overlap_333 : decode cX5_overlap 333 = .ok (.invokestatic 133, 3) := by decide +kernel
theorem dX5_overlap_336 : decode cX5_overlap 336 = .ok (.invokestatic 52, 3) := by decide +kernel
theorem dX5_overlap_339 : decode cX5_overlap 339 = .ok (.istore 6, 2) := by decide +kernel
theorem dX5_overlap_341 : decode cX5_overlap 341 = .ok (.iconst 0, 1) := by decide +kernel
theorem dX5_overlap_342 : decode cX5_overlap 342 = .ok (.istore 7, 2) := by decide +kernel
theorem dX5_overlap_344 : decode cX5_overlap 344 = .ok (.iload 7, 2) := by decide +kernel
theorem dX5_overlap_346 : decode cX5_overlap 346 = .ok (.aload_n 0, 1) := by decide +kernel
theorem dX5_overlap_347 : decode cX5_overlap 347 = .ok (.getfield 87, 3) := by decide +kernel
theorem dX5_overlap_350 : decode cX5_overlap 350 = .ok (.if_icmp .gt 28, 3) := by decide +kernel
theorem dX5_overlap_353 : decode cX5_overlap 353 = .ok (.aload_n 0, 1) := by decide +kernel
theorem dX5_overlap_354 : decode cX5_overlap 354 = .ok (.getfield 28, 3) := by decide +kernel
theorem dX5_overlap_357 : decode cX5_overlap 357 = .ok (.iload 7, 2) := by decide +kernel
theorem dX5_overlap_359 : decode cX5_overlap 359 = .ok (.aload_n 0, 1) := by decide +kernel
theorem dX5_overlap_360 : decode cX5_overlap 360 = .ok (.getfield 28, 3) := by decide +kernel
theorem dX5_overlap_363 : decode cX5_overlap 363 = .ok (.iload 7, 2) := by decide +kernel
theorem dX5_overlap_365 : decode cX5_overlap 365 = .ok (.iaload, 1) := by decide +kernel
theorem dX5_overlap_366 : decode cX5_overlap 366 = .ok (.iload 6, 2) := by decide +kernel
theorem dX5_overlap_368 : decode cX5_overlap 368 = .ok (.invokestatic 52, 3) := by decide +kernel
theorem dX5_overlap_371 : decode cX5_overlap 371 = .ok (.iastore, 1) := by decide +kernel
theorem dX5_overlap_372 : decode cX5_overlap 372 = .ok (.iinc 7 1, 3) := by decide +kernel
theorem dX5_overlap_375 : decode cX5_overlap 375 = .ok (.goto (-31), 3) := by decide +kernel
theorem dX5_overlap_378 : decode cX5_overlap 378 = .ok (.aload_n 0, 1) := by decide +kernel
theorem dX5_overlap_379 : decode cX5_overlap 379 = .ok (.iload 4, 2) := by decide +kernel
theorem dX5_overlap_381 : decode cX5_overlap 381 = .ok (.invokevirtual 116, 3) := by decide +kernel
theorem dX5_overlap_384 : decode cX5_overlap 384 = .ok (.ireturn, 1) := by decide +kernel
theorem dX5_alike_0 : decode cX5_alike 0 = .ok (.iload_n 1, 1) := by decide +kernel
theorem dX5_alike_1 : decode cX5_alike 1 = .ok (.invokestatic 66, 3) := by decide +kernel
theorem dX5_alike_4 : decode cX5_alike 4 = .ok (.ifCond .eq 10, 3) := by decide +kernel
theorem dX5_alike_7 : decode cX5_alike 7 = .ok (.iload_n 2, 1) := by decide +kernel
theorem dX5_alike_8 : decode cX5_alike 8 = .ok (.invokestatic 66, 3) := by decide +kernel
theorem dX5_alike_11 : decode cX5_alike 11 = .ok (.ifCond .ne 6, 3) := by decide +kernel
theorem dX5_alike_14 : decode cX5_alike 14 = .ok (.bipush (-2), 2) := by decide +kernel
theorem dX5_alike_16 : decode cX5_alike 16 = .ok (.ireturn, 1) := by decide +kernel
theorem dX5_alike_17 : decode cX5_alike 17 = .ok (.aload_n 0, 1) := by decide +kernel
theorem dX5_alike_18 : decode cX5_alike 18 = .ok (.iload_n 1, 1) := by decide +kernel
theorem dX5_alike_19 : decode cX5_alike 19 = .ok (.iload_n 2, 1) := by decide +kernel
theorem dX5_alike_20 : decode cX5_alike 20 = .ok (.invokevirtual 110, 3) := by decide +kernel
theorem dX5_alike_23 : decode cX5_alike 23 = .ok (.istore_n 3, 1) := by decide +kernel
theorem dX5_alike_24 : decode cX5_alike 24 = .ok (.iload_n 3, 1) := by decide +kernel
theorem dX5_alike_25 : decode cX5_alike 25 = .ok (.ifCond .eq 5, 3) := by decide +kernel
theorem dX5_alike_28 : decode cX5_alike 28 = .ok (.iload_n 3, 1) := by decide +kernel
theorem dX5_alike_29 : decode cX5_alike 29 = .ok (.ireturn, 1) := by decide +kernel
theorem dX5_alike_30 : decode cX5_alike 30 = .ok (.aload_n 0, 1) := by decide +kernel
theorem dX5_alike_31 : decode cX5_alike 31 = .ok (.getfield 81, 3) := by decide +kernel
theorem dX5_alike_34 : decode cX5_alike 34 = .ok (.aload_n 0, 1) := by decide +kernel
theorem dX5_alike_35 : decode cX5_alike 35 = .ok (.getfield 84, 3) := by decide +kernel
theorem dX5_alike_38 : decode cX5_alike 38 = .ok (.if_icmp .eq 5, 3) := by decide +kernel
theorem dX5_alike_41 : decode cX5_alike 41 = .ok (.iconst 0, 1) := by decide +kernel
theorem dX5_alike_42 : decode cX5_alike 42 = .ok (.ireturn, 1) := by decide +kernel
theorem dX5_alike_43 : decode cX5_alike 43 = .ok (.aload_n 0, 1) := by decide +kernel
theorem dX5_alike_44 : decode cX5_alike 44 = .ok (.invokevirtual 136, 3) := by decide +kernel
theorem dX5_alike_47 : decode cX5_alike 47 = .ok (.ifCond .ne 10, 3) := by decide +kernel
theorem dX5_alike_50 : decode cX5_alike 50 = .ok (.aload_n 0, 1) := by decide +kernel
theorem dX5_alike_51 : decode cX5_alike 51 = .ok (.invokevirtual 140, 3) := by decide +kernel
theorem dX5_alike_54 : decode cX5_alike 54 = .ok (.ifCond .eq 23, 3) := by decide +kernel
theorem dX5_alike_57 : decode cX5_alike 57 = .ok (.aload_n 0, 1) := by decide +kernel
theorem dX5_alike_58 : decode cX5_alike 58 = .ok (.invokevirtual 136, 3) := by decide +kernel
theorem dX5_alike_61 : decode cX5_alike 61 = .ok (.ifCond .eq 14, 3) := by decide +kernel
theorem dX5_alike_64 : decode cX5_alike 64 = .ok (.aload_n 0, 1) := by decide +kernel
theorem dX5_alike_65 : decode cX5_alike 65 = .ok (.invokevirtual 140, 3) := by decide +kernel
theorem dX5_alike_68 : decode cX5_alike 68 = .ok (.ifCond .eq 7, 3) := by decide +kernel
theorem dX5_alike_71 : decode cX5_alike 71 = .ok (.iconst 1, 1) := by decide +kernel
theorem dX5_alike_72 : decode cX5_alike 72 = .ok (.goto 4, 3) := by decide +kernel
theorem dX5_alike_75 : decode cX5_alike 75 = .ok (.iconst 0, 1) := by decide +kernel
theorem dX5_alike_76 : decode cX5_alike 76 = .ok (.ireturn, 1) := by decide +kernel
theorem dX5_alike_77 : decode cX5_alike 77 = .ok (.iconst 0, 1) := by decide +kernel
theorem dX5_alike_78 : decode cX5_alike 78 = .ok (.istore 4, 2) := by decide +kernel
theorem dX5_alike_80 : decode cX5_alike 80 = .ok (.aload_n 0, 1) := by decide +kernel
theorem dX5_alike_81 : decode cX5_alike 81 = .ok (.getfield 22, 3) := by decide +kernel
theorem dX5_alike_84 : decode cX5_alike 84 = .ok (.iload 4, 2) := by decide +kernel
theorem dX5_alike_86 : decode cX5_alike 86 = .ok (.iaload, 1) := by decide +kernel
theorem dX5_alike_87 : decode cX5_alike 87 = .ok (.ifCond .ne 9, 3) := by decide +kernel
theorem dX5_alike_90 : decode cX5_alike 90 = .ok (.iinc 4 1, 3) := by decide +kernel
theorem dX5_alike_93 : decode cX5_alike 93 = .ok (.goto (-13), 3) := by decide +kernel
theorem dX5_alike_96 : decode cX5_alike 96 = .ok (.aload_n 0, 1) := by decide +kernel
theorem dX5_alike_97 : decode cX5_alike 97 = .ok (.getfield 25, 3) := by decide +kernel
theorem dX5_alike_100 : decode cX5_alike 100 = .ok (.iload 4, 2) := by decide +kernel
theorem dX5_alike_102 : decode cX5_alike 102 = .ok (.iaload, 1) := by decide +kernel
theorem dX5_alike_103 : decode cX5_alike 103 = .ok (.aload_n 0, 1) := by decide +kernel
theorem dX5_alike_104 : decode cX5_alike 104 = .ok (.getfield 22, 3) := by decide +kernel
theorem dX5_alike_107 : decode cX5_alike 107 = .ok (.iload 4, 2) := by decide +kernel
theorem dX5_alike_109 : decode cX5_alike 109 = .ok (.iaload, 1) := by decide +kernel
theorem dX5_alike_110 : decode cX5_alike 110 = .ok (.invokestatic 133, 3) := by decide +kernel
theorem dX5_alike_113 : decode cX5_alike 113 = .ok (.invokestatic 52, 3) := by decide +kernel
theorem dX5_alike_116 : decode cX5_alike 116 = .ok (.istore 5, 2) := by decide +kernel
theorem dX5_alike_118 : decode cX5_alike 118 = .ok (.iconst 0, 1) := by decide +kernel
theorem dX5_alike_119 : decode cX5_alike 119 = .ok (.istore 6, 2) := by decide +kernel
theorem dX5_alike_121 : decode cX5_alike 121 = .ok (.iload 6, 2) := by decide +kernel
theorem dX5_alike_123 : decode cX5_alike 123 = .ok (.aload_n 0, 1) := by decide +kernel
theorem dX5_alike_124 : decode cX5_alike 124 = .ok (.getfield 81, 3) := by decide +kernel
theorem dX5_alike_127 : decode cX5_alike 127 = .ok (.if_icmp .gt 33, 3) := by decide +kernel
theorem dX5_alike_130 : decode cX5_alike 130 = .ok (.aload_n 0, 1) := by decide +kernel
theorem dX5_alike_131 : decode cX5_alike 131 = .ok (.getfield 25, 3) := by decide +kernel
theorem dX5_alike_134 : decode cX5_alike 134 = .ok (.iload 6, 2) := by decide +kernel
theorem dX5_alike_136 : decode cX5_alike 136 = .ok (.iaload, 1) := by decide +kernel
theorem dX5_alike_137 : decode cX5_alike 137 = .ok (.iload 5, 2) := by decide +kernel
theorem dX5_alike_139 : decode cX5_alike 139 = .ok (.aload_n 0, 1) := by decide +kernel
theorem dX5_alike_140 : decode cX5_alike 140 = .ok (.getfield 22, 3) := by decide +kernel
theorem dX5_alike_143 : decode cX5_alike 143 = .ok (.iload 6, 2) := by decide +kernel
theorem dX5_alike_145 : decode cX5_alike 145 = .ok (.iaload, 1) := by decide +kernel
theorem dX5_alike_146 : decode cX5_alike 146 = .ok (.invokestatic 52, 3) := by decide +kernel
theorem dX5_alike_149 : decode cX5_alike 149 = .ok (.if_icmp .eq 5, 3) := by decide +kernel
theorem dX5_alike_152 : decode cX5_alike 152 = .ok (.iconst 0, 1) := by decide +kernel
theorem dX5_alike_153 : decode cX5_alike 153 = .ok (.ireturn, 1) := by decide +kernel
theorem dX5_alike_154 : decode cX5_alike 154 = .ok (.iinc 6 1, 3) := by decide +kernel
theorem dX5_alike_157 : decode cX5_alike 157 = .ok (.goto (-36), 3) := by decide +kernel
theorem dX5_alike_160 : decode cX5_alike 160 = .ok (.iload 5, 2) := by decide +kernel
theorem dX5_alike_162 : decode cX5_alike 162 = .ok (.ireturn, 1) := by decide +kernel
theorem dX5_isRoot_0 : decode cX5_isRoot 0 = .ok (.iload_n 1, 1) := by decide +kernel
theorem dX5_isRoot_1 : decode cX5_isRoot 1 = .ok (.sipush 10007, 3) := by decide +kernel
theorem dX5_isRoot_4 : decode cX5_isRoot 4 = .ok (.if_icmp .ne 21, 3) := by decide +kernel
theorem dX5_isRoot_7 : decode cX5_isRoot 7 = .ok (.aload_n 0, 1) := by decide +kernel
theorem dX5_isRoot_8 : decode cX5_isRoot 8 = .ok (.getfield 22, 3) := by decide +kernel
theorem dX5_isRoot_11 : decode cX5_isRoot 11 = .ok (.aload_n 0, 1) := by decide +kernel
theorem dX5_isRoot_12 : decode cX5_isRoot 12 = .ok (.getfield 81, 3) := by decide +kernel
theorem dX5_isRoot_15 : decode cX5_isRoot 15 = .ok (.iaload, 1) := by decide +kernel
theorem dX5_isRoot_16 : decode cX5_isRoot 16 = .ok (.ifCond .ne 7, 3) := by decide +kernel
theorem dX5_isRoot_19 : decode cX5_isRoot 19 = .ok (.iconst 1, 1) := by decide +kernel
theorem dX5_isRoot_20 : decode cX5_isRoot 20 = .ok (.goto 4, 3) := by decide +kernel
theorem dX5_isRoot_23 : decode cX5_isRoot 23 = .ok (.iconst 0, 1) := by decide +kernel
theorem dX5_isRoot_24 : decode cX5_isRoot 24 = .ok (.ireturn, 1) := by decide +kernel
theorem dX5_isRoot_25 : decode cX5_isRoot 25 = .ok (.iconst 0, 1) := by decide +kernel
theorem dX5_isRoot_26 : decode cX5_isRoot 26 = .ok (.istore_n 2, 1) := by decide +kernel
theorem dX5_isRoot_27 : decode cX5_isRoot 27 = .ok (.aload_n 0, 1) := by decide +kernel
theorem dX5_isRoot_28 : decode cX5_isRoot 28 = .ok (.getfield 81, 3) := by decide +kernel
theorem dX5_isRoot_31 : decode cX5_isRoot 31 = .ok (.istore_n 3, 1) := by decide +kernel
theorem dX5_isRoot_32 : decode cX5_isRoot 32 = .ok (.iload_n 3, 1) := by decide +kernel
theorem dX5_isRoot_33 : decode cX5_isRoot 33 = .ok (.ifCond .lt 26, 3) := by decide +kernel
theorem dX5_isRoot_36 : decode cX5_isRoot 36 = .ok (.iload_n 2, 1) := by decide +kernel
theorem dX5_isRoot_37 : decode cX5_isRoot 37 = .ok (.i2l, 1) := by decide +kernel
theorem dX5_isRoot_38 : decode cX5_isRoot 38 = .ok (.iload_n 1, 1) := by decide +kernel
theorem dX5_isRoot_39 : decode cX5_isRoot 39 = .ok (.i2l, 1) := by decide +kernel
theorem dX5_isRoot_40 : decode cX5_isRoot 40 = .ok (.lmul, 1) := by decide +kernel
theorem dX5_isRoot_41 : decode cX5_isRoot 41 = .ok (.aload_n 0, 1) := by decide +kernel
theorem dX5_isRoot_42 : decode cX5_isRoot 42 = .ok (.getfield 22, 3) := by decide +kernel
theorem dX5_isRoot_45 : decode cX5_isRoot 45 = .ok (.iload_n 3, 1) := by decide +kernel
theorem dX5_isRoot_46 : decode cX5_isRoot 46 = .ok (.iaload, 1) := by decide +kernel
theorem dX5_isRoot_47 : decode cX5_isRoot 47 = .ok (.i2l, 1) := by decide +kernel
theorem dX5_isRoot_48 : decode cX5_isRoot 48 = .ok (.ladd, 1) := by decide +kernel
theorem dX5_isRoot_49 : decode cX5_isRoot 49 = .ok (.invokestatic 48, 3) := by decide +kernel
theorem dX5_isRoot_52 : decode cX5_isRoot 52 = .ok (.istore_n 2, 1) := by decide +kernel
theorem dX5_isRoot_53 : decode cX5_isRoot 53 = .ok (.iinc 3 (-1), 3) := by decide +kernel
theorem dX5_isRoot_56 : decode cX5_isRoot 56 = .ok (.goto (-24), 3) := by decide +kernel
theorem dX5_isRoot_59 : decode cX5_isRoot 59 = .ok (.iload_n 2, 1) := by decide +kernel
theorem dX5_isRoot_60 : decode cX5_isRoot 60 = .ok (.ifCond .ne 7, 3) := by decide +kernel
theorem dX5_isRoot_63 : decode cX5_isRoot 63 = .ok (.iconst 1, 1) := by decide +kernel
theorem dX5_isRoot_64 : decode cX5_isRoot 64 = .ok (.goto 4, 3) := by decide +kernel
theorem dX5_isRoot_67 : decode cX5_isRoot 67 = .ok (.iconst 0, 1) := by decide +kernel
theorem dX5_isRoot_68 : decode cX5_isRoot 68 = .ok (.ireturn, 1) := by decide +kernel
theorem dX5_lacksRoots_0 : decode cX5_lacksRoots 0 = .ok (.aload_n 0, 1) := by decide +kernel
theorem dX5_lacksRoots_1 : decode cX5_lacksRoots 1 = .ok (.iload_n 1, 1) := by decide +kernel
theorem dX5_lacksRoots_2 : decode cX5_lacksRoots 2 = .ok (.invokevirtual 102, 3) := by decide +kernel
theorem dX5_lacksRoots_5 : decode cX5_lacksRoots 5 = .ok (.istore_n 2, 1) := by decide +kernel
theorem dX5_lacksRoots_6 : decode cX5_lacksRoots 6 = .ok (.iload_n 2, 1) := by decide +kernel
theorem dX5_lacksRoots_7 : decode cX5_lacksRoots 7 = .ok (.ifCond .eq 7, 3) := by decide +kernel
theorem dX5_lacksRoots_10 : decode cX5_lacksRoots 10 = .ok (.iload_n 2, 1) := by decide +kernel
theorem dX5_lacksRoots_11 : decode cX5_lacksRoots 11 = .ok (.goto 16, 3) := by decide +kernel
theorem dX5_lacksRoots_14 : decode cX5_lacksRoots 14 = .ok (.aload_n 0, 1) := by decide +kernel
theorem dX5_lacksRoots_15 : decode cX5_lacksRoots 15 = .ok (.invokevirtual 136, 3) := by decide +kernel
theorem dX5_lacksRoots_18 : decode cX5_lacksRoots 18 = .ok (.ifCond .eq 8, 3) := by decide +kernel
theorem dX5_lacksRoots_21 : decode cX5_lacksRoots 21 = .ok (.bipush (-3), 2) := by decide +kernel
theorem dX5_lacksRoots_23 : decode cX5_lacksRoots 23 = .ok (.goto 4, 3) := by decide +kernel
theorem dX5_lacksRoots_26 : decode cX5_lacksRoots 26 = .ok (.iconst 0, 1) := by decide +kernel
theorem dX5_lacksRoots_27 : decode cX5_lacksRoots 27 = .ok (.ireturn, 1) := by decide +kernel
theorem dX5_roots_0 : decode cX5_roots 0 = .ok (.iload_n 1, 1) := by decide +kernel
theorem dX5_roots_1 : decode cX5_roots 1 = .ok (.invokestatic 66, 3) := by decide +kernel
theorem dX5_roots_4 : decode cX5_roots 4 = .ok (.ifCond .ne 6, 3) := by decide +kernel
theorem dX5_roots_7 : decode cX5_roots 7 = .ok (.bipush (-2), 2) := by decide +kernel
theorem dX5_roots_9 : decode cX5_roots 9 = .ok (.ireturn, 1) := by decide +kernel
theorem dX5_roots_10 : decode cX5_roots 10 = .ok (.aload_n 0, 1) := by decide +kernel
theorem dX5_roots_11 : decode cX5_roots 11 = .ok (.iload_n 1, 1) := by decide +kernel
theorem dX5_roots_12 : decode cX5_roots 12 = .ok (.invokevirtual 143, 3) := by decide +kernel
theorem dX5_roots_15 : decode cX5_roots 15 = .ok (.istore_n 2, 1) := by decide +kernel
theorem dX5_roots_16 : decode cX5_roots 16 = .ok (.iload_n 2, 1) := by decide +kernel
theorem dX5_roots_17 : decode cX5_roots 17 = .ok (.ifCond .eq 5, 3) := by decide +kernel
theorem dX5_roots_20 : decode cX5_roots 20 = .ok (.iload_n 2, 1) := by decide +kernel
theorem dX5_roots_21 : decode cX5_roots 21 = .ok (.ireturn, 1) := by decide +kernel
theorem dX5_roots_22 : decode cX5_roots 22 = .ok (.iconst 0, 1) := by decide +kernel
theorem dX5_roots_23 : decode cX5_roots 23 = .ok (.istore_n 3, 1) := by decide +kernel
theorem dX5_roots_24 : decode cX5_roots 24 = .ok (.iconst 0, 1) := by decide +kernel
theorem dX5_roots_25 : decode cX5_roots 25 = .ok (.istore 4, 2) := by decide +kernel
theorem dX5_roots_27 : decode cX5_roots 27 = .ok (.iload 4, 2) := by decide +kernel
theorem dX5_roots_29 : decode cX5_roots 29 = .ok (.sipush 10007, 3) := by decide +kernel
theorem dX5_roots_32 : decode cX5_roots 32 = .ok (.if_icmp .gt 26, 3) := by decide +kernel
theorem dX5_roots_35 : decode cX5_roots 35 = .ok (.iload_n 3, 1) := by decide +kernel
theorem dX5_roots_36 : decode cX5_roots 36 = .ok (.aload_n 0, 1) := by decide +kernel
theorem dX5_roots_37 : decode cX5_roots 37 = .ok (.iload 4, 2) := by decide +kernel
theorem dX5_roots_39 : decode cX5_roots 39 = .ok (.invokevirtual 146, 3) := by decide +kernel
theorem dX5_roots_42 : decode cX5_roots 42 = .ok (.ifCond .eq 7, 3) := by decide +kernel
theorem dX5_roots_45 : decode cX5_roots 45 = .ok (.iconst 1, 1) := by decide +kernel
theorem dX5_roots_46 : decode cX5_roots 46 = .ok (.goto 4, 3) := by decide +kernel
theorem dX5_roots_49 : decode cX5_roots 49 = .ok (.iconst 0, 1) := by decide +kernel
theorem dX5_roots_50 : decode cX5_roots 50 = .ok (.iadd, 1) := by decide +kernel
theorem dX5_roots_51 : decode cX5_roots 51 = .ok (.istore_n 3, 1) := by decide +kernel
theorem dX5_roots_52 : decode cX5_roots 52 = .ok (.iinc 4 1, 3) := by decide +kernel
theorem dX5_roots_55 : decode cX5_roots 55 = .ok (.goto (-28), 3) := by decide +kernel
theorem dX5_roots_58 : decode cX5_roots 58 = .ok (.iload_n 3, 1) := by decide +kernel
theorem dX5_roots_59 : decode cX5_roots 59 = .ok (.ireturn, 1) := by decide +kernel
theorem dX5_root_0 : decode cX5_root 0 = .ok (.iload_n 1, 1) := by decide +kernel
theorem dX5_root_1 : decode cX5_root 1 = .ok (.invokestatic 66, 3) := by decide +kernel
theorem dX5_root_4 : decode cX5_root 4 = .ok (.ifCond .eq 7, 3) := by decide +kernel
theorem dX5_root_7 : decode cX5_root 7 = .ok (.iload_n 2, 1) := by decide +kernel
theorem dX5_root_8 : decode cX5_root 8 = .ok (.ifCond .ge 6, 3) := by decide +kernel
theorem dX5_root_11 : decode cX5_root 11 = .ok (.bipush (-2), 2) := by decide +kernel
theorem dX5_root_13 : decode cX5_root 13 = .ok (.ireturn, 1) := by decide +kernel
theorem dX5_root_14 : decode cX5_root 14 = .ok (.aload_n 0, 1) := by decide +kernel
theorem dX5_root_15 : decode cX5_root 15 = .ok (.iload_n 1, 1) := by decide +kernel
theorem dX5_root_16 : decode cX5_root 16 = .ok (.invokevirtual 143, 3) := by decide +kernel
theorem dX5_root_19 : decode cX5_root 19 = .ok (.istore_n 3, 1) := by decide +kernel
theorem dX5_root_20 : decode cX5_root 20 = .ok (.iload_n 3, 1) := by decide +kernel
theorem dX5_root_21 : decode cX5_root 21 = .ok (.ifCond .eq 5, 3) := by decide +kernel
theorem dX5_root_24 : decode cX5_root 24 = .ok (.iload_n 3, 1) := by decide +kernel
theorem dX5_root_25 : decode cX5_root 25 = .ok (.ireturn, 1) := by decide +kernel
theorem dX5_root_26 : decode cX5_root 26 = .ok (.iconst 0, 1) := by decide +kernel
theorem dX5_root_27 : decode cX5_root 27 = .ok (.istore 4, 2) := by decide +kernel
theorem dX5_root_29 : decode cX5_root 29 = .ok (.iconst 0, 1) := by decide +kernel
theorem dX5_root_30 : decode cX5_root 30 = .ok (.istore 5, 2) := by decide +kernel
theorem dX5_root_32 : decode cX5_root 32 = .ok (.iload 5, 2) := by decide +kernel
theorem dX5_root_34 : decode cX5_root 34 = .ok (.sipush 10007, 3) := by decide +kernel
theorem dX5_root_37 : decode cX5_root 37 = .ok (.if_icmp .gt 30, 3) := by decide +kernel
theorem dX5_root_40 : decode cX5_root 40 = .ok (.aload_n 0, 1) := by decide +kernel
theorem dX5_root_41 : decode cX5_root 41 = .ok (.iload 5, 2) := by decide +kernel
theorem dX5_root_43 : decode cX5_root 43 = .ok (.invokevirtual 146, 3) := by decide +kernel
theorem dX5_root_46 : decode cX5_root 46 = .ok (.ifCond .eq 15, 3) := by decide +kernel
theorem dX5_root_49 : decode cX5_root 49 = .ok (.iload 4, 2) := by decide +kernel
theorem dX5_root_51 : decode cX5_root 51 = .ok (.iload_n 2, 1) := by decide +kernel
theorem dX5_root_52 : decode cX5_root 52 = .ok (.if_icmp .ne 6, 3) := by decide +kernel
theorem dX5_root_55 : decode cX5_root 55 = .ok (.iload 5, 2) := by decide +kernel
theorem dX5_root_57 : decode cX5_root 57 = .ok (.ireturn, 1) := by decide +kernel
theorem dX5_root_58 : decode cX5_root 58 = .ok (.iinc 4 1, 3) := by decide +kernel
theorem dX5_root_61 : decode cX5_root 61 = .ok (.iinc 5 1, 3) := by decide +kernel
theorem dX5_root_64 : decode cX5_root 64 = .ok (.goto (-32), 3) := by decide +kernel
theorem dX5_root_67 : decode cX5_root 67 = .ok (.iconst (-1), 1) := by decide +kernel
theorem dX5_root_68 : decode cX5_root 68 = .ok (.ireturn, 1) := by decide +kernel
theorem dX5_common_0 : decode cX5_common 0 = .ok (.iload_n 1, 1) := by decide +kernel
theorem dX5_common_1 : decode cX5_common 1 = .ok (.invokestatic 66, 3) := by decide +kernel
theorem dX5_common_4 : decode cX5_common 4 = .ok (.ifCond .eq 17, 3) := by decide +kernel
theorem dX5_common_7 : decode cX5_common 7 = .ok (.iload_n 2, 1) := by decide +kernel
theorem dX5_common_8 : decode cX5_common 8 = .ok (.invokestatic 66, 3) := by decide +kernel
theorem dX5_common_11 : decode cX5_common 11 = .ok (.ifCond .eq 10, 3) := by decide +kernel
theorem dX5_common_14 : decode cX5_common 14 = .ok (.iload_n 3, 1) := by decide +kernel
theorem dX5_common_15 : decode cX5_common 15 = .ok (.invokestatic 66, 3) := by decide +kernel
theorem dX5_common_18 : decode cX5_common 18 = .ok (.ifCond .ne 6, 3) := by decide +kernel
theorem dX5_common_21 : decode cX5_common 21 = .ok (.bipush (-2), 2) := by decide +kernel
theorem dX5_common_23 : decode cX5_common 23 = .ok (.ireturn, 1) := by decide +kernel
theorem dX5_common_24 : decode cX5_common 24 = .ok (.aload_n 0, 1) := by decide +kernel
theorem dX5_common_25 : decode cX5_common 25 = .ok (.iload_n 1, 1) := by decide +kernel
theorem dX5_common_26 : decode cX5_common 26 = .ok (.iload_n 2, 1) := by decide +kernel
theorem dX5_common_27 : decode cX5_common 27 = .ok (.invokevirtual 110, 3) := by decide +kernel
theorem dX5_common_30 : decode cX5_common 30 = .ok (.istore 4, 2) := by decide +kernel
theorem dX5_common_32 : decode cX5_common 32 = .ok (.iload 4, 2) := by decide +kernel
theorem dX5_common_34 : decode cX5_common 34 = .ok (.ifCond .eq 6, 3) := by decide +kernel
theorem dX5_common_37 : decode cX5_common 37 = .ok (.iload 4, 2) := by decide +kernel
theorem dX5_common_39 : decode cX5_common 39 = .ok (.ireturn, 1) := by decide +kernel
theorem dX5_common_40 : decode cX5_common 40 = .ok (.aload_n 0, 1) := by decide +kernel
theorem dX5_common_41 : decode cX5_common 41 = .ok (.invokevirtual 136, 3) := by decide +kernel
theorem dX5_common_44 : decode cX5_common 44 = .ok (.ifCond .ne 10, 3) := by decide +kernel
theorem dX5_common_47 : decode cX5_common 47 = .ok (.aload_n 0, 1) := by decide +kernel
theorem dX5_common_48 : decode cX5_common 48 = .ok (.invokevirtual 140, 3) := by decide +kernel
theorem dX5_common_51 : decode cX5_common 51 = .ok (.ifCond .eq 6, 3) := by decide +kernel
theorem dX5_common_54 : decode cX5_common 54 = .ok (.bipush (-3), 2) := by decide +kernel
theorem dX5_common_56 : decode cX5_common 56 = .ok (.ireturn, 1) := by decide +kernel
theorem dX5_common_57 : decode cX5_common 57 = .ok (.aload_n 0, 1) := by decide +kernel
theorem dX5_common_58 : decode cX5_common 58 = .ok (.getfield 81, 3) := by decide +kernel
theorem dX5_common_61 : decode cX5_common 61 = .ok (.istore 5, 2) := by decide +kernel
theorem dX5_common_63 : decode cX5_common 63 = .ok (.aload_n 0, 1) := by decide +kernel
theorem dX5_common_64 : decode cX5_common 64 = .ok (.getfield 22, 3) := by decide +kernel
theorem dX5_common_67 : decode cX5_common 67 = .ok (.iload 5, 2) := by decide +kernel
theorem dX5_common_69 : decode cX5_common 69 = .ok (.iaload, 1) := by decide +kernel
theorem dX5_common_70 : decode cX5_common 70 = .ok (.ifCond .ne 9, 3) := by decide +kernel
theorem dX5_common_73 : decode cX5_common 73 = .ok (.iinc 5 (-1), 3) := by decide +kernel
theorem dX5_common_76 : decode cX5_common 76 = .ok (.goto (-13), 3) := by decide +kernel
theorem dX5_common_79 : decode cX5_common 79 = .ok (.aload_n 0, 1) := by decide +kernel
theorem dX5_common_80 : decode cX5_common 80 = .ok (.getfield 84, 3) := by decide +kernel
theorem dX5_common_83 : decode cX5_common 83 = .ok (.istore 6, 2) := by decide +kernel
theorem dX5_common_85 : decode cX5_common 85 = .ok (.aload_n 0, 1) := by decide +kernel
theorem dX5_common_86 : decode cX5_common 86 = .ok (.getfield 25, 3) := by decide +kernel
theorem dX5_common_89 : decode cX5_common 89 = .ok (.iload 6, 2) := by decide +kernel
theorem dX5_common_91 : decode cX5_common 91 = .ok (.iaload, 1) := by decide +kernel
theorem dX5_common_92 : decode cX5_common 92 = .ok (.ifCond .ne 9, 3) := by decide +kernel
theorem dX5_common_95 : decode cX5_common 95 = .ok (.iinc 6 (-1), 3) := by decide +kernel
theorem dX5_common_98 : decode cX5_common 98 = .ok (.goto (-13), 3) := by decide +kernel
theorem dX5_common_101 : decode cX5_common 101 = .ok (.aload_n 0, 1) := by decide +kernel
theorem dX5_common_102 : decode cX5_common 102 = .ok (.getfield 81, 3) := by decide +kernel
theorem dX5_common_105 : decode cX5_common 105 = .ok (.iload 5, 2) := by decide +kernel
theorem dX5_common_107 : decode cX5_common 107 = .ok (.isub, 1) := by decide +kernel
theorem dX5_common_108 : decode cX5_common 108 = .ok (.aload_n 0, 1) := by decide +kernel
theorem dX5_common_109 : decode cX5_common 109 = .ok (.getfield 84, 3) := by decide +kernel
theorem dX5_common_112 : decode cX5_common 112 = .ok (.iload 6, 2) := by decide +kernel
theorem dX5_common_114 : decode cX5_common 114 = .ok (.isub, 1) := by decide +kernel
theorem dX5_common_115 : decode cX5_common 115 = .ok (.if_icmp .ge 13, 3) := by decide +kernel
theorem dX5_common_118 : decode cX5_common 118 = .ok (.aload_n 0, 1) := by decide +kernel
theorem dX5_common_119 : decode cX5_common 119 = .ok (.getfield 81, 3) := by decide +kernel
theorem dX5_common_122 : decode cX5_common 122 = .ok (.iload 5, 2) := by decide +kernel
theorem dX5_common_124 : decode cX5_common 124 = .ok (.isub, 1) := by decide +kernel
theorem dX5_common_125 : decode cX5_common 125 = .ok (.goto 10, 3) := by decide +kernel
theorem dX5_common_128 : decode cX5_common 128 = .ok (.aload_n 0, 1) := by decide +kernel
theorem dX5_common_129 : decode cX5_common 129 = .ok (.getfield 84, 3) := by decide +kernel
theorem dX5_common_132 : decode cX5_common 132 = .ok (.iload 6, 2) := by decide +kernel
theorem dX5_common_134 : decode cX5_common 134 = .ok (.isub, 1) := by decide +kernel
theorem dX5_common_135 : decode cX5_common 135 = .ok (.istore 7, 2) := by decide +kernel
theorem dX5_common_137 : decode cX5_common 137 = .ok (.iload 5, 2) := by decide +kernel
theorem dX5_common_139 : decode cX5_common 139 = .ok (.ifCond .lt 225, 3) := by decide +kernel
theorem dX5_common_142 : decode cX5_common 142 = .ok (.iload 6, 2) := by decide +kernel
theorem dX5_common_144 : decode cX5_common 144 = .ok (.ifCond .lt 220, 3) := by decide +kernel
theorem dX5_common_147 : decode cX5_common 147 = .ok (.iload 5, 2) := by decide +kernel
theorem dX5_common_149 : decode cX5_common 149 = .ok (.iload 6, 2) := by decide +kernel
theorem dX5_common_151 : decode cX5_common 151 = .ok (.if_icmp .lt 108, 3) := by decide +kernel
theorem dX5_common_154 : decode cX5_common 154 = .ok (.aload_n 0, 1) := by decide +kernel
theorem dX5_common_155 : decode cX5_common 155 = .ok (.getfield 22, 3) := by decide +kernel
theorem dX5_common_158 : decode cX5_common 158 = .ok (.iload 5, 2) := by decide +kernel
theorem dX5_common_160 : decode cX5_common 160 = .ok (.iaload, 1) := by decide +kernel
theorem dX5_common_161 : decode cX5_common 161 = .ok (.aload_n 0, 1) := by decide +kernel
theorem dX5_common_162 : decode cX5_common 162 = .ok (.getfield 25, 3) := by decide +kernel
theorem dX5_common_165 : decode cX5_common 165 = .ok (.iload 6, 2) := by decide +kernel
theorem dX5_common_167 : decode cX5_common 167 = .ok (.iaload, 1) := by decide +kernel
theorem dX5_common_168 : decode cX5_common 168 = .ok (.invokestatic 133, 3) := by decide +kernel
theorem dX5_common_171 : decode cX5_common 171 = .ok (.invokestatic 52, 3) := by decide +kernel
theorem dX5_common_174 : decode cX5_common 174 = .ok (.istore 8, 2) := by decide +kernel
theorem dX5_common_176 : decode cX5_common 176 = .ok (.iconst 0, 1) := by decide +kernel
theorem dX5_common_177 : decode cX5_common 177 = .ok (.istore 9, 2) := by decide +kernel
theorem dX5_common_179 : decode cX5_common 179 = .ok (.iload 9, 2) := by decide +kernel
theorem dX5_common_181 : decode cX5_common 181 = .ok (.iload 6, 2) := by decide +kernel
theorem dX5_common_183 : decode cX5_common 183 = .ok (.if_icmp .gt 52, 3) := by decide +kernel
theorem dX5_common_186 : decode cX5_common 186 = .ok (.aload_n 0, 1) := by decide +kernel
theorem dX5_common_187 : decode cX5_common 187 = .ok (.getfield 22, 3) := by decide +kernel
theorem dX5_common_190 : decode cX5_common 190 = .ok (.iload 5, 2) := by decide +kernel
theorem dX5_common_192 : decode cX5_common 192 = .ok (.iload 6, 2) := by decide +kernel
theorem dX5_common_194 : decode cX5_common 194 = .ok (.isub, 1) := by decide +kernel
theorem dX5_common_195 : decode cX5_common 195 = .ok (.iload 9, 2) := by decide +kernel
theorem dX5_common_197 : decode cX5_common 197 = .ok (.iadd, 1) := by decide +kernel
theorem dX5_common_198 : decode cX5_common 198 = .ok (.aload_n 0, 1) := by decide +kernel
theorem dX5_common_199 : decode cX5_common 199 = .ok (.getfield 22, 3) := by decide +kernel
theorem dX5_common_202 : decode cX5_common 202 = .ok (.iload 5, 2) := by decide +kernel
theorem dX5_common_204 : decode cX5_common 204 = .ok (.iload 6, 2) := by decide +kernel
theorem dX5_common_206 : decode cX5_common 206 = .ok (.isub, 1) := by decide +kernel
theorem dX5_common_207 : decode cX5_common 207 = .ok (.iload 9, 2) := by decide +kernel
theorem dX5_common_209 : decode cX5_common 209 = .ok (.iadd, 1) := by decide +kernel
theorem dX5_common_210 : decode cX5_common 210 = .ok (.iaload, 1) := by decide +kernel
theorem dX5_common_211 : decode cX5_common 211 = .ok (.i2l, 1) := by decide +kernel
theorem dX5_common_212 : decode cX5_common 212 = .ok (.iload 8, 2) := by decide +kernel
theorem dX5_common_214 : decode cX5_common 214 = .ok (.i2l, 1) := by decide +kernel
theorem dX5_common_215 : decode cX5_common 215 = .ok (.aload_n 0, 1) := by decide +kernel
theorem dX5_common_216 : decode cX5_common 216 = .ok (.getfield 25, 3) := by decide +kernel
theorem dX5_common_219 : decode cX5_common 219 = .ok (.iload 9, 2) := by decide +kernel
theorem dX5_common_221 : decode cX5_common 221 = .ok (.iaload, 1) := by decide +kernel
theorem dX5_common_222 : decode cX5_common 222 = .ok (.i2l, 1) := by decide +kernel
theorem dX5_common_223 : decode cX5_common 223 = .ok (.lmul, 1) := by decide +kernel
theorem dX5_common_224 : decode cX5_common 224 = .ok (.lsub, 1) := by decide +kernel
theorem dX5_common_225 : decode cX5_common 225 = .ok (.invokestatic 48, 3) := by decide +kernel
theorem dX5_common_228 : decode cX5_common 228 = .ok (.iastore, 1) := by decide +kernel
theorem dX5_common_229 : decode cX5_common 229 = .ok (.iinc 9 1, 3) := by decide +kernel
theorem dX5_common_232 : decode cX5_common 232 = .ok (.goto (-53), 3) := by decide +kernel
theorem dX5_common_235 : decode cX5_common 235 = .ok (.iload 5, 2) := by decide +kernel
theorem dX5_common_237 : decode cX5_common 237 = .ok (.ifCond .lt 19, 3) := by decide +kernel
theorem dX5_common_240 : decode cX5_common 240 = .ok (.aload_n 0, 1) := by decide +kernel
theorem dX5_common_241 : decode cX5_common 241 = .ok (.getfield 22, 3) := by decide +kernel
theorem dX5_common_244 : decode cX5_common 244 = .ok (.iload 5, 2) := by decide +kernel
theorem dX5_common_246 : decode cX5_common 246 = .ok (.iaload, 1) := by decide +kernel
theorem dX5_common_247 : decode cX5_common 247 = .ok (.ifCond .ne 9, 3) := by decide +kernel
theorem dX5_common_250 : decode cX5_common 250 = .ok (.iinc 5 (-1), 3) := by decide +kernel
theorem dX5_common_253 : decode cX5_common 253 = .ok (.goto (-18), 3) := by decide +kernel
theorem dX5_common_256 : decode cX5_common 256 = .ok (.goto (-119), 3) := by decide +kernel
theorem dX5_common_259 : decode cX5_common 259 = .ok (.aload_n 0, 1) := by decide +kernel
theorem dX5_common_260 : decode cX5_common 260 = .ok (.getfield 25, 3) := by decide +kernel
theorem dX5_common_263 : decode cX5_common 263 = .ok (.iload 6, 2) := by decide +kernel
theorem dX5_common_265 : decode cX5_common 265 = .ok (.iaload, 1) := by decide +kernel
theorem dX5_common_266 : decode cX5_common 266 = .ok (.aload_n 0, 1) := by decide +kernel
theorem dX5_common_267 : decode cX5_common 267 = .ok (.getfield 22, 3) := by decide +kernel
theorem dX5_common_270 : decode cX5_common 270 = .ok (.iload 5, 2) := by decide +kernel
theorem dX5_common_272 : decode cX5_common 272 = .ok (.iaload, 1) := by decide +kernel
theorem dX5_common_273 : decode cX5_common 273 = .ok (.invokestatic 133, 3) := by decide +kernel
theorem dX5_common_276 : decode cX5_common 276 = .ok (.invokestatic 52, 3) := by decide +kernel
theorem dX5_common_279 : decode cX5_common 279 = .ok (.istore 8, 2) := by decide +kernel
theorem dX5_common_281 : decode cX5_common 281 = .ok (.iconst 0, 1) := by decide +kernel
theorem dX5_common_282 : decode cX5_common 282 = .ok (.istore 9, 2) := by decide +kernel
theorem dX5_common_284 : decode cX5_common 284 = .ok (.iload 9, 2) := by decide +kernel
theorem dX5_common_286 : decode cX5_common 286 = .ok (.iload 5, 2) := by decide +kernel
theorem dX5_common_288 : decode cX5_common 288 = .ok (.if_icmp .gt 52, 3) := by decide +kernel
theorem dX5_common_291 : decode cX5_common 291 = .ok (.aload_n 0, 1) := by decide +kernel
theorem dX5_common_292 : decode cX5_common 292 = .ok (.getfield 25, 3) := by decide +kernel
theorem dX5_common_295 : decode cX5_common 295 = .ok (.iload 6, 2) := by decide +kernel
theorem dX5_common_297 : decode cX5_common 297 = .ok (.iload 5, 2) := by decide +kernel
theorem dX5_common_299 : decode cX5_common 299 = .ok (.isub, 1) := by decide +kernel
theorem dX5_common_300 : decode cX5_common 300 = .ok (.iload 9, 2) := by decide +kernel
theorem dX5_common_302 : decode cX5_common 302 = .ok (.iadd, 1) := by decide +kernel
theorem dX5_common_303 : decode cX5_common 303 = .ok (.aload_n 0, 1) := by decide +kernel
theorem dX5_common_304 : decode cX5_common 304 = .ok (.getfield 25, 3) := by decide +kernel
theorem dX5_common_307 : decode cX5_common 307 = .ok (.iload 6, 2) := by decide +kernel
theorem dX5_common_309 : decode cX5_common 309 = .ok (.iload 5, 2) := by decide +kernel
theorem dX5_common_311 : decode cX5_common 311 = .ok (.isub, 1) := by decide +kernel
theorem dX5_common_312 : decode cX5_common 312 = .ok (.iload 9, 2) := by decide +kernel
theorem dX5_common_314 : decode cX5_common 314 = .ok (.iadd, 1) := by decide +kernel
theorem dX5_common_315 : decode cX5_common 315 = .ok (.iaload, 1) := by decide +kernel
theorem dX5_common_316 : decode cX5_common 316 = .ok (.i2l, 1) := by decide +kernel
theorem dX5_common_317 : decode cX5_common 317 = .ok (.iload 8, 2) := by decide +kernel
theorem dX5_common_319 : decode cX5_common 319 = .ok (.i2l, 1) := by decide +kernel
theorem dX5_common_320 : decode cX5_common 320 = .ok (.aload_n 0, 1) := by decide +kernel
theorem dX5_common_321 : decode cX5_common 321 = .ok (.getfield 22, 3) := by decide +kernel
theorem dX5_common_324 : decode cX5_common 324 = .ok (.iload 9, 2) := by decide +kernel
theorem dX5_common_326 : decode cX5_common 326 = .ok (.iaload, 1) := by decide +kernel
theorem dX5_common_327 : decode cX5_common 327 = .ok (.i2l, 1) := by decide +kernel
theorem dX5_common_328 : decode cX5_common 328 = .ok (.lmul, 1) := by decide +kernel
theorem dX5_common_329 : decode cX5_common 329 = .ok (.lsub, 1) := by decide +kernel
theorem dX5_common_330 : decode cX5_common 330 = .ok (.invokestatic 48, 3) := by decide +kernel
theorem dX5_common_333 : decode cX5_common 333 = .ok (.iastore, 1) := by decide +kernel
theorem dX5_common_334 : decode cX5_common 334 = .ok (.iinc 9 1, 3) := by decide +kernel
theorem dX5_common_337 : decode cX5_common 337 = .ok (.goto (-53), 3) := by decide +kernel
theorem dX5_common_340 : decode cX5_common 340 = .ok (.iload 6, 2) := by decide +kernel
theorem dX5_common_342 : decode cX5_common 342 = .ok (.ifCond .lt 19, 3) := by decide +kernel
theorem dX5_common_345 : decode cX5_common 345 = .ok (.aload_n 0, 1) := by decide +kernel
theorem dX5_common_346 : decode cX5_common 346 = .ok (.getfield 25, 3) := by decide +kernel
theorem dX5_common_349 : decode cX5_common 349 = .ok (.iload 6, 2) := by decide +kernel
theorem dX5_common_351 : decode cX5_common 351 = .ok (.iaload, 1) := by decide +kernel
theorem dX5_common_352 : decode cX5_common 352 = .ok (.ifCond .ne 9, 3) := by decide +kernel
theorem dX5_common_355 : decode cX5_common 355 = .ok (.iinc 6 (-1), 3) := by decide +kernel
theorem dX5_common_358 : decode cX5_common 358 = .ok (.goto (-18), 3) := by decide +kernel
theorem dX5_common_361 : decode cX5_common 361 = .ok (.goto (-224), 3) := by decide +kernel
theorem dX5_common_364 : decode cX5_common 364 = .ok (.iload 5, 2) := by decide +kernel
theorem dX5_common_366 : decode cX5_common 366 = .ok (.ifCond .lt 8, 3) := by decide +kernel
theorem dX5_common_369 : decode cX5_common 369 = .ok (.iload 5, 2) := by decide +kernel
theorem dX5_common_371 : decode cX5_common 371 = .ok (.goto 5, 3) := by decide +kernel
theorem dX5_common_374 : decode cX5_common 374 = .ok (.iload 6, 2) := by decide +kernel
theorem dX5_common_376 : decode cX5_common 376 = .ok (.istore 8, 2) := by decide +kernel
theorem dX5_common_378 : decode cX5_common 378 = .ok (.aload_n 0, 1) := by decide +kernel
theorem dX5_common_379 : decode cX5_common 379 = .ok (.iload 8, 2) := by decide +kernel
theorem dX5_common_381 : decode cX5_common 381 = .ok (.iload 7, 2) := by decide +kernel
theorem dX5_common_383 : decode cX5_common 383 = .ok (.iadd, 1) := by decide +kernel
theorem dX5_common_384 : decode cX5_common 384 = .ok (.invokevirtual 113, 3) := by decide +kernel
theorem dX5_common_387 : decode cX5_common 387 = .ok (.iconst 0, 1) := by decide +kernel
theorem dX5_common_388 : decode cX5_common 388 = .ok (.istore 9, 2) := by decide +kernel
theorem dX5_common_390 : decode cX5_common 390 = .ok (.iload 9, 2) := by decide +kernel
theorem dX5_common_392 : decode cX5_common 392 = .ok (.iload 8, 2) := by decide +kernel
theorem dX5_common_394 : decode cX5_common 394 = .ok (.if_icmp .gt 38, 3) := by decide +kernel
theorem dX5_common_397 : decode cX5_common 397 = .ok (.aload_n 0, 1) := by decide +kernel
theorem dX5_common_398 : decode cX5_common 398 = .ok (.getfield 28, 3) := by decide +kernel
theorem dX5_common_401 : decode cX5_common 401 = .ok (.iload 9, 2) := by decide +kernel
theorem dX5_common_403 : decode cX5_common 403 = .ok (.iload 5, 2) := by decide +kernel
theorem dX5_common_405 : decode cX5_common 405 = .ok (.ifCond .lt 13, 3) := by decide +kernel
theorem dX5_common_408 : decode cX5_common 408 = .ok (.aload_n 0, 1) := by decide +kernel
theorem dX5_common_409 : decode cX5_common 409 = .ok (.getfield 22, 3) := by decide +kernel
theorem dX5_common_412 : decode cX5_common 412 = .ok (.iload 9, 2) := by decide +kernel
theorem dX5_common_414 : decode cX5_common 414 = .ok (.iaload, 1) := by decide +kernel
theorem dX5_common_415 : decode cX5_common 415 = .ok (.goto 10, 3) := by decide +kernel
theorem dX5_common_418 : decode cX5_common 418 = .ok (.aload_n 0, 1) := by decide +kernel
theorem dX5_common_419 : decode cX5_common 419 = .ok (.getfield 25, 3) := by decide +kernel
theorem dX5_common_422 : decode cX5_common 422 = .ok (.iload 9, 2) := by decide +kernel
theorem dX5_common_424 : decode cX5_common 424 = .ok (.iaload, 1) := by decide +kernel
theorem dX5_common_425 : decode cX5_common 425 = .ok (.iastore, 1) := by decide +kernel
theorem dX5_common_426 : decode cX5_common 426 = .ok (.iinc 9 1, 3) := by decide +kernel
theorem dX5_common_429 : decode cX5_common 429 = .ok (.goto (-39), 3) := by decide +kernel
theorem dX5_common_432 : decode cX5_common 432 = .ok (.iconst 0, 1) := by decide +kernel
theorem dX5_common_433 : decode cX5_common 433 = .ok (.istore 9, 2) := by decide +kernel
theorem dX5_common_435 : decode cX5_common 435 = .ok (.aload_n 0, 1) := by decide +kernel
theorem dX5_common_436 : decode cX5_common 436 = .ok (.getfield 28, 3) := by decide +kernel
theorem dX5_common_439 : decode cX5_common 439 = .ok (.iload 9, 2) := by decide +kernel
theorem dX5_common_441 : decode cX5_common 441 = .ok (.iaload, 1) := by decide +kernel
theorem dX5_common_442 : decode cX5_common 442 = .ok (.ifCond .ne 9, 3) := by decide +kernel
theorem dX5_common_445 : decode cX5_common 445 = .ok (.iinc 9 1, 3) := by decide +kernel
theorem dX5_common_448 : decode cX5_common 448 = .ok (.goto (-13), 3) := by decide +kernel
theorem dX5_common_451 : decode cX5_common 451 = .ok (.aload_n 0, 1) := by decide +kernel
theorem dX5_common_452 : decode cX5_common 452 = .ok (.getfield 28, 3) := by decide +kernel
theorem dX5_common_455 : decode cX5_common 455 = .ok (.iload 9, 2) := by decide +kernel
theorem dX5_common_457 : decode cX5_common 457 = .ok (.iaload, 1) := by decide +kernel
theorem dX5_common_458 : decode cX5_common 458 = .ok (.invokestatic 133, 3) := by decide +kernel
theorem dX5_common_461 : decode cX5_common 461 = .ok (.istore 10, 2) := by decide +kernel
theorem dX5_common_463 : decode cX5_common 463 = .ok (.iconst 0, 1) := by decide +kernel
theorem dX5_common_464 : decode cX5_common 464 = .ok (.istore 11, 2) := by decide +kernel
theorem dX5_common_466 : decode cX5_common 466 = .ok (.iload 11, 2) := by decide +kernel
theorem dX5_common_468 : decode cX5_common 468 = .ok (.aload_n 0, 1) := by decide +kernel
theorem dX5_common_469 : decode cX5_common 469 = .ok (.getfield 87, 3) := by decide +kernel
theorem dX5_common_472 : decode cX5_common 472 = .ok (.if_icmp .gt 28, 3) := by decide +kernel
theorem dX5_common_475 : decode cX5_common 475 = .ok (.aload_n 0, 1) := by decide +kernel
theorem dX5_common_476 : decode cX5_common 476 = .ok (.getfield 28, 3) := by decide +kernel
theorem dX5_common_479 : decode cX5_common 479 = .ok (.iload 11, 2) := by decide +kernel
theorem dX5_common_481 : decode cX5_common 481 = .ok (.aload_n 0, 1) := by decide +kernel
theorem dX5_common_482 : decode cX5_common 482 = .ok (.getfield 28, 3) := by decide +kernel
theorem dX5_common_485 : decode cX5_common 485 = .ok (.iload 11, 2) := by decide +kernel
theorem dX5_common_487 : decode cX5_common 487 = .ok (.iaload, 1) := by decide +kernel
theorem dX5_common_488 : decode cX5_common 488 = .ok (.iload 10, 2) := by decide +kernel
theorem dX5_common_490 : decode cX5_common 490 = .ok (.invokestatic 52, 3) := by decide +kernel
theorem dX5_common_493 : decode cX5_common 493 = .ok (.iastore, 1) := by decide +kernel
theorem dX5_common_494 : decode cX5_common 494 = .ok (.iinc 11 1, 3) := by decide +kernel
theorem dX5_common_497 : decode cX5_common 497 = .ok (.goto (-31), 3) := by decide +kernel
theorem dX5_common_500 : decode cX5_common 500 = .ok (.aload_n 0, 1) := by decide +kernel
theorem dX5_common_501 : decode cX5_common 501 = .ok (.iload_n 3, 1) := by decide +kernel
theorem dX5_common_502 : decode cX5_common 502 = .ok (.invokevirtual 116, 3) := by decide +kernel
theorem dX5_common_505 : decode cX5_common 505 = .ok (.ireturn, 1) := by decide +kernel
theorem dX5_eliminate_0 : decode cX5_eliminate 0 = .ok (.aload_n 0, 1) := by decide +kernel
theorem dX5_eliminate_1 : decode cX5_eliminate 1 = .ok (.iconst 1, 1) := by decide +kernel
theorem dX5_eliminate_2 : decode cX5_eliminate 2 = .ok (.putfield 149, 3) := by decide +kernel
theorem dX5_eliminate_5 : decode cX5_eliminate 5 = .ok (.iconst 0, 1) := by decide +kernel
theorem dX5_eliminate_6 : decode cX5_eliminate 6 = .ok (.istore_n 3, 1) := by decide +kernel
theorem dX5_eliminate_7 : decode cX5_eliminate 7 = .ok (.iconst 0, 1) := by decide +kernel
theorem dX5_eliminate_8 : decode cX5_eliminate 8 = .ok (.istore 4, 2) := by decide +kernel
theorem dX5_eliminate_10 : decode cX5_eliminate 10 = .ok (.iload 4, 2) := by decide +kernel
theorem dX5_eliminate_12 : decode cX5_eliminate 12 = .ok (.iload_n 2, 1) := by decide +kernel
theorem dX5_eliminate_13 : decode cX5_eliminate 13 = .ok (.if_icmp .ge 291, 3) := by decide +kernel
theorem dX5_eliminate_16 : decode cX5_eliminate 16 = .ok (.iload_n 3, 1) := by decide +kernel
theorem dX5_eliminate_17 : decode cX5_eliminate 17 = .ok (.istore 5, 2) := by decide +kernel
theorem dX5_eliminate_19 : decode cX5_eliminate 19 = .ok (.iload 5, 2) := by decide +kernel
theorem dX5_eliminate_21 : decode cX5_eliminate 21 = .ok (.iload_n 1, 1) := by decide +kernel
theorem dX5_eliminate_22 : decode cX5_eliminate 22 = .ok (.if_icmp .ge 25, 3) := by decide +kernel
theorem dX5_eliminate_25 : decode cX5_eliminate 25 = .ok (.aload_n 0, 1) := by decide +kernel
theorem dX5_eliminate_26 : decode cX5_eliminate 26 = .ok (.getfield 34, 3) := by decide +kernel
theorem dX5_eliminate_29 : decode cX5_eliminate 29 = .ok (.bipush 18, 2) := by decide +kernel
theorem dX5_eliminate_31 : decode cX5_eliminate 31 = .ok (.iload 5, 2) := by decide +kernel
theorem dX5_eliminate_33 : decode cX5_eliminate 33 = .ok (.imul, 1) := by decide +kernel
theorem dX5_eliminate_34 : decode cX5_eliminate 34 = .ok (.iload 4, 2) := by decide +kernel
theorem dX5_eliminate_36 : decode cX5_eliminate 36 = .ok (.iadd, 1) := by decide +kernel
theorem dX5_eliminate_37 : decode cX5_eliminate 37 = .ok (.iaload, 1) := by decide +kernel
theorem dX5_eliminate_38 : decode cX5_eliminate 38 = .ok (.ifCond .ne 9, 3) := by decide +kernel
theorem dX5_eliminate_41 : decode cX5_eliminate 41 = .ok (.iinc 5 1, 3) := by decide +kernel
theorem dX5_eliminate_44 : decode cX5_eliminate 44 = .ok (.goto (-25), 3) := by decide +kernel
theorem dX5_eliminate_47 : decode cX5_eliminate 47 = .ok (.iload 5, 2) := by decide +kernel
theorem dX5_eliminate_49 : decode cX5_eliminate 49 = .ok (.iload_n 1, 1) := by decide +kernel
theorem dX5_eliminate_50 : decode cX5_eliminate 50 = .ok (.if_icmp .ne 11, 3) := by decide +kernel
theorem dX5_eliminate_53 : decode cX5_eliminate 53 = .ok (.aload_n 0, 1) := by decide +kernel
theorem dX5_eliminate_54 : decode cX5_eliminate 54 = .ok (.iconst 0, 1) := by decide +kernel
theorem dX5_eliminate_55 : decode cX5_eliminate 55 = .ok (.putfield 149, 3) := by decide +kernel
theorem dX5_eliminate_58 : decode cX5_eliminate 58 = .ok (.goto 240, 3) := by decide +kernel
theorem dX5_eliminate_61 : decode cX5_eliminate 61 = .ok (.iload 5, 2) := by decide +kernel
theorem dX5_eliminate_63 : decode cX5_eliminate 63 = .ok (.iload_n 3, 1) := by decide +kernel
theorem dX5_eliminate_64 : decode cX5_eliminate 64 = .ok (.if_icmp .eq 85, 3) := by decide +kernel
theorem dX5_eliminate_67 : decode cX5_eliminate 67 = .ok (.aload_n 0, 1) := by decide +kernel
theorem dX5_eliminate_68 : decode cX5_eliminate 68 = .ok (.aload_n 0, 1) := by decide +kernel
theorem dX5_eliminate_69 : decode cX5_eliminate 69 = .ok (.getfield 149, 3) := by decide +kernel
theorem dX5_eliminate_72 : decode cX5_eliminate 72 = .ok (.ineg, 1) := by decide +kernel
theorem dX5_eliminate_73 : decode cX5_eliminate 73 = .ok (.i2l, 1) := by decide +kernel
theorem dX5_eliminate_74 : decode cX5_eliminate 74 = .ok (.invokestatic 48, 3) := by decide +kernel
theorem dX5_eliminate_77 : decode cX5_eliminate 77 = .ok (.putfield 149, 3) := by decide +kernel
theorem dX5_eliminate_80 : decode cX5_eliminate 80 = .ok (.iconst 0, 1) := by decide +kernel
theorem dX5_eliminate_81 : decode cX5_eliminate 81 = .ok (.istore 6, 2) := by decide +kernel
theorem dX5_eliminate_83 : decode cX5_eliminate 83 = .ok (.iload 6, 2) := by decide +kernel
theorem dX5_eliminate_85 : decode cX5_eliminate 85 = .ok (.iload_n 2, 1) := by decide +kernel
theorem dX5_eliminate_86 : decode cX5_eliminate 86 = .ok (.if_icmp .ge 63, 3) := by decide +kernel
theorem dX5_eliminate_89 : decode cX5_eliminate 89 = .ok (.aload_n 0, 1) := by decide +kernel
theorem dX5_eliminate_90 : decode cX5_eliminate 90 = .ok (.getfield 34, 3) := by decide +kernel
theorem dX5_eliminate_93 : decode cX5_eliminate 93 = .ok (.bipush 18, 2) := by decide +kernel
theorem dX5_eliminate_95 : decode cX5_eliminate 95 = .ok (.iload 5, 2) := by decide +kernel
theorem dX5_eliminate_97 : decode cX5_eliminate 97 = .ok (.imul, 1) := by decide +kernel
theorem dX5_eliminate_98 : decode cX5_eliminate 98 = .ok (.iload 6, 2) := by decide +kernel
theorem dX5_eliminate_100 : decode cX5_eliminate 100 = .ok (.iadd, 1) := by decide +kernel
theorem dX5_eliminate_101 : decode cX5_eliminate 101 = .ok (.iaload, 1) := by decide +kernel
theorem dX5_eliminate_102 : decode cX5_eliminate 102 = .ok (.istore 7, 2) := by decide +kernel
theorem dX5_eliminate_104 : decode cX5_eliminate 104 = .ok (.aload_n 0, 1) := by decide +kernel
theorem dX5_eliminate_105 : decode cX5_eliminate 105 = .ok (.getfield 34, 3) := by decide +kernel
theorem dX5_eliminate_108 : decode cX5_eliminate 108 = .ok (.bipush 18, 2) := by decide +kernel
theorem dX5_eliminate_110 : decode cX5_eliminate 110 = .ok (.iload 5, 2) := by decide +kernel
theorem dX5_eliminate_112 : decode cX5_eliminate 112 = .ok (.imul, 1) := by decide +kernel
theorem dX5_eliminate_113 : decode cX5_eliminate 113 = .ok (.iload 6, 2) := by decide +kernel
theorem dX5_eliminate_115 : decode cX5_eliminate 115 = .ok (.iadd, 1) := by decide +kernel
theorem dX5_eliminate_116 : decode cX5_eliminate 116 = .ok (.aload_n 0, 1) := by decide +kernel
theorem dX5_eliminate_117 : decode cX5_eliminate 117 = .ok (.getfield 34, 3) := by decide +kernel
theorem dX5_eliminate_120 : decode cX5_eliminate 120 = .ok (.bipush 18, 2) := by decide +kernel
theorem dX5_eliminate_122 : decode cX5_eliminate 122 = .ok (.iload_n 3, 1) := by decide +kernel
theorem dX5_eliminate_123 : decode cX5_eliminate 123 = .ok (.imul, 1) := by decide +kernel
theorem dX5_eliminate_124 : decode cX5_eliminate 124 = .ok (.iload 6, 2) := by decide +kernel
theorem dX5_eliminate_126 : decode cX5_eliminate 126 = .ok (.iadd, 1) := by decide +kernel
theorem dX5_eliminate_127 : decode cX5_eliminate 127 = .ok (.iaload, 1) := by decide +kernel
theorem dX5_eliminate_128 : decode cX5_eliminate 128 = .ok (.iastore, 1) := by decide +kernel
theorem dX5_eliminate_129 : decode cX5_eliminate 129 = .ok (.aload_n 0, 1) := by decide +kernel
theorem dX5_eliminate_130 : decode cX5_eliminate 130 = .ok (.getfield 34, 3) := by decide +kernel
theorem dX5_eliminate_133 : decode cX5_eliminate 133 = .ok (.bipush 18, 2) := by decide +kernel
theorem dX5_eliminate_135 : decode cX5_eliminate 135 = .ok (.iload_n 3, 1) := by decide +kernel
theorem dX5_eliminate_136 : decode cX5_eliminate 136 = .ok (.imul, 1) := by decide +kernel
theorem dX5_eliminate_137 : decode cX5_eliminate 137 = .ok (.iload 6, 2) := by decide +kernel
theorem dX5_eliminate_139 : decode cX5_eliminate 139 = .ok (.iadd, 1) := by decide +kernel
theorem dX5_eliminate_140 : decode cX5_eliminate 140 = .ok (.iload 7, 2) := by decide +kernel
theorem dX5_eliminate_142 : decode cX5_eliminate 142 = .ok (.iastore, 1) := by decide +kernel
theorem dX5_eliminate_143 : decode cX5_eliminate 143 = .ok (.iinc 6 1, 3) := by decide +kernel
theorem dX5_eliminate_146 : decode cX5_eliminate 146 = .ok (.goto (-63), 3) := by decide +kernel
theorem dX5_eliminate_149 : decode cX5_eliminate 149 = .ok (.aload_n 0, 1) := by decide +kernel
theorem dX5_eliminate_150 : decode cX5_eliminate 150 = .ok (.aload_n 0, 1) := by decide +kernel
theorem dX5_eliminate_151 : decode cX5_eliminate 151 = .ok (.getfield 149, 3) := by decide +kernel
theorem dX5_eliminate_154 : decode cX5_eliminate 154 = .ok (.aload_n 0, 1) := by decide +kernel
theorem dX5_eliminate_155 : decode cX5_eliminate 155 = .ok (.getfield 34, 3) := by decide +kernel
theorem dX5_eliminate_158 : decode cX5_eliminate 158 = .ok (.bipush 18, 2) := by decide +kernel
theorem dX5_eliminate_160 : decode cX5_eliminate 160 = .ok (.iload_n 3, 1) := by decide +kernel
theorem dX5_eliminate_161 : decode cX5_eliminate 161 = .ok (.imul, 1) := by decide +kernel
theorem dX5_eliminate_162 : decode cX5_eliminate 162 = .ok (.iload 4, 2) := by decide +kernel
theorem dX5_eliminate_164 : decode cX5_eliminate 164 = .ok (.iadd, 1) := by decide +kernel
theorem dX5_eliminate_165 : decode cX5_eliminate 165 = .ok (.iaload, 1) := by decide +kernel
theorem dX5_eliminate_166 : decode cX5_eliminate 166 = .ok (.invokestatic 52, 3) := by decide +kernel
theorem dX5_eliminate_169 : decode cX5_eliminate 169 = .ok (.putfield 149, 3) := by decide +kernel
theorem dX5_eliminate_172 : decode cX5_eliminate 172 = .ok (.aload_n 0, 1) := by decide +kernel
theorem dX5_eliminate_173 : decode cX5_eliminate 173 = .ok (.getfield 34, 3) := by decide +kernel
theorem dX5_eliminate_176 : decode cX5_eliminate 176 = .ok (.bipush 18, 2) := by decide +kernel
theorem dX5_eliminate_178 : decode cX5_eliminate 178 = .ok (.iload_n 3, 1) := by decide +kernel
theorem dX5_eliminate_179 : decode cX5_eliminate 179 = .ok (.imul, 1) := by decide +kernel
theorem dX5_eliminate_180 : decode cX5_eliminate 180 = .ok (.iload 4, 2) := by decide +kernel
theorem dX5_eliminate_182 : decode cX5_eliminate 182 = .ok (.iadd, 1) := by decide +kernel
theorem dX5_eliminate_183 : decode cX5_eliminate 183 = .ok (.iaload, 1) := by decide +kernel
theorem dX5_eliminate_184 : decode cX5_eliminate 184 = .ok (.invokestatic 133, 3) := by decide +kernel
theorem dX5_eliminate_187 : decode cX5_eliminate 187 = .ok (.istore 6, 2) := by decide +kernel
theorem dX5_eliminate_189 : decode cX5_eliminate 189 = .ok (.iload_n 3, 1) := by decide +kernel
theorem dX5_eliminate_190 : decode cX5_eliminate 190 = .ok (.iconst 1, 1) := by decide +kernel
theorem dX5_eliminate_191 : decode cX5_eliminate 191 = .ok (.iadd, 1) := by decide +kernel
theorem dX5_eliminate_192 : decode cX5_eliminate 192 = .ok (.istore 7, 2) := by decide +kernel
theorem dX5_eliminate_194 : decode cX5_eliminate 194 = .ok (.iload 7, 2) := by decide +kernel
theorem dX5_eliminate_196 : decode cX5_eliminate 196 = .ok (.iload_n 1, 1) := by decide +kernel
theorem dX5_eliminate_197 : decode cX5_eliminate 197 = .ok (.if_icmp .ge 98, 3) := by decide +kernel
theorem dX5_eliminate_200 : decode cX5_eliminate 200 = .ok (.aload_n 0, 1) := by decide +kernel
theorem dX5_eliminate_201 : decode cX5_eliminate 201 = .ok (.getfield 34, 3) := by decide +kernel
theorem dX5_eliminate_204 : decode cX5_eliminate 204 = .ok (.bipush 18, 2) := by decide +kernel
theorem dX5_eliminate_206 : decode cX5_eliminate 206 = .ok (.iload 7, 2) := by decide +kernel
theorem dX5_eliminate_208 : decode cX5_eliminate 208 = .ok (.imul, 1) := by decide +kernel
theorem dX5_eliminate_209 : decode cX5_eliminate 209 = .ok (.iload 4, 2) := by decide +kernel
theorem dX5_eliminate_211 : decode cX5_eliminate 211 = .ok (.iadd, 1) := by decide +kernel
theorem dX5_eliminate_212 : decode cX5_eliminate 212 = .ok (.iaload, 1) := by decide +kernel
theorem dX5_eliminate_213 : decode cX5_eliminate 213 = .ok (.iload 6, 2) := by decide +kernel
theorem dX5_eliminate_215 : decode cX5_eliminate 215 = .ok (.invokestatic 52, 3) := by decide +kernel
theorem dX5_eliminate_218 : decode cX5_eliminate 218 = .ok (.istore 8, 2) := by decide +kernel
theorem dX5_eliminate_220 : decode cX5_eliminate 220 = .ok (.iload 4, 2) := by decide +kernel
theorem dX5_eliminate_222 : decode cX5_eliminate 222 = .ok (.istore 9, 2) := by decide +kernel
theorem dX5_eliminate_224 : decode cX5_eliminate 224 = .ok (.iload 9, 2) := by decide +kernel
theorem dX5_eliminate_226 : decode cX5_eliminate 226 = .ok (.iload_n 2, 1) := by decide +kernel
theorem dX5_eliminate_227 : decode cX5_eliminate 227 = .ok (.if_icmp .ge 62, 3) := by decide +kernel
theorem dX5_eliminate_230 : decode cX5_eliminate 230 = .ok (.iload 8, 2) := by decide +kernel
theorem dX5_eliminate_232 : decode cX5_eliminate 232 = .ok (.ifCond .eq 57, 3) := by decide +kernel
theorem dX5_eliminate_235 : decode cX5_eliminate 235 = .ok (.aload_n 0, 1) := by decide +kernel
theorem dX5_eliminate_236 : decode cX5_eliminate 236 = .ok (.getfield 34, 3) := by decide +kernel
theorem dX5_eliminate_239 : decode cX5_eliminate 239 = .ok (.bipush 18, 2) := by decide +kernel
theorem dX5_eliminate_241 : decode cX5_eliminate 241 = .ok (.iload 7, 2) := by decide +kernel
theorem dX5_eliminate_243 : decode cX5_eliminate 243 = .ok (.imul, 1) := by decide +kernel
theorem dX5_eliminate_244 : decode cX5_eliminate 244 = .ok (.iload 9, 2) := by decide +kernel
theorem dX5_eliminate_246 : decode cX5_eliminate 246 = .ok (.iadd, 1) := by decide +kernel
theorem dX5_eliminate_247 : decode cX5_eliminate 247 = .ok (.aload_n 0, 1) := by decide +kernel
theorem dX5_eliminate_248 : decode cX5_eliminate 248 = .ok (.getfield 34, 3) := by decide +kernel
theorem dX5_eliminate_251 : decode cX5_eliminate 251 = .ok (.bipush 18, 2) := by decide +kernel
theorem dX5_eliminate_253 : decode cX5_eliminate 253 = .ok (.iload 7, 2) := by decide +kernel
theorem dX5_eliminate_255 : decode cX5_eliminate 255 = .ok (.imul, 1) := by decide +kernel
theorem dX5_eliminate_256 : decode cX5_eliminate 256 = .ok (.iload 9, 2) := by decide +kernel
theorem dX5_eliminate_258 : decode cX5_eliminate 258 = .ok (.iadd, 1) := by decide +kernel
theorem dX5_eliminate_259 : decode cX5_eliminate 259 = .ok (.iaload, 1) := by decide +kernel
theorem dX5_eliminate_260 : decode cX5_eliminate 260 = .ok (.i2l, 1) := by decide +kernel
theorem dX5_eliminate_261 : decode cX5_eliminate 261 = .ok (.iload 8, 2) := by decide +kernel
theorem dX5_eliminate_263 : decode cX5_eliminate 263 = .ok (.i2l, 1) := by decide +kernel
theorem dX5_eliminate_264 : decode cX5_eliminate 264 = .ok (.aload_n 0, 1) := by decide +kernel
theorem dX5_eliminate_265 : decode cX5_eliminate 265 = .ok (.getfield 34, 3) := by decide +kernel
theorem dX5_eliminate_268 : decode cX5_eliminate 268 = .ok (.bipush 18, 2) := by decide +kernel
theorem dX5_eliminate_270 : decode cX5_eliminate 270 = .ok (.iload_n 3, 1) := by decide +kernel
theorem dX5_eliminate_271 : decode cX5_eliminate 271 = .ok (.imul, 1) := by decide +kernel
theorem dX5_eliminate_272 : decode cX5_eliminate 272 = .ok (.iload 9, 2) := by decide +kernel
theorem dX5_eliminate_274 : decode cX5_eliminate 274 = .ok (.iadd, 1) := by decide +kernel
theorem dX5_eliminate_275 : decode cX5_eliminate 275 = .ok (.iaload, 1) := by decide +kernel
theorem dX5_eliminate_276 : decode cX5_eliminate 276 = .ok (.i2l, 1) := by decide +kernel
theorem dX5_eliminate_277 : decode cX5_eliminate 277 = .ok (.lmul, 1) := by decide +kernel
theorem dX5_eliminate_278 : decode cX5_eliminate 278 = .ok (.lsub, 1) := by decide +kernel
theorem dX5_eliminate_279 : decode cX5_eliminate 279 = .ok (.invokestatic 48, 3) := by decide +kernel
theorem dX5_eliminate_282 : decode cX5_eliminate 282 = .ok (.iastore, 1) := by decide +kernel
theorem dX5_eliminate_283 : decode cX5_eliminate 283 = .ok (.iinc 9 1, 3) := by decide +kernel
theorem dX5_eliminate_286 : decode cX5_eliminate 286 = .ok (.goto (-62), 3) := by decide +kernel
theorem dX5_eliminate_289 : decode cX5_eliminate 289 = .ok (.iinc 7 1, 3) := by decide +kernel
theorem dX5_eliminate_292 : decode cX5_eliminate 292 = .ok (.goto (-98), 3) := by decide +kernel
theorem dX5_eliminate_295 : decode cX5_eliminate 295 = .ok (.iinc 3 1, 3) := by decide +kernel
theorem dX5_eliminate_298 : decode cX5_eliminate 298 = .ok (.iinc 4 1, 3) := by decide +kernel
theorem dX5_eliminate_301 : decode cX5_eliminate 301 = .ok (.goto (-291), 3) := by decide +kernel
theorem dX5_eliminate_304 : decode cX5_eliminate 304 = .ok (.iload_n 3, 1) := by decide +kernel
theorem dX5_eliminate_305 : decode cX5_eliminate 305 = .ok (.ireturn, 1) := by decide +kernel
theorem dX5_result_0 : decode cX5_result 0 = .ok (.iload_n 1, 1) := by decide +kernel
theorem dX5_result_1 : decode cX5_result 1 = .ok (.invokestatic 66, 3) := by decide +kernel
theorem dX5_result_4 : decode cX5_result 4 = .ok (.ifCond .eq 10, 3) := by decide +kernel
theorem dX5_result_7 : decode cX5_result 7 = .ok (.iload_n 2, 1) := by decide +kernel
theorem dX5_result_8 : decode cX5_result 8 = .ok (.invokestatic 66, 3) := by decide +kernel
theorem dX5_result_11 : decode cX5_result 11 = .ok (.ifCond .ne 6, 3) := by decide +kernel
theorem dX5_result_14 : decode cX5_result 14 = .ok (.bipush (-2), 2) := by decide +kernel
theorem dX5_result_16 : decode cX5_result 16 = .ok (.ireturn, 1) := by decide +kernel
theorem dX5_result_17 : decode cX5_result 17 = .ok (.aload_n 0, 1) := by decide +kernel
theorem dX5_result_18 : decode cX5_result 18 = .ok (.iload_n 1, 1) := by decide +kernel
theorem dX5_result_19 : decode cX5_result 19 = .ok (.iload_n 2, 1) := by decide +kernel
theorem dX5_result_20 : decode cX5_result 20 = .ok (.invokevirtual 110, 3) := by decide +kernel
theorem dX5_result_23 : decode cX5_result 23 = .ok (.istore_n 3, 1) := by decide +kernel
theorem dX5_result_24 : decode cX5_result 24 = .ok (.iload_n 3, 1) := by decide +kernel
theorem dX5_result_25 : decode cX5_result 25 = .ok (.ifCond .eq 5, 3) := by decide +kernel
theorem dX5_result_28 : decode cX5_result 28 = .ok (.iload_n 3, 1) := by decide +kernel
theorem dX5_result_29 : decode cX5_result 29 = .ok (.ireturn, 1) := by decide +kernel
theorem dX5_result_30 : decode cX5_result 30 = .ok (.aload_n 0, 1) := by decide +kernel
theorem dX5_result_31 : decode cX5_result 31 = .ok (.getfield 81, 3) := by decide +kernel
theorem dX5_result_34 : decode cX5_result 34 = .ok (.ifCond .eq 10, 3) := by decide +kernel
theorem dX5_result_37 : decode cX5_result 37 = .ok (.aload_n 0, 1) := by decide +kernel
theorem dX5_result_38 : decode cX5_result 38 = .ok (.getfield 84, 3) := by decide +kernel
theorem dX5_result_41 : decode cX5_result 41 = .ok (.ifCond .ne 6, 3) := by decide +kernel
theorem dX5_result_44 : decode cX5_result 44 = .ok (.bipush (-3), 2) := by decide +kernel
theorem dX5_result_46 : decode cX5_result 46 = .ok (.ireturn, 1) := by decide +kernel
theorem dX5_result_47 : decode cX5_result 47 = .ok (.aload_n 0, 1) := by decide +kernel
theorem dX5_result_48 : decode cX5_result 48 = .ok (.getfield 81, 3) := by decide +kernel
theorem dX5_result_51 : decode cX5_result 51 = .ok (.aload_n 0, 1) := by decide +kernel
theorem dX5_result_52 : decode cX5_result 52 = .ok (.getfield 84, 3) := by decide +kernel
theorem dX5_result_55 : decode cX5_result 55 = .ok (.iadd, 1) := by decide +kernel
theorem dX5_result_56 : decode cX5_result 56 = .ok (.istore 4, 2) := by decide +kernel
theorem dX5_result_58 : decode cX5_result 58 = .ok (.iconst 0, 1) := by decide +kernel
theorem dX5_result_59 : decode cX5_result 59 = .ok (.istore 5, 2) := by decide +kernel
theorem dX5_result_61 : decode cX5_result 61 = .ok (.iload 5, 2) := by decide +kernel
theorem dX5_result_63 : decode cX5_result 63 = .ok (.iload 4, 2) := by decide +kernel
theorem dX5_result_65 : decode cX5_result 65 = .ok (.if_icmp .ge 128, 3) := by decide +kernel
theorem dX5_result_68 : decode cX5_result 68 = .ok (.iconst 0, 1) := by decide +kernel
theorem dX5_result_69 : decode cX5_result 69 = .ok (.istore 6, 2) := by decide +kernel
theorem dX5_result_71 : decode cX5_result 71 = .ok (.iload 6, 2) := by decide +kernel
theorem dX5_result_73 : decode cX5_result 73 = .ok (.iload 4, 2) := by decide +kernel
theorem dX5_result_75 : decode cX5_result 75 = .ok (.if_icmp .ge 112, 3) := by decide +kernel
theorem dX5_result_78 : decode cX5_result 78 = .ok (.iload 5, 2) := by decide +kernel
theorem dX5_result_80 : decode cX5_result 80 = .ok (.aload_n 0, 1) := by decide +kernel
theorem dX5_result_81 : decode cX5_result 81 = .ok (.getfield 84, 3) := by decide +kernel
theorem dX5_result_84 : decode cX5_result 84 = .ok (.if_icmp .ge 11, 3) := by decide +kernel
theorem dX5_result_87 : decode cX5_result 87 = .ok (.iload 6, 2) := by decide +kernel
theorem dX5_result_89 : decode cX5_result 89 = .ok (.iload 5, 2) := by decide +kernel
theorem dX5_result_91 : decode cX5_result 91 = .ok (.isub, 1) := by decide +kernel
theorem dX5_result_92 : decode cX5_result 92 = .ok (.goto 13, 3) := by decide +kernel
theorem dX5_result_95 : decode cX5_result 95 = .ok (.iload 6, 2) := by decide +kernel
theorem dX5_result_97 : decode cX5_result 97 = .ok (.iload 5, 2) := by decide +kernel
theorem dX5_result_99 : decode cX5_result 99 = .ok (.aload_n 0, 1) := by decide +kernel
theorem dX5_result_100 : decode cX5_result 100 = .ok (.getfield 84, 3) := by decide +kernel
theorem dX5_result_103 : decode cX5_result 103 = .ok (.isub, 1) := by decide +kernel
theorem dX5_result_104 : decode cX5_result 104 = .ok (.isub, 1) := by decide +kernel
theorem dX5_result_105 : decode cX5_result 105 = .ok (.istore 7, 2) := by decide +kernel
theorem dX5_result_107 : decode cX5_result 107 = .ok (.aload_n 0, 1) := by decide +kernel
theorem dX5_result_108 : decode cX5_result 108 = .ok (.getfield 34, 3) := by decide +kernel
theorem dX5_result_111 : decode cX5_result 111 = .ok (.bipush 18, 2) := by decide +kernel
theorem dX5_result_113 : decode cX5_result 113 = .ok (.iload 5, 2) := by decide +kernel
theorem dX5_result_115 : decode cX5_result 115 = .ok (.imul, 1) := by decide +kernel
theorem dX5_result_116 : decode cX5_result 116 = .ok (.iload 6, 2) := by decide +kernel
theorem dX5_result_118 : decode cX5_result 118 = .ok (.iadd, 1) := by decide +kernel
theorem dX5_result_119 : decode cX5_result 119 = .ok (.iload 7, 2) := by decide +kernel
theorem dX5_result_121 : decode cX5_result 121 = .ok (.ifCond .ge 7, 3) := by decide +kernel
theorem dX5_result_124 : decode cX5_result 124 = .ok (.iconst 0, 1) := by decide +kernel
theorem dX5_result_125 : decode cX5_result 125 = .ok (.goto 55, 3) := by decide +kernel
theorem dX5_result_128 : decode cX5_result 128 = .ok (.iload 5, 2) := by decide +kernel
theorem dX5_result_130 : decode cX5_result 130 = .ok (.aload_n 0, 1) := by decide +kernel
theorem dX5_result_131 : decode cX5_result 131 = .ok (.getfield 84, 3) := by decide +kernel
theorem dX5_result_134 : decode cX5_result 134 = .ok (.if_icmp .ge 26, 3) := by decide +kernel
theorem dX5_result_137 : decode cX5_result 137 = .ok (.iload 7, 2) := by decide +kernel
theorem dX5_result_139 : decode cX5_result 139 = .ok (.aload_n 0, 1) := by decide +kernel
theorem dX5_result_140 : decode cX5_result 140 = .ok (.getfield 81, 3) := by decide +kernel
theorem dX5_result_143 : decode cX5_result 143 = .ok (.if_icmp .gt 13, 3) := by decide +kernel
theorem dX5_result_146 : decode cX5_result 146 = .ok (.aload_n 0, 1) := by decide +kernel
theorem dX5_result_147 : decode cX5_result 147 = .ok (.getfield 22, 3) := by decide +kernel
theorem dX5_result_150 : decode cX5_result 150 = .ok (.iload 7, 2) := by decide +kernel
theorem dX5_result_152 : decode cX5_result 152 = .ok (.iaload, 1) := by decide +kernel
theorem dX5_result_153 : decode cX5_result 153 = .ok (.goto 27, 3) := by decide +kernel
theorem dX5_result_156 : decode cX5_result 156 = .ok (.iconst 0, 1) := by decide +kernel
theorem dX5_result_157 : decode cX5_result 157 = .ok (.goto 23, 3) := by decide +kernel
theorem dX5_result_160 : decode cX5_result 160 = .ok (.iload 7, 2) := by decide +kernel
theorem dX5_result_162 : decode cX5_result 162 = .ok (.aload_n 0, 1) := by decide +kernel
theorem dX5_result_163 : decode cX5_result 163 = .ok (.getfield 84, 3) := by decide +kernel
theorem dX5_result_166 : decode cX5_result 166 = .ok (.if_icmp .gt 13, 3) := by decide +kernel
theorem dX5_result_169 : decode cX5_result 169 = .ok (.aload_n 0, 1) := by decide +kernel
theorem dX5_result_170 : decode cX5_result 170 = .ok (.getfield 25, 3) := by decide +kernel
theorem dX5_result_173 : decode cX5_result 173 = .ok (.iload 7, 2) := by decide +kernel
theorem dX5_result_175 : decode cX5_result 175 = .ok (.iaload, 1) := by decide +kernel
theorem dX5_result_176 : decode cX5_result 176 = .ok (.goto 4, 3) := by decide +kernel
theorem dX5_result_179 : decode cX5_result 179 = .ok (.iconst 0, 1) := by decide +kernel
theorem dX5_result_180 : decode cX5_result 180 = .ok (.iastore, 1) := by decide +kernel
theorem dX5_result_181 : decode cX5_result 181 = .ok (.iinc 6 1, 3) := by decide +kernel
theorem dX5_result_184 : decode cX5_result 184 = .ok (.goto (-113), 3) := by decide +kernel
theorem dX5_result_187 : decode cX5_result 187 = .ok (.iinc 5 1, 3) := by decide +kernel
theorem dX5_result_190 : decode cX5_result 190 = .ok (.goto (-129), 3) := by decide +kernel
theorem dX5_result_193 : decode cX5_result 193 = .ok (.aload_n 0, 1) := by decide +kernel
theorem dX5_result_194 : decode cX5_result 194 = .ok (.iload 4, 2) := by decide +kernel
theorem dX5_result_196 : decode cX5_result 196 = .ok (.iload 4, 2) := by decide +kernel
theorem dX5_result_198 : decode cX5_result 198 = .ok (.invokevirtual 152, 3) := by decide +kernel
theorem dX5_result_201 : decode cX5_result 201 = .ok (.istore 5, 2) := by decide +kernel
theorem dX5_result_203 : decode cX5_result 203 = .ok (.aload_n 0, 1) := by decide +kernel
theorem dX5_result_204 : decode cX5_result 204 = .ok (.getfield 149, 3) := by decide +kernel
theorem dX5_result_207 : decode cX5_result 207 = .ok (.ireturn, 1) := by decide +kernel
theorem dX5_raised_0 : decode cX5_raised 0 = .ok (.iconst 1, 1) := by decide +kernel
theorem dX5_raised_1 : decode cX5_raised 1 = .ok (.istore_n 2, 1) := by decide +kernel
theorem dX5_raised_2 : decode cX5_raised 2 = .ok (.iconst 0, 1) := by decide +kernel
theorem dX5_raised_3 : decode cX5_raised 3 = .ok (.istore_n 3, 1) := by decide +kernel
theorem dX5_raised_4 : decode cX5_raised 4 = .ok (.iload_n 3, 1) := by decide +kernel
theorem dX5_raised_5 : decode cX5_raised 5 = .ok (.iload_n 1, 1) := by decide +kernel
theorem dX5_raised_6 : decode cX5_raised 6 = .ok (.if_icmp .ge 15, 3) := by decide +kernel
theorem dX5_raised_9 : decode cX5_raised 9 = .ok (.iload_n 2, 1) := by decide +kernel
theorem dX5_raised_10 : decode cX5_raised 10 = .ok (.iload_n 0, 1) := by decide +kernel
theorem dX5_raised_11 : decode cX5_raised 11 = .ok (.invokestatic 52, 3) := by decide +kernel
theorem dX5_raised_14 : decode cX5_raised 14 = .ok (.istore_n 2, 1) := by decide +kernel
theorem dX5_raised_15 : decode cX5_raised 15 = .ok (.iinc 3 1, 3) := by decide +kernel
theorem dX5_raised_18 : decode cX5_raised 18 = .ok (.goto (-14), 3) := by decide +kernel
theorem dX5_raised_21 : decode cX5_raised 21 = .ok (.iload_n 2, 1) := by decide +kernel
theorem dX5_raised_22 : decode cX5_raised 22 = .ok (.ireturn, 1) := by decide +kernel
theorem dX5_powers_0 : decode cX5_powers 0 = .ok (.iload_n 1, 1) := by decide +kernel
theorem dX5_powers_1 : decode cX5_powers 1 = .ok (.invokestatic 66, 3) := by decide +kernel
theorem dX5_powers_4 : decode cX5_powers 4 = .ok (.ifCond .eq 30, 3) := by decide +kernel
theorem dX5_powers_7 : decode cX5_powers 7 = .ok (.iload_n 2, 1) := by decide +kernel
theorem dX5_powers_8 : decode cX5_powers 8 = .ok (.invokestatic 66, 3) := by decide +kernel
theorem dX5_powers_11 : decode cX5_powers 11 = .ok (.ifCond .eq 23, 3) := by decide +kernel
theorem dX5_powers_14 : decode cX5_powers 14 = .ok (.iload_n 3, 1) := by decide +kernel
theorem dX5_powers_15 : decode cX5_powers 15 = .ok (.i2l, 1) := by decide +kernel
theorem dX5_powers_16 : decode cX5_powers 16 = .ok (.lconst 1, 1) := by decide +kernel
theorem dX5_powers_17 : decode cX5_powers 17 = .ok (.ldc2_w 60, 3) := by decide +kernel
theorem dX5_powers_20 : decode cX5_powers 20 = .ok (.invokestatic 62, 3) := by decide +kernel
theorem dX5_powers_23 : decode cX5_powers 23 = .ok (.ifCond .eq 11, 3) := by decide +kernel
theorem dX5_powers_26 : decode cX5_powers 26 = .ok (.iload 4, 2) := by decide +kernel
theorem dX5_powers_28 : decode cX5_powers 28 = .ok (.invokestatic 66, 3) := by decide +kernel
theorem dX5_powers_31 : decode cX5_powers 31 = .ok (.ifCond .ne 6, 3) := by decide +kernel
theorem dX5_powers_34 : decode cX5_powers 34 = .ok (.bipush (-2), 2) := by decide +kernel
theorem dX5_powers_36 : decode cX5_powers 36 = .ok (.ireturn, 1) := by decide +kernel
theorem dX5_powers_37 : decode cX5_powers 37 = .ok (.aload_n 0, 1) := by decide +kernel
theorem dX5_powers_38 : decode cX5_powers 38 = .ok (.getfield 7, 3) := by decide +kernel
theorem dX5_powers_41 : decode cX5_powers 41 = .ok (.iload_n 1, 1) := by decide +kernel
theorem dX5_powers_42 : decode cX5_powers 42 = .ok (.iaload, 1) := by decide +kernel
theorem dX5_powers_43 : decode cX5_powers 43 = .ok (.ifCond .lt 12, 3) := by decide +kernel
theorem dX5_powers_46 : decode cX5_powers 46 = .ok (.aload_n 0, 1) := by decide +kernel
theorem dX5_powers_47 : decode cX5_powers 47 = .ok (.getfield 7, 3) := by decide +kernel
theorem dX5_powers_50 : decode cX5_powers 50 = .ok (.iload_n 2, 1) := by decide +kernel
theorem dX5_powers_51 : decode cX5_powers 51 = .ok (.iaload, 1) := by decide +kernel
theorem dX5_powers_52 : decode cX5_powers 52 = .ok (.ifCond .ge 9, 3) := by decide +kernel
theorem dX5_powers_55 : decode cX5_powers 55 = .ok (.aload_n 0, 1) := by decide +kernel
theorem dX5_powers_56 : decode cX5_powers 56 = .ok (.iconst 1, 1) := by decide +kernel
theorem dX5_powers_57 : decode cX5_powers 57 = .ok (.invokevirtual 72, 3) := by decide +kernel
theorem dX5_powers_60 : decode cX5_powers 60 = .ok (.ireturn, 1) := by decide +kernel
theorem dX5_powers_61 : decode cX5_powers 61 = .ok (.aload_n 0, 1) := by decide +kernel
theorem dX5_powers_62 : decode cX5_powers 62 = .ok (.iload_n 1, 1) := by decide +kernel
theorem dX5_powers_63 : decode cX5_powers 63 = .ok (.invokevirtual 90, 3) := by decide +kernel
theorem dX5_powers_66 : decode cX5_powers 66 = .ok (.ifCond .eq 13, 3) := by decide +kernel
theorem dX5_powers_69 : decode cX5_powers 69 = .ok (.iload_n 3, 1) := by decide +kernel
theorem dX5_powers_70 : decode cX5_powers 70 = .ok (.aload_n 0, 1) := by decide +kernel
theorem dX5_powers_71 : decode cX5_powers 71 = .ok (.getfield 13, 3) := by decide +kernel
theorem dX5_powers_74 : decode cX5_powers 74 = .ok (.iload_n 1, 1) := by decide +kernel
theorem dX5_powers_75 : decode cX5_powers 75 = .ok (.iaload, 1) := by decide +kernel
theorem dX5_powers_76 : decode cX5_powers 76 = .ok (.if_icmp .le 6, 3) := by decide +kernel
theorem dX5_powers_79 : decode cX5_powers 79 = .ok (.bipush (-3), 2) := by decide +kernel
theorem dX5_powers_81 : decode cX5_powers 81 = .ok (.ireturn, 1) := by decide +kernel
theorem dX5_powers_82 : decode cX5_powers 82 = .ok (.aload_n 0, 1) := by decide +kernel
theorem dX5_powers_83 : decode cX5_powers 83 = .ok (.getfield 13, 3) := by decide +kernel
theorem dX5_powers_86 : decode cX5_powers 86 = .ok (.iload_n 2, 1) := by decide +kernel
theorem dX5_powers_87 : decode cX5_powers 87 = .ok (.iaload, 1) := by decide +kernel
theorem dX5_powers_88 : decode cX5_powers 88 = .ok (.iload_n 3, 1) := by decide +kernel
theorem dX5_powers_89 : decode cX5_powers 89 = .ok (.if_icmp .ge 9, 3) := by decide +kernel
theorem dX5_powers_92 : decode cX5_powers 92 = .ok (.aload_n 0, 1) := by decide +kernel
theorem dX5_powers_93 : decode cX5_powers 93 = .ok (.iconst 2, 1) := by decide +kernel
theorem dX5_powers_94 : decode cX5_powers 94 = .ok (.invokevirtual 72, 3) := by decide +kernel
theorem dX5_powers_97 : decode cX5_powers 97 = .ok (.ireturn, 1) := by decide +kernel
theorem dX5_powers_98 : decode cX5_powers 98 = .ok (.aload_n 0, 1) := by decide +kernel
theorem dX5_powers_99 : decode cX5_powers 99 = .ok (.iload_n 1, 1) := by decide +kernel
theorem dX5_powers_100 : decode cX5_powers 100 = .ok (.invokevirtual 93, 3) := by decide +kernel
theorem dX5_powers_103 : decode cX5_powers 103 = .ok (.iconst 0, 1) := by decide +kernel
theorem dX5_powers_104 : decode cX5_powers 104 = .ok (.istore 5, 2) := by decide +kernel
theorem dX5_powers_106 : decode cX5_powers 106 = .ok (.iload 5, 2) := by decide +kernel
theorem dX5_powers_108 : decode cX5_powers 108 = .ok (.iload_n 3, 1) := by decide +kernel
theorem dX5_powers_109 : decode cX5_powers 109 = .ok (.if_icmp .ge 68, 3) := by decide +kernel
theorem dX5_powers_112 : decode cX5_powers 112 = .ok (.aload_n 0, 1) := by decide +kernel
theorem dX5_powers_113 : decode cX5_powers 113 = .ok (.getfield 37, 3) := by decide +kernel
theorem dX5_powers_116 : decode cX5_powers 116 = .ok (.iload 5, 2) := by decide +kernel
theorem dX5_powers_118 : decode cX5_powers 118 = .ok (.aload_n 0, 1) := by decide +kernel
theorem dX5_powers_119 : decode cX5_powers 119 = .ok (.getfield 16, 3) := by decide +kernel
theorem dX5_powers_122 : decode cX5_powers 122 = .ok (.bipush 12, 2) := by decide +kernel
theorem dX5_powers_124 : decode cX5_powers 124 = .ok (.iload_n 2, 1) := by decide +kernel
theorem dX5_powers_125 : decode cX5_powers 125 = .ok (.imul, 1) := by decide +kernel
theorem dX5_powers_126 : decode cX5_powers 126 = .ok (.iload 5, 2) := by decide +kernel
theorem dX5_powers_128 : decode cX5_powers 128 = .ok (.iadd, 1) := by decide +kernel
theorem dX5_powers_129 : decode cX5_powers 129 = .ok (.iaload, 1) := by decide +kernel
theorem dX5_powers_130 : decode cX5_powers 130 = .ok (.i2l, 1) := by decide +kernel
theorem dX5_powers_131 : decode cX5_powers 131 = .ok (.invokestatic 48, 3) := by decide +kernel
theorem dX5_powers_134 : decode cX5_powers 134 = .ok (.iastore, 1) := by decide +kernel
theorem dX5_powers_135 : decode cX5_powers 135 = .ok (.iconst 0, 1) := by decide +kernel
theorem dX5_powers_136 : decode cX5_powers 136 = .ok (.istore 6, 2) := by decide +kernel
theorem dX5_powers_138 : decode cX5_powers 138 = .ok (.iload 6, 2) := by decide +kernel
theorem dX5_powers_140 : decode cX5_powers 140 = .ok (.iload 5, 2) := by decide +kernel
theorem dX5_powers_142 : decode cX5_powers 142 = .ok (.if_icmp .ge 29, 3) := by decide +kernel
theorem dX5_powers_145 : decode cX5_powers 145 = .ok (.aload_n 0, 1) := by decide +kernel
theorem dX5_powers_146 : decode cX5_powers 146 = .ok (.getfield 37, 3) := by decide +kernel
theorem dX5_powers_149 : decode cX5_powers 149 = .ok (.iload 6, 2) := by decide +kernel
theorem dX5_powers_151 : decode cX5_powers 151 = .ok (.iaload, 1) := by decide +kernel
theorem dX5_powers_152 : decode cX5_powers 152 = .ok (.aload_n 0, 1) := by decide +kernel
theorem dX5_powers_153 : decode cX5_powers 153 = .ok (.getfield 37, 3) := by decide +kernel
theorem dX5_powers_156 : decode cX5_powers 156 = .ok (.iload 5, 2) := by decide +kernel
theorem dX5_powers_158 : decode cX5_powers 158 = .ok (.iaload, 1) := by decide +kernel
theorem dX5_powers_159 : decode cX5_powers 159 = .ok (.if_icmp .ne 6, 3) := by decide +kernel
theorem dX5_powers_162 : decode cX5_powers 162 = .ok (.bipush (-3), 2) := by decide +kernel
theorem dX5_powers_164 : decode cX5_powers 164 = .ok (.ireturn, 1) := by decide +kernel
theorem dX5_powers_165 : decode cX5_powers 165 = .ok (.iinc 6 1, 3) := by decide +kernel
theorem dX5_powers_168 : decode cX5_powers 168 = .ok (.goto (-30), 3) := by decide +kernel
theorem dX5_powers_171 : decode cX5_powers 171 = .ok (.iinc 5 1, 3) := by decide +kernel
theorem dX5_powers_174 : decode cX5_powers 174 = .ok (.goto (-68), 3) := by decide +kernel
theorem dX5_powers_177 : decode cX5_powers 177 = .ok (.iconst 0, 1) := by decide +kernel
theorem dX5_powers_178 : decode cX5_powers 178 = .ok (.istore 5, 2) := by decide +kernel
theorem dX5_powers_180 : decode cX5_powers 180 = .ok (.iload 5, 2) := by decide +kernel
theorem dX5_powers_182 : decode cX5_powers 182 = .ok (.iload_n 3, 1) := by decide +kernel
theorem dX5_powers_183 : decode cX5_powers 183 = .ok (.if_icmp .ge 80, 3) := by decide +kernel
theorem dX5_powers_186 : decode cX5_powers 186 = .ok (.iconst 0, 1) := by decide +kernel
theorem dX5_powers_187 : decode cX5_powers 187 = .ok (.istore 6, 2) := by decide +kernel
theorem dX5_powers_189 : decode cX5_powers 189 = .ok (.iload 6, 2) := by decide +kernel
theorem dX5_powers_191 : decode cX5_powers 191 = .ok (.iload_n 3, 1) := by decide +kernel
theorem dX5_powers_192 : decode cX5_powers 192 = .ok (.if_icmp .ge 46, 3) := by decide +kernel
theorem dX5_powers_195 : decode cX5_powers 195 = .ok (.aload_n 0, 1) := by decide +kernel
theorem dX5_powers_196 : decode cX5_powers 196 = .ok (.getfield 34, 3) := by decide +kernel
theorem dX5_powers_199 : decode cX5_powers 199 = .ok (.bipush 18, 2) := by decide +kernel
theorem dX5_powers_201 : decode cX5_powers 201 = .ok (.iload 5, 2) := by decide +kernel
theorem dX5_powers_203 : decode cX5_powers 203 = .ok (.imul, 1) := by decide +kernel
theorem dX5_powers_204 : decode cX5_powers 204 = .ok (.iload 6, 2) := by decide +kernel
theorem dX5_powers_206 : decode cX5_powers 206 = .ok (.iadd, 1) := by decide +kernel
theorem dX5_powers_207 : decode cX5_powers 207 = .ok (.aload_n 0, 1) := by decide +kernel
theorem dX5_powers_208 : decode cX5_powers 208 = .ok (.getfield 81, 3) := by decide +kernel
theorem dX5_powers_211 : decode cX5_powers 211 = .ok (.iload 5, 2) := by decide +kernel
theorem dX5_powers_213 : decode cX5_powers 213 = .ok (.invokestatic 123, 3) := by decide +kernel
theorem dX5_powers_216 : decode cX5_powers 216 = .ok (.aload_n 0, 1) := by decide +kernel
theorem dX5_powers_217 : decode cX5_powers 217 = .ok (.getfield 37, 3) := by decide +kernel
theorem dX5_powers_220 : decode cX5_powers 220 = .ok (.iload 6, 2) := by decide +kernel
theorem dX5_powers_222 : decode cX5_powers 222 = .ok (.iaload, 1) := by decide +kernel
theorem dX5_powers_223 : decode cX5_powers 223 = .ok (.iload 5, 2) := by decide +kernel
theorem dX5_powers_225 : decode cX5_powers 225 = .ok (.invokestatic 155, 3) := by decide +kernel
theorem dX5_powers_228 : decode cX5_powers 228 = .ok (.invokestatic 52, 3) := by decide +kernel
theorem dX5_powers_231 : decode cX5_powers 231 = .ok (.iastore, 1) := by decide +kernel
theorem dX5_powers_232 : decode cX5_powers 232 = .ok (.iinc 6 1, 3) := by decide +kernel
theorem dX5_powers_235 : decode cX5_powers 235 = .ok (.goto (-46), 3) := by decide +kernel
theorem dX5_powers_238 : decode cX5_powers 238 = .ok (.aload_n 0, 1) := by decide +kernel
theorem dX5_powers_239 : decode cX5_powers 239 = .ok (.getfield 34, 3) := by decide +kernel
theorem dX5_powers_242 : decode cX5_powers 242 = .ok (.bipush 18, 2) := by decide +kernel
theorem dX5_powers_244 : decode cX5_powers 244 = .ok (.iload 5, 2) := by decide +kernel
theorem dX5_powers_246 : decode cX5_powers 246 = .ok (.imul, 1) := by decide +kernel
theorem dX5_powers_247 : decode cX5_powers 247 = .ok (.iload_n 3, 1) := by decide +kernel
theorem dX5_powers_248 : decode cX5_powers 248 = .ok (.iadd, 1) := by decide +kernel
theorem dX5_powers_249 : decode cX5_powers 249 = .ok (.aload_n 0, 1) := by decide +kernel
theorem dX5_powers_250 : decode cX5_powers 250 = .ok (.getfield 22, 3) := by decide +kernel
theorem dX5_powers_253 : decode cX5_powers 253 = .ok (.iload 5, 2) := by decide +kernel
theorem dX5_powers_255 : decode cX5_powers 255 = .ok (.iaload, 1) := by decide +kernel
theorem dX5_powers_256 : decode cX5_powers 256 = .ok (.iastore, 1) := by decide +kernel
theorem dX5_powers_257 : decode cX5_powers 257 = .ok (.iinc 5 1, 3) := by decide +kernel
theorem dX5_powers_260 : decode cX5_powers 260 = .ok (.goto (-80), 3) := by decide +kernel
theorem dX5_powers_263 : decode cX5_powers 263 = .ok (.aload_n 0, 1) := by decide +kernel
theorem dX5_powers_264 : decode cX5_powers 264 = .ok (.iload_n 3, 1) := by decide +kernel
theorem dX5_powers_265 : decode cX5_powers 265 = .ok (.iload_n 3, 1) := by decide +kernel
theorem dX5_powers_266 : decode cX5_powers 266 = .ok (.iconst 1, 1) := by decide +kernel
theorem dX5_powers_267 : decode cX5_powers 267 = .ok (.iadd, 1) := by decide +kernel
theorem dX5_powers_268 : decode cX5_powers 268 = .ok (.invokevirtual 152, 3) := by decide +kernel
theorem dX5_powers_271 : decode cX5_powers 271 = .ok (.istore 5, 2) := by decide +kernel
theorem dX5_powers_273 : decode cX5_powers 273 = .ok (.iload_n 3, 1) := by decide +kernel
theorem dX5_powers_274 : decode cX5_powers 274 = .ok (.iconst 1, 1) := by decide +kernel
theorem dX5_powers_275 : decode cX5_powers 275 = .ok (.isub, 1) := by decide +kernel
theorem dX5_powers_276 : decode cX5_powers 276 = .ok (.istore 6, 2) := by decide +kernel
theorem dX5_powers_278 : decode cX5_powers 278 = .ok (.iload 6, 2) := by decide +kernel
theorem dX5_powers_280 : decode cX5_powers 280 = .ok (.ifCond .lt 101, 3) := by decide +kernel
theorem dX5_powers_283 : decode cX5_powers 283 = .ok (.aload_n 0, 1) := by decide +kernel
theorem dX5_powers_284 : decode cX5_powers 284 = .ok (.getfield 34, 3) := by decide +kernel
theorem dX5_powers_287 : decode cX5_powers 287 = .ok (.bipush 18, 2) := by decide +kernel
theorem dX5_powers_289 : decode cX5_powers 289 = .ok (.iload 6, 2) := by decide +kernel
theorem dX5_powers_291 : decode cX5_powers 291 = .ok (.imul, 1) := by decide +kernel
theorem dX5_powers_292 : decode cX5_powers 292 = .ok (.iload_n 3, 1) := by decide +kernel
theorem dX5_powers_293 : decode cX5_powers 293 = .ok (.iadd, 1) := by decide +kernel
theorem dX5_powers_294 : decode cX5_powers 294 = .ok (.iaload, 1) := by decide +kernel
theorem dX5_powers_295 : decode cX5_powers 295 = .ok (.i2l, 1) := by decide +kernel
theorem dX5_powers_296 : decode cX5_powers 296 = .ok (.lstore 7, 2) := by decide +kernel
theorem dX5_powers_298 : decode cX5_powers 298 = .ok (.iload 6, 2) := by decide +kernel
theorem dX5_powers_300 : decode cX5_powers 300 = .ok (.iconst 1, 1) := by decide +kernel
theorem dX5_powers_301 : decode cX5_powers 301 = .ok (.iadd, 1) := by decide +kernel
theorem dX5_powers_302 : decode cX5_powers 302 = .ok (.istore 9, 2) := by decide +kernel
theorem dX5_powers_304 : decode cX5_powers 304 = .ok (.iload 9, 2) := by decide +kernel
theorem dX5_powers_306 : decode cX5_powers 306 = .ok (.iload_n 3, 1) := by decide +kernel
theorem dX5_powers_307 : decode cX5_powers 307 = .ok (.if_icmp .ge 37, 3) := by decide +kernel
theorem dX5_powers_310 : decode cX5_powers 310 = .ok (.lload 7, 2) := by decide +kernel
theorem dX5_powers_312 : decode cX5_powers 312 = .ok (.aload_n 0, 1) := by decide +kernel
theorem dX5_powers_313 : decode cX5_powers 313 = .ok (.getfield 34, 3) := by decide +kernel
theorem dX5_powers_316 : decode cX5_powers 316 = .ok (.bipush 18, 2) := by decide +kernel
theorem dX5_powers_318 : decode cX5_powers 318 = .ok (.iload 6, 2) := by decide +kernel
theorem dX5_powers_320 : decode cX5_powers 320 = .ok (.imul, 1) := by decide +kernel
theorem dX5_powers_321 : decode cX5_powers 321 = .ok (.iload 9, 2) := by decide +kernel
theorem dX5_powers_323 : decode cX5_powers 323 = .ok (.iadd, 1) := by decide +kernel
theorem dX5_powers_324 : decode cX5_powers 324 = .ok (.iaload, 1) := by decide +kernel
theorem dX5_powers_325 : decode cX5_powers 325 = .ok (.i2l, 1) := by decide +kernel
theorem dX5_powers_326 : decode cX5_powers 326 = .ok (.aload_n 0, 1) := by decide +kernel
theorem dX5_powers_327 : decode cX5_powers 327 = .ok (.getfield 40, 3) := by decide +kernel
theorem dX5_powers_330 : decode cX5_powers 330 = .ok (.iload 9, 2) := by decide +kernel
theorem dX5_powers_332 : decode cX5_powers 332 = .ok (.iaload, 1) := by decide +kernel
theorem dX5_powers_333 : decode cX5_powers 333 = .ok (.i2l, 1) := by decide +kernel
theorem dX5_powers_334 : decode cX5_powers 334 = .ok (.lmul, 1) := by decide +kernel
theorem dX5_powers_335 : decode cX5_powers 335 = .ok (.lsub, 1) := by decide +kernel
theorem dX5_powers_336 : decode cX5_powers 336 = .ok (.lstore 7, 2) := by decide +kernel
theorem dX5_powers_338 : decode cX5_powers 338 = .ok (.iinc 9 1, 3) := by decide +kernel
theorem dX5_powers_341 : decode cX5_powers 341 = .ok (.goto (-37), 3) := by decide +kernel
theorem dX5_powers_344 : decode cX5_powers 344 = .ok (.aload_n 0, 1) := by decide +kernel
theorem dX5_powers_345 : decode cX5_powers 345 = .ok (.getfield 40, 3) := by decide +kernel
theorem dX5_powers_348 : decode cX5_powers 348 = .ok (.iload 6, 2) := by decide +kernel
theorem dX5_powers_350 : decode cX5_powers 350 = .ok (.lload 7, 2) := by decide +kernel
theorem dX5_powers_352 : decode cX5_powers 352 = .ok (.invokestatic 48, 3) := by decide +kernel
theorem dX5_powers_355 : decode cX5_powers 355 = .ok (.aload_n 0, 1) := by decide +kernel
end
section
theorem dX5_powers_356 : decode cX5_powers 356 = .ok (.getfield 34, 3) := by decide +kernel
theorem dX5_powers_359 : decode cX5_powers 359 = .ok (.bipush 18, 2) := by decide +kernel
theorem dX5_powers_361 : decode cX5_powers 361 = .ok (.iload 6, 2) := by decide +kernel
theorem dX5_powers_363 : decode cX5_powers 363 = .ok (.imul, 1) := by decide +kernel
theorem dX5_powers_364 : decode cX5_powers 364 = .ok (.iload 6, 2) := by decide +kernel
theorem dX5_powers_366 : decode cX5_powers 366 = .ok (.iadd, 1) := by decide +kernel
theorem dX5_powers_367 : decode cX5_powers 367 = .ok (.iaload, 1) := by decide +kernel
theorem dX5_powers_368 : decode cX5_powers 368 = .ok (.invokestatic 133, 3) := by decide +kernel
theorem dX5_powers_371 : decode cX5_powers 371 = .ok (.invokestatic 52, 3) := by decide +kernel
theorem dX5_powers_374 : decode cX5_powers 374 = .ok (.iastore, 1) := by decide +kernel
theorem dX5_powers_375 : decode cX5_powers 375 = .ok (.iinc 6 (-1), 3) := by decide +kernel
theorem dX5_powers_378 : decode cX5_powers 378 = .ok (.goto (-100), 3) := by decide +kernel
theorem dX5_powers_381 : decode cX5_powers 381 = .ok (.iconst 0, 1) := by decide +kernel
theorem dX5_powers_382 : decode cX5_powers 382 = .ok (.istore 6, 2) := by decide +kernel
theorem dX5_powers_384 : decode cX5_powers 384 = .ok (.iload 6, 2) := by decide +kernel
theorem dX5_powers_386 : decode cX5_powers 386 = .ok (.aload_n 0, 1) := by decide +kernel
theorem dX5_powers_387 : decode cX5_powers 387 = .ok (.getfield 81, 3) := by decide +kernel
theorem dX5_powers_390 : decode cX5_powers 390 = .ok (.if_icmp .gt 85, 3) := by decide +kernel
theorem dX5_powers_393 : decode cX5_powers 393 = .ok (.iconst 0, 1) := by decide +kernel
theorem dX5_powers_394 : decode cX5_powers 394 = .ok (.istore 7, 2) := by decide +kernel
theorem dX5_powers_396 : decode cX5_powers 396 = .ok (.iconst 0, 1) := by decide +kernel
theorem dX5_powers_397 : decode cX5_powers 397 = .ok (.istore 8, 2) := by decide +kernel
theorem dX5_powers_399 : decode cX5_powers 399 = .ok (.iload 8, 2) := by decide +kernel
theorem dX5_powers_401 : decode cX5_powers 401 = .ok (.iload_n 3, 1) := by decide +kernel
theorem dX5_powers_402 : decode cX5_powers 402 = .ok (.if_icmp .ge 40, 3) := by decide +kernel
theorem dX5_powers_405 : decode cX5_powers 405 = .ok (.iload 7, 2) := by decide +kernel
theorem dX5_powers_407 : decode cX5_powers 407 = .ok (.i2l, 1) := by decide +kernel
theorem dX5_powers_408 : decode cX5_powers 408 = .ok (.aload_n 0, 1) := by decide +kernel
theorem dX5_powers_409 : decode cX5_powers 409 = .ok (.getfield 40, 3) := by decide +kernel
theorem dX5_powers_412 : decode cX5_powers 412 = .ok (.iload 8, 2) := by decide +kernel
theorem dX5_powers_414 : decode cX5_powers 414 = .ok (.iaload, 1) := by decide +kernel
theorem dX5_powers_415 : decode cX5_powers 415 = .ok (.i2l, 1) := by decide +kernel
theorem dX5_powers_416 : decode cX5_powers 416 = .ok (.aload_n 0, 1) := by decide +kernel
theorem dX5_powers_417 : decode cX5_powers 417 = .ok (.getfield 37, 3) := by decide +kernel
theorem dX5_powers_420 : decode cX5_powers 420 = .ok (.iload 8, 2) := by decide +kernel
theorem dX5_powers_422 : decode cX5_powers 422 = .ok (.iaload, 1) := by decide +kernel
theorem dX5_powers_423 : decode cX5_powers 423 = .ok (.iload 6, 2) := by decide +kernel
theorem dX5_powers_425 : decode cX5_powers 425 = .ok (.invokestatic 155, 3) := by decide +kernel
theorem dX5_powers_428 : decode cX5_powers 428 = .ok (.i2l, 1) := by decide +kernel
theorem dX5_powers_429 : decode cX5_powers 429 = .ok (.lmul, 1) := by decide +kernel
theorem dX5_powers_430 : decode cX5_powers 430 = .ok (.ladd, 1) := by decide +kernel
theorem dX5_powers_431 : decode cX5_powers 431 = .ok (.invokestatic 48, 3) := by decide +kernel
theorem dX5_powers_434 : decode cX5_powers 434 = .ok (.istore 7, 2) := by decide +kernel
theorem dX5_powers_436 : decode cX5_powers 436 = .ok (.iinc 8 1, 3) := by decide +kernel
theorem dX5_powers_439 : decode cX5_powers 439 = .ok (.goto (-40), 3) := by decide +kernel
theorem dX5_powers_442 : decode cX5_powers 442 = .ok (.iload 7, 2) := by decide +kernel
theorem dX5_powers_444 : decode cX5_powers 444 = .ok (.aload_n 0, 1) := by decide +kernel
theorem dX5_powers_445 : decode cX5_powers 445 = .ok (.getfield 81, 3) := by decide +kernel
theorem dX5_powers_448 : decode cX5_powers 448 = .ok (.iload 6, 2) := by decide +kernel
theorem dX5_powers_450 : decode cX5_powers 450 = .ok (.invokestatic 123, 3) := by decide +kernel
theorem dX5_powers_453 : decode cX5_powers 453 = .ok (.invokestatic 52, 3) := by decide +kernel
theorem dX5_powers_456 : decode cX5_powers 456 = .ok (.aload_n 0, 1) := by decide +kernel
theorem dX5_powers_457 : decode cX5_powers 457 = .ok (.getfield 22, 3) := by decide +kernel
theorem dX5_powers_460 : decode cX5_powers 460 = .ok (.iload 6, 2) := by decide +kernel
theorem dX5_powers_462 : decode cX5_powers 462 = .ok (.iaload, 1) := by decide +kernel
theorem dX5_powers_463 : decode cX5_powers 463 = .ok (.if_icmp .eq 6, 3) := by decide +kernel
theorem dX5_powers_466 : decode cX5_powers 466 = .ok (.bipush (-3), 2) := by decide +kernel
theorem dX5_powers_468 : decode cX5_powers 468 = .ok (.ireturn, 1) := by decide +kernel
theorem dX5_powers_469 : decode cX5_powers 469 = .ok (.iinc 6 1, 3) := by decide +kernel
theorem dX5_powers_472 : decode cX5_powers 472 = .ok (.goto (-88), 3) := by decide +kernel
theorem dX5_powers_475 : decode cX5_powers 475 = .ok (.aload_n 0, 1) := by decide +kernel
theorem dX5_powers_476 : decode cX5_powers 476 = .ok (.iload_n 3, 1) := by decide +kernel
theorem dX5_powers_477 : decode cX5_powers 477 = .ok (.iconst 1, 1) := by decide +kernel
theorem dX5_powers_478 : decode cX5_powers 478 = .ok (.isub, 1) := by decide +kernel
theorem dX5_powers_479 : decode cX5_powers 479 = .ok (.invokevirtual 113, 3) := by decide +kernel
theorem dX5_powers_482 : decode cX5_powers 482 = .ok (.iconst 0, 1) := by decide +kernel
theorem dX5_powers_483 : decode cX5_powers 483 = .ok (.istore 6, 2) := by decide +kernel
theorem dX5_powers_485 : decode cX5_powers 485 = .ok (.iload 6, 2) := by decide +kernel
theorem dX5_powers_487 : decode cX5_powers 487 = .ok (.iload_n 3, 1) := by decide +kernel
theorem dX5_powers_488 : decode cX5_powers 488 = .ok (.if_icmp .ge 23, 3) := by decide +kernel
theorem dX5_powers_491 : decode cX5_powers 491 = .ok (.aload_n 0, 1) := by decide +kernel
theorem dX5_powers_492 : decode cX5_powers 492 = .ok (.getfield 28, 3) := by decide +kernel
theorem dX5_powers_495 : decode cX5_powers 495 = .ok (.iload 6, 2) := by decide +kernel
theorem dX5_powers_497 : decode cX5_powers 497 = .ok (.aload_n 0, 1) := by decide +kernel
theorem dX5_powers_498 : decode cX5_powers 498 = .ok (.getfield 40, 3) := by decide +kernel
theorem dX5_powers_501 : decode cX5_powers 501 = .ok (.iload 6, 2) := by decide +kernel
theorem dX5_powers_503 : decode cX5_powers 503 = .ok (.iaload, 1) := by decide +kernel
theorem dX5_powers_504 : decode cX5_powers 504 = .ok (.iastore, 1) := by decide +kernel
theorem dX5_powers_505 : decode cX5_powers 505 = .ok (.iinc 6 1, 3) := by decide +kernel
theorem dX5_powers_508 : decode cX5_powers 508 = .ok (.goto (-23), 3) := by decide +kernel
theorem dX5_powers_511 : decode cX5_powers 511 = .ok (.aload_n 0, 1) := by decide +kernel
theorem dX5_powers_512 : decode cX5_powers 512 = .ok (.iload 4, 2) := by decide +kernel
theorem dX5_powers_514 : decode cX5_powers 514 = .ok (.invokevirtual 116, 3) := by decide +kernel
theorem dX5_powers_517 : decode cX5_powers 517 = .ok (.istore 6, 2) := by decide +kernel
theorem dX5_powers_519 : decode cX5_powers 519 = .ok (.iload_n 3, 1) := by decide +kernel
theorem dX5_powers_520 : decode cX5_powers 520 = .ok (.ireturn, 1) := by decide +kernel
theorem dX5_build_0 : decode cX5_build 0 = .ok (.iload_n 1, 1) := by decide +kernel
theorem dX5_build_1 : decode cX5_build 1 = .ok (.invokestatic 66, 3) := by decide +kernel
theorem dX5_build_4 : decode cX5_build 4 = .ok (.ifCond .eq 43, 3) := by decide +kernel
theorem dX5_build_7 : decode cX5_build 7 = .ok (.iload_n 2, 1) := by decide +kernel
theorem dX5_build_8 : decode cX5_build 8 = .ok (.invokestatic 66, 3) := by decide +kernel
theorem dX5_build_11 : decode cX5_build 11 = .ok (.ifCond .eq 36, 3) := by decide +kernel
theorem dX5_build_14 : decode cX5_build 14 = .ok (.iload_n 3, 1) := by decide +kernel
theorem dX5_build_15 : decode cX5_build 15 = .ok (.i2l, 1) := by decide +kernel
theorem dX5_build_16 : decode cX5_build 16 = .ok (.lconst 0, 1) := by decide +kernel
theorem dX5_build_17 : decode cX5_build 17 = .ok (.ldc2_w 158, 3) := by decide +kernel
theorem dX5_build_20 : decode cX5_build 20 = .ok (.invokestatic 62, 3) := by decide +kernel
theorem dX5_build_23 : decode cX5_build 23 = .ok (.ifCond .eq 24, 3) := by decide +kernel
theorem dX5_build_26 : decode cX5_build 26 = .ok (.iload 4, 2) := by decide +kernel
theorem dX5_build_28 : decode cX5_build 28 = .ok (.i2l, 1) := by decide +kernel
theorem dX5_build_29 : decode cX5_build 29 = .ok (.lconst 0, 1) := by decide +kernel
theorem dX5_build_30 : decode cX5_build 30 = .ok (.ldc2_w 100, 3) := by decide +kernel
theorem dX5_build_33 : decode cX5_build 33 = .ok (.invokestatic 62, 3) := by decide +kernel
theorem dX5_build_36 : decode cX5_build 36 = .ok (.ifCond .eq 11, 3) := by decide +kernel
theorem dX5_build_39 : decode cX5_build 39 = .ok (.iload 5, 2) := by decide +kernel
theorem dX5_build_41 : decode cX5_build 41 = .ok (.invokestatic 66, 3) := by decide +kernel
theorem dX5_build_44 : decode cX5_build 44 = .ok (.ifCond .ne 6, 3) := by decide +kernel
theorem dX5_build_47 : decode cX5_build 47 = .ok (.bipush (-2), 2) := by decide +kernel
theorem dX5_build_49 : decode cX5_build 49 = .ok (.ireturn, 1) := by decide +kernel
theorem dX5_build_50 : decode cX5_build 50 = .ok (.aload_n 0, 1) := by decide +kernel
theorem dX5_build_51 : decode cX5_build 51 = .ok (.getfield 7, 3) := by decide +kernel
theorem dX5_build_54 : decode cX5_build 54 = .ok (.iload_n 1, 1) := by decide +kernel
theorem dX5_build_55 : decode cX5_build 55 = .ok (.iaload, 1) := by decide +kernel
theorem dX5_build_56 : decode cX5_build 56 = .ok (.ifCond .lt 12, 3) := by decide +kernel
theorem dX5_build_59 : decode cX5_build 59 = .ok (.aload_n 0, 1) := by decide +kernel
theorem dX5_build_60 : decode cX5_build 60 = .ok (.getfield 7, 3) := by decide +kernel
theorem dX5_build_63 : decode cX5_build 63 = .ok (.iload_n 2, 1) := by decide +kernel
theorem dX5_build_64 : decode cX5_build 64 = .ok (.iaload, 1) := by decide +kernel
theorem dX5_build_65 : decode cX5_build 65 = .ok (.ifCond .ge 9, 3) := by decide +kernel
theorem dX5_build_68 : decode cX5_build 68 = .ok (.aload_n 0, 1) := by decide +kernel
theorem dX5_build_69 : decode cX5_build 69 = .ok (.iconst 1, 1) := by decide +kernel
theorem dX5_build_70 : decode cX5_build 70 = .ok (.invokevirtual 72, 3) := by decide +kernel
theorem dX5_build_73 : decode cX5_build 73 = .ok (.ireturn, 1) := by decide +kernel
theorem dX5_build_74 : decode cX5_build 74 = .ok (.aload_n 0, 1) := by decide +kernel
theorem dX5_build_75 : decode cX5_build 75 = .ok (.getfield 13, 3) := by decide +kernel
theorem dX5_build_78 : decode cX5_build 78 = .ok (.iload_n 1, 1) := by decide +kernel
theorem dX5_build_79 : decode cX5_build 79 = .ok (.iaload, 1) := by decide +kernel
theorem dX5_build_80 : decode cX5_build 80 = .ok (.iload_n 3, 1) := by decide +kernel
theorem dX5_build_81 : decode cX5_build 81 = .ok (.if_icmp .lt 13, 3) := by decide +kernel
theorem dX5_build_84 : decode cX5_build 84 = .ok (.aload_n 0, 1) := by decide +kernel
theorem dX5_build_85 : decode cX5_build 85 = .ok (.getfield 13, 3) := by decide +kernel
theorem dX5_build_88 : decode cX5_build 88 = .ok (.iload_n 2, 1) := by decide +kernel
theorem dX5_build_89 : decode cX5_build 89 = .ok (.iaload, 1) := by decide +kernel
theorem dX5_build_90 : decode cX5_build 90 = .ok (.iload_n 3, 1) := by decide +kernel
theorem dX5_build_91 : decode cX5_build 91 = .ok (.if_icmp .ge 9, 3) := by decide +kernel
theorem dX5_build_94 : decode cX5_build 94 = .ok (.aload_n 0, 1) := by decide +kernel
theorem dX5_build_95 : decode cX5_build 95 = .ok (.iconst 2, 1) := by decide +kernel
theorem dX5_build_96 : decode cX5_build 96 = .ok (.invokevirtual 72, 3) := by decide +kernel
theorem dX5_build_99 : decode cX5_build 99 = .ok (.ireturn, 1) := by decide +kernel
theorem dX5_build_100 : decode cX5_build 100 = .ok (.aload_n 0, 1) := by decide +kernel
theorem dX5_build_101 : decode cX5_build 101 = .ok (.iload 4, 2) := by decide +kernel
theorem dX5_build_103 : decode cX5_build 103 = .ok (.invokevirtual 113, 3) := by decide +kernel
theorem dX5_build_106 : decode cX5_build 106 = .ok (.iconst 0, 1) := by decide +kernel
theorem dX5_build_107 : decode cX5_build 107 = .ok (.istore 6, 2) := by decide +kernel
theorem dX5_build_109 : decode cX5_build 109 = .ok (.iload 6, 2) := by decide +kernel
theorem dX5_build_111 : decode cX5_build 111 = .ok (.iload_n 3, 1) := by decide +kernel
theorem dX5_build_112 : decode cX5_build 112 = .ok (.if_icmp .ge 98, 3) := by decide +kernel
theorem dX5_build_115 : decode cX5_build 115 = .ok (.iconst 0, 1) := by decide +kernel
theorem dX5_build_116 : decode cX5_build 116 = .ok (.istore 7, 2) := by decide +kernel
theorem dX5_build_118 : decode cX5_build 118 = .ok (.iload 7, 2) := by decide +kernel
theorem dX5_build_120 : decode cX5_build 120 = .ok (.iload 4, 2) := by decide +kernel
theorem dX5_build_122 : decode cX5_build 122 = .ok (.if_icmp .gt 82, 3) := by decide +kernel
theorem dX5_build_125 : decode cX5_build 125 = .ok (.aload_n 0, 1) := by decide +kernel
theorem dX5_build_126 : decode cX5_build 126 = .ok (.getfield 16, 3) := by decide +kernel
theorem dX5_build_129 : decode cX5_build 129 = .ok (.bipush 12, 2) := by decide +kernel
theorem dX5_build_131 : decode cX5_build 131 = .ok (.iload_n 2, 1) := by decide +kernel
theorem dX5_build_132 : decode cX5_build 132 = .ok (.imul, 1) := by decide +kernel
theorem dX5_build_133 : decode cX5_build 133 = .ok (.iload 6, 2) := by decide +kernel
theorem dX5_build_135 : decode cX5_build 135 = .ok (.iadd, 1) := by decide +kernel
theorem dX5_build_136 : decode cX5_build 136 = .ok (.iaload, 1) := by decide +kernel
theorem dX5_build_137 : decode cX5_build 137 = .ok (.i2l, 1) := by decide +kernel
theorem dX5_build_138 : decode cX5_build 138 = .ok (.invokestatic 48, 3) := by decide +kernel
theorem dX5_build_141 : decode cX5_build 141 = .ok (.aload_n 0, 1) := by decide +kernel
theorem dX5_build_142 : decode cX5_build 142 = .ok (.getfield 16, 3) := by decide +kernel
theorem dX5_build_145 : decode cX5_build 145 = .ok (.bipush 12, 2) := by decide +kernel
theorem dX5_build_147 : decode cX5_build 147 = .ok (.iload_n 1, 1) := by decide +kernel
theorem dX5_build_148 : decode cX5_build 148 = .ok (.imul, 1) := by decide +kernel
theorem dX5_build_149 : decode cX5_build 149 = .ok (.iload 6, 2) := by decide +kernel
theorem dX5_build_151 : decode cX5_build 151 = .ok (.iadd, 1) := by decide +kernel
theorem dX5_build_152 : decode cX5_build 152 = .ok (.iaload, 1) := by decide +kernel
theorem dX5_build_153 : decode cX5_build 153 = .ok (.i2l, 1) := by decide +kernel
theorem dX5_build_154 : decode cX5_build 154 = .ok (.invokestatic 48, 3) := by decide +kernel
theorem dX5_build_157 : decode cX5_build 157 = .ok (.iload 7, 2) := by decide +kernel
theorem dX5_build_159 : decode cX5_build 159 = .ok (.invokestatic 155, 3) := by decide +kernel
theorem dX5_build_162 : decode cX5_build 162 = .ok (.invokestatic 52, 3) := by decide +kernel
theorem dX5_build_165 : decode cX5_build 165 = .ok (.istore 8, 2) := by decide +kernel
theorem dX5_build_167 : decode cX5_build 167 = .ok (.aload_n 0, 1) := by decide +kernel
theorem dX5_build_168 : decode cX5_build 168 = .ok (.getfield 28, 3) := by decide +kernel
theorem dX5_build_171 : decode cX5_build 171 = .ok (.iload 7, 2) := by decide +kernel
theorem dX5_build_173 : decode cX5_build 173 = .ok (.aload_n 0, 1) := by decide +kernel
theorem dX5_build_174 : decode cX5_build 174 = .ok (.getfield 28, 3) := by decide +kernel
theorem dX5_build_177 : decode cX5_build 177 = .ok (.iload 7, 2) := by decide +kernel
theorem dX5_build_179 : decode cX5_build 179 = .ok (.iaload, 1) := by decide +kernel
theorem dX5_build_180 : decode cX5_build 180 = .ok (.i2l, 1) := by decide +kernel
theorem dX5_build_181 : decode cX5_build 181 = .ok (.iload 8, 2) := by decide +kernel
theorem dX5_build_183 : decode cX5_build 183 = .ok (.i2l, 1) := by decide +kernel
theorem dX5_build_184 : decode cX5_build 184 = .ok (.iload 4, 2) := by decide +kernel
theorem dX5_build_186 : decode cX5_build 186 = .ok (.iload 7, 2) := by decide +kernel
theorem dX5_build_188 : decode cX5_build 188 = .ok (.invokestatic 123, 3) := by decide +kernel
theorem dX5_build_191 : decode cX5_build 191 = .ok (.i2l, 1) := by decide +kernel
theorem dX5_build_192 : decode cX5_build 192 = .ok (.lmul, 1) := by decide +kernel
theorem dX5_build_193 : decode cX5_build 193 = .ok (.ladd, 1) := by decide +kernel
theorem dX5_build_194 : decode cX5_build 194 = .ok (.invokestatic 48, 3) := by decide +kernel
theorem dX5_build_197 : decode cX5_build 197 = .ok (.iastore, 1) := by decide +kernel
theorem dX5_build_198 : decode cX5_build 198 = .ok (.iinc 7 1, 3) := by decide +kernel
theorem dX5_build_201 : decode cX5_build 201 = .ok (.goto (-83), 3) := by decide +kernel
theorem dX5_build_204 : decode cX5_build 204 = .ok (.iinc 6 1, 3) := by decide +kernel
theorem dX5_build_207 : decode cX5_build 207 = .ok (.goto (-98), 3) := by decide +kernel
theorem dX5_build_210 : decode cX5_build 210 = .ok (.aload_n 0, 1) := by decide +kernel
theorem dX5_build_211 : decode cX5_build 211 = .ok (.iload 5, 2) := by decide +kernel
theorem dX5_build_213 : decode cX5_build 213 = .ok (.invokevirtual 116, 3) := by decide +kernel
theorem dX5_build_216 : decode cX5_build 216 = .ok (.ireturn, 1) := by decide +kernel
theorem dX5_rank_0 : decode cX5_rank 0 = .ok (.iload_n 1, 1) := by decide +kernel
theorem dX5_rank_1 : decode cX5_rank 1 = .ok (.invokestatic 66, 3) := by decide +kernel
theorem dX5_rank_4 : decode cX5_rank 4 = .ok (.ifCond .eq 7, 3) := by decide +kernel
theorem dX5_rank_7 : decode cX5_rank 7 = .ok (.iload_n 2, 1) := by decide +kernel
theorem dX5_rank_8 : decode cX5_rank 8 = .ok (.ifCond .ge 6, 3) := by decide +kernel
theorem dX5_rank_11 : decode cX5_rank 11 = .ok (.bipush (-2), 2) := by decide +kernel
theorem dX5_rank_13 : decode cX5_rank 13 = .ok (.ireturn, 1) := by decide +kernel
theorem dX5_rank_14 : decode cX5_rank 14 = .ok (.aload_n 0, 1) := by decide +kernel
theorem dX5_rank_15 : decode cX5_rank 15 = .ok (.iload_n 1, 1) := by decide +kernel
theorem dX5_rank_16 : decode cX5_rank 16 = .ok (.invokevirtual 102, 3) := by decide +kernel
theorem dX5_rank_19 : decode cX5_rank 19 = .ok (.istore_n 3, 1) := by decide +kernel
theorem dX5_rank_20 : decode cX5_rank 20 = .ok (.iload_n 3, 1) := by decide +kernel
theorem dX5_rank_21 : decode cX5_rank 21 = .ok (.ifCond .eq 5, 3) := by decide +kernel
theorem dX5_rank_24 : decode cX5_rank 24 = .ok (.iload_n 3, 1) := by decide +kernel
theorem dX5_rank_25 : decode cX5_rank 25 = .ok (.ireturn, 1) := by decide +kernel
theorem dX5_rank_26 : decode cX5_rank 26 = .ok (.iload_n 2, 1) := by decide +kernel
theorem dX5_rank_27 : decode cX5_rank 27 = .ok (.aload_n 0, 1) := by decide +kernel
theorem dX5_rank_28 : decode cX5_rank 28 = .ok (.getfield 81, 3) := by decide +kernel
theorem dX5_rank_31 : decode cX5_rank 31 = .ok (.if_icmp .le 6, 3) := by decide +kernel
theorem dX5_rank_34 : decode cX5_rank 34 = .ok (.bipush (-3), 2) := by decide +kernel
theorem dX5_rank_36 : decode cX5_rank 36 = .ok (.ireturn, 1) := by decide +kernel
theorem dX5_rank_37 : decode cX5_rank 37 = .ok (.iconst 0, 1) := by decide +kernel
theorem dX5_rank_38 : decode cX5_rank 38 = .ok (.istore 4, 2) := by decide +kernel
theorem dX5_rank_40 : decode cX5_rank 40 = .ok (.iload 4, 2) := by decide +kernel
theorem dX5_rank_42 : decode cX5_rank 42 = .ok (.iload_n 2, 1) := by decide +kernel
theorem dX5_rank_43 : decode cX5_rank 43 = .ok (.if_icmp .gt 70, 3) := by decide +kernel
theorem dX5_rank_46 : decode cX5_rank 46 = .ok (.iconst 0, 1) := by decide +kernel
theorem dX5_rank_47 : decode cX5_rank 47 = .ok (.istore 5, 2) := by decide +kernel
theorem dX5_rank_49 : decode cX5_rank 49 = .ok (.iload 5, 2) := by decide +kernel
theorem dX5_rank_51 : decode cX5_rank 51 = .ok (.aload_n 0, 1) := by decide +kernel
theorem dX5_rank_52 : decode cX5_rank 52 = .ok (.getfield 81, 3) := by decide +kernel
theorem dX5_rank_55 : decode cX5_rank 55 = .ok (.iload_n 2, 1) := by decide +kernel
theorem dX5_rank_56 : decode cX5_rank 56 = .ok (.isub, 1) := by decide +kernel
theorem dX5_rank_57 : decode cX5_rank 57 = .ok (.if_icmp .gt 50, 3) := by decide +kernel
theorem dX5_rank_60 : decode cX5_rank 60 = .ok (.aload_n 0, 1) := by decide +kernel
theorem dX5_rank_61 : decode cX5_rank 61 = .ok (.getfield 34, 3) := by decide +kernel
theorem dX5_rank_64 : decode cX5_rank 64 = .ok (.bipush 18, 2) := by decide +kernel
theorem dX5_rank_66 : decode cX5_rank 66 = .ok (.iload 4, 2) := by decide +kernel
theorem dX5_rank_68 : decode cX5_rank 68 = .ok (.imul, 1) := by decide +kernel
theorem dX5_rank_69 : decode cX5_rank 69 = .ok (.iload 5, 2) := by decide +kernel
theorem dX5_rank_71 : decode cX5_rank 71 = .ok (.iadd, 1) := by decide +kernel
theorem dX5_rank_72 : decode cX5_rank 72 = .ok (.aload_n 0, 1) := by decide +kernel
theorem dX5_rank_73 : decode cX5_rank 73 = .ok (.getfield 22, 3) := by decide +kernel
theorem dX5_rank_76 : decode cX5_rank 76 = .ok (.iload 4, 2) := by decide +kernel
theorem dX5_rank_78 : decode cX5_rank 78 = .ok (.iload 5, 2) := by decide +kernel
theorem dX5_rank_80 : decode cX5_rank 80 = .ok (.iadd, 1) := by decide +kernel
theorem dX5_rank_81 : decode cX5_rank 81 = .ok (.iaload, 1) := by decide +kernel
theorem dX5_rank_82 : decode cX5_rank 82 = .ok (.aload_n 0, 1) := by decide +kernel
theorem dX5_rank_83 : decode cX5_rank 83 = .ok (.getfield 81, 3) := by decide +kernel
theorem dX5_rank_86 : decode cX5_rank 86 = .ok (.iload 4, 2) := by decide +kernel
theorem dX5_rank_88 : decode cX5_rank 88 = .ok (.iload 5, 2) := by decide +kernel
theorem dX5_rank_90 : decode cX5_rank 90 = .ok (.iadd, 1) := by decide +kernel
theorem dX5_rank_91 : decode cX5_rank 91 = .ok (.invokestatic 123, 3) := by decide +kernel
theorem dX5_rank_94 : decode cX5_rank 94 = .ok (.invokestatic 133, 3) := by decide +kernel
theorem dX5_rank_97 : decode cX5_rank 97 = .ok (.invokestatic 52, 3) := by decide +kernel
theorem dX5_rank_100 : decode cX5_rank 100 = .ok (.iastore, 1) := by decide +kernel
theorem dX5_rank_101 : decode cX5_rank 101 = .ok (.iinc 5 1, 3) := by decide +kernel
theorem dX5_rank_104 : decode cX5_rank 104 = .ok (.goto (-55), 3) := by decide +kernel
theorem dX5_rank_107 : decode cX5_rank 107 = .ok (.iinc 4 1, 3) := by decide +kernel
theorem dX5_rank_110 : decode cX5_rank 110 = .ok (.goto (-70), 3) := by decide +kernel
theorem dX5_rank_113 : decode cX5_rank 113 = .ok (.aload_n 0, 1) := by decide +kernel
theorem dX5_rank_114 : decode cX5_rank 114 = .ok (.iload_n 2, 1) := by decide +kernel
theorem dX5_rank_115 : decode cX5_rank 115 = .ok (.iconst 1, 1) := by decide +kernel
theorem dX5_rank_116 : decode cX5_rank 116 = .ok (.iadd, 1) := by decide +kernel
theorem dX5_rank_117 : decode cX5_rank 117 = .ok (.aload_n 0, 1) := by decide +kernel
theorem dX5_rank_118 : decode cX5_rank 118 = .ok (.getfield 81, 3) := by decide +kernel
theorem dX5_rank_121 : decode cX5_rank 121 = .ok (.iload_n 2, 1) := by decide +kernel
theorem dX5_rank_122 : decode cX5_rank 122 = .ok (.isub, 1) := by decide +kernel
theorem dX5_rank_123 : decode cX5_rank 123 = .ok (.iconst 1, 1) := by decide +kernel
theorem dX5_rank_124 : decode cX5_rank 124 = .ok (.iadd, 1) := by decide +kernel
theorem dX5_rank_125 : decode cX5_rank 125 = .ok (.invokevirtual 152, 3) := by decide +kernel
theorem dX5_rank_128 : decode cX5_rank 128 = .ok (.ireturn, 1) := by decide +kernel
theorem dX5_leadsBy_0 : decode cX5_leadsBy 0 = .ok (.iload_n 1, 1) := by decide +kernel
theorem dX5_leadsBy_1 : decode cX5_leadsBy 1 = .ok (.iload 4, 2) := by decide +kernel
theorem dX5_leadsBy_3 : decode cX5_leadsBy 3 = .ok (.imul, 1) := by decide +kernel
theorem dX5_leadsBy_4 : decode cX5_leadsBy 4 = .ok (.iload_n 2, 1) := by decide +kernel
theorem dX5_leadsBy_5 : decode cX5_leadsBy 5 = .ok (.iload_n 3, 1) := by decide +kernel
theorem dX5_leadsBy_6 : decode cX5_leadsBy 6 = .ok (.imul, 1) := by decide +kernel
theorem dX5_leadsBy_7 : decode cX5_leadsBy 7 = .ok (.isub, 1) := by decide +kernel
theorem dX5_leadsBy_8 : decode cX5_leadsBy 8 = .ok (.ifCond .ne 5, 3) := by decide +kernel
theorem dX5_leadsBy_11 : decode cX5_leadsBy 11 = .ok (.iconst 0, 1) := by decide +kernel
theorem dX5_leadsBy_12 : decode cX5_leadsBy 12 = .ok (.ireturn, 1) := by decide +kernel
theorem dX5_leadsBy_13 : decode cX5_leadsBy 13 = .ok (.aload_n 0, 1) := by decide +kernel
theorem dX5_leadsBy_14 : decode cX5_leadsBy 14 = .ok (.iload_n 1, 1) := by decide +kernel
theorem dX5_leadsBy_15 : decode cX5_leadsBy 15 = .ok (.i2l, 1) := by decide +kernel
theorem dX5_leadsBy_16 : decode cX5_leadsBy 16 = .ok (.invokestatic 48, 3) := by decide +kernel
theorem dX5_leadsBy_19 : decode cX5_leadsBy 19 = .ok (.iload_n 2, 1) := by decide +kernel
theorem dX5_leadsBy_20 : decode cX5_leadsBy 20 = .ok (.i2l, 1) := by decide +kernel
theorem dX5_leadsBy_21 : decode cX5_leadsBy 21 = .ok (.invokestatic 48, 3) := by decide +kernel
theorem dX5_leadsBy_24 : decode cX5_leadsBy 24 = .ok (.iload_n 3, 1) := by decide +kernel
theorem dX5_leadsBy_25 : decode cX5_leadsBy 25 = .ok (.i2l, 1) := by decide +kernel
theorem dX5_leadsBy_26 : decode cX5_leadsBy 26 = .ok (.invokestatic 48, 3) := by decide +kernel
theorem dX5_leadsBy_29 : decode cX5_leadsBy 29 = .ok (.iload 4, 2) := by decide +kernel
theorem dX5_leadsBy_31 : decode cX5_leadsBy 31 = .ok (.i2l, 1) := by decide +kernel
theorem dX5_leadsBy_32 : decode cX5_leadsBy 32 = .ok (.invokestatic 48, 3) := by decide +kernel
theorem dX5_leadsBy_35 : decode cX5_leadsBy 35 = .ok (.invokevirtual 119, 3) := by decide +kernel
theorem dX5_leadsBy_38 : decode cX5_leadsBy 38 = .ok (.iconst 1, 1) := by decide +kernel
theorem dX5_leadsBy_39 : decode cX5_leadsBy 39 = .ok (.istore 5, 2) := by decide +kernel
theorem dX5_leadsBy_41 : decode cX5_leadsBy 41 = .ok (.iconst 0, 1) := by decide +kernel
theorem dX5_leadsBy_42 : decode cX5_leadsBy 42 = .ok (.istore 6, 2) := by decide +kernel
theorem dX5_leadsBy_44 : decode cX5_leadsBy 44 = .ok (.iload 6, 2) := by decide +kernel
theorem dX5_leadsBy_46 : decode cX5_leadsBy 46 = .ok (.aload_n 0, 1) := by decide +kernel
theorem dX5_leadsBy_47 : decode cX5_leadsBy 47 = .ok (.getfield 81, 3) := by decide +kernel
theorem dX5_leadsBy_50 : decode cX5_leadsBy 50 = .ok (.if_icmp .gt 38, 3) := by decide +kernel
theorem dX5_leadsBy_53 : decode cX5_leadsBy 53 = .ok (.iload 5, 2) := by decide +kernel
theorem dX5_leadsBy_55 : decode cX5_leadsBy 55 = .ok (.ifCond .eq 24, 3) := by decide +kernel
theorem dX5_leadsBy_58 : decode cX5_leadsBy 58 = .ok (.aload_n 0, 1) := by decide +kernel
theorem dX5_leadsBy_59 : decode cX5_leadsBy 59 = .ok (.getfield 28, 3) := by decide +kernel
theorem dX5_leadsBy_62 : decode cX5_leadsBy 62 = .ok (.iload 6, 2) := by decide +kernel
theorem dX5_leadsBy_64 : decode cX5_leadsBy 64 = .ok (.iaload, 1) := by decide +kernel
theorem dX5_leadsBy_65 : decode cX5_leadsBy 65 = .ok (.aload_n 0, 1) := by decide +kernel
theorem dX5_leadsBy_66 : decode cX5_leadsBy 66 = .ok (.getfield 25, 3) := by decide +kernel
theorem dX5_leadsBy_69 : decode cX5_leadsBy 69 = .ok (.iload 6, 2) := by decide +kernel
theorem dX5_leadsBy_71 : decode cX5_leadsBy 71 = .ok (.iaload, 1) := by decide +kernel
theorem dX5_leadsBy_72 : decode cX5_leadsBy 72 = .ok (.if_icmp .ne 7, 3) := by decide +kernel
theorem dX5_leadsBy_75 : decode cX5_leadsBy 75 = .ok (.iconst 1, 1) := by decide +kernel
theorem dX5_leadsBy_76 : decode cX5_leadsBy 76 = .ok (.goto 4, 3) := by decide +kernel
theorem dX5_leadsBy_79 : decode cX5_leadsBy 79 = .ok (.iconst 0, 1) := by decide +kernel
theorem dX5_leadsBy_80 : decode cX5_leadsBy 80 = .ok (.istore 5, 2) := by decide +kernel
theorem dX5_leadsBy_82 : decode cX5_leadsBy 82 = .ok (.iinc 6 1, 3) := by decide +kernel
theorem dX5_leadsBy_85 : decode cX5_leadsBy 85 = .ok (.goto (-41), 3) := by decide +kernel
theorem dX5_leadsBy_88 : decode cX5_leadsBy 88 = .ok (.iload 5, 2) := by decide +kernel
theorem dX5_leadsBy_90 : decode cX5_leadsBy 90 = .ok (.ireturn, 1) := by decide +kernel
theorem dX5_lacksLeads_0 : decode cX5_lacksLeads 0 = .ok (.aload_n 0, 1) := by decide +kernel
theorem dX5_lacksLeads_1 : decode cX5_lacksLeads 1 = .ok (.iload_n 1, 1) := by decide +kernel
theorem dX5_lacksLeads_2 : decode cX5_lacksLeads 2 = .ok (.iload_n 2, 1) := by decide +kernel
theorem dX5_lacksLeads_3 : decode cX5_lacksLeads 3 = .ok (.invokevirtual 110, 3) := by decide +kernel
theorem dX5_lacksLeads_6 : decode cX5_lacksLeads 6 = .ok (.istore_n 3, 1) := by decide +kernel
theorem dX5_lacksLeads_7 : decode cX5_lacksLeads 7 = .ok (.iload_n 3, 1) := by decide +kernel
theorem dX5_lacksLeads_8 : decode cX5_lacksLeads 8 = .ok (.ifCond .eq 7, 3) := by decide +kernel
theorem dX5_lacksLeads_11 : decode cX5_lacksLeads 11 = .ok (.iload_n 3, 1) := by decide +kernel
theorem dX5_lacksLeads_12 : decode cX5_lacksLeads 12 = .ok (.goto 20, 3) := by decide +kernel
theorem dX5_lacksLeads_15 : decode cX5_lacksLeads 15 = .ok (.aload_n 0, 1) := by decide +kernel
theorem dX5_lacksLeads_16 : decode cX5_lacksLeads 16 = .ok (.getfield 81, 3) := by decide +kernel
theorem dX5_lacksLeads_19 : decode cX5_lacksLeads 19 = .ok (.aload_n 0, 1) := by decide +kernel
theorem dX5_lacksLeads_20 : decode cX5_lacksLeads 20 = .ok (.getfield 84, 3) := by decide +kernel
theorem dX5_lacksLeads_23 : decode cX5_lacksLeads 23 = .ok (.if_icmp .eq 8, 3) := by decide +kernel
theorem dX5_lacksLeads_26 : decode cX5_lacksLeads 26 = .ok (.bipush (-3), 2) := by decide +kernel
theorem dX5_lacksLeads_28 : decode cX5_lacksLeads 28 = .ok (.goto 4, 3) := by decide +kernel
theorem dX5_lacksLeads_31 : decode cX5_lacksLeads 31 = .ok (.iconst 0, 1) := by decide +kernel
theorem dX5_lacksLeads_32 : decode cX5_lacksLeads 32 = .ok (.ireturn, 1) := by decide +kernel
theorem dX5_leadOf_0 : decode cX5_leadOf 0 = .ok (.iconst 0, 1) := by decide +kernel
theorem dX5_leadOf_1 : decode cX5_leadOf 1 = .ok (.istore_n 3, 1) := by decide +kernel
theorem dX5_leadOf_2 : decode cX5_leadOf 2 = .ok (.iconst 2, 1) := by decide +kernel
theorem dX5_leadOf_3 : decode cX5_leadOf 3 = .ok (.iload_n 1, 1) := by decide +kernel
theorem dX5_leadOf_4 : decode cX5_leadOf 4 = .ok (.imul, 1) := by decide +kernel
theorem dX5_leadOf_5 : decode cX5_leadOf 5 = .ok (.iconst 1, 1) := by decide +kernel
theorem dX5_leadOf_6 : decode cX5_leadOf 6 = .ok (.iadd, 1) := by decide +kernel
theorem dX5_leadOf_7 : decode cX5_leadOf 7 = .ok (.istore 4, 2) := by decide +kernel
theorem dX5_leadOf_9 : decode cX5_leadOf 9 = .ok (.iconst 0, 1) := by decide +kernel
theorem dX5_leadOf_10 : decode cX5_leadOf 10 = .ok (.istore 5, 2) := by decide +kernel
theorem dX5_leadOf_12 : decode cX5_leadOf 12 = .ok (.iload 5, 2) := by decide +kernel
theorem dX5_leadOf_14 : decode cX5_leadOf 14 = .ok (.iload 4, 2) := by decide +kernel
theorem dX5_leadOf_16 : decode cX5_leadOf 16 = .ok (.iload 4, 2) := by decide +kernel
theorem dX5_leadOf_18 : decode cX5_leadOf 18 = .ok (.imul, 1) := by decide +kernel
theorem dX5_leadOf_19 : decode cX5_leadOf 19 = .ok (.iload 4, 2) := by decide +kernel
theorem dX5_leadOf_21 : decode cX5_leadOf 21 = .ok (.imul, 1) := by decide +kernel
theorem dX5_leadOf_22 : decode cX5_leadOf 22 = .ok (.iload 4, 2) := by decide +kernel
theorem dX5_leadOf_24 : decode cX5_leadOf 24 = .ok (.imul, 1) := by decide +kernel
theorem dX5_leadOf_25 : decode cX5_leadOf 25 = .ok (.if_icmp .ge 113, 3) := by decide +kernel
theorem dX5_leadOf_28 : decode cX5_leadOf 28 = .ok (.iload 5, 2) := by decide +kernel
theorem dX5_leadOf_30 : decode cX5_leadOf 30 = .ok (.iload 4, 2) := by decide +kernel
theorem dX5_leadOf_32 : decode cX5_leadOf 32 = .ok (.irem, 1) := by decide +kernel
theorem dX5_leadOf_33 : decode cX5_leadOf 33 = .ok (.iload_n 1, 1) := by decide +kernel
theorem dX5_leadOf_34 : decode cX5_leadOf 34 = .ok (.isub, 1) := by decide +kernel
theorem dX5_leadOf_35 : decode cX5_leadOf 35 = .ok (.istore 6, 2) := by decide +kernel
theorem dX5_leadOf_37 : decode cX5_leadOf 37 = .ok (.iload 5, 2) := by decide +kernel
theorem dX5_leadOf_39 : decode cX5_leadOf 39 = .ok (.iload 4, 2) := by decide +kernel
theorem dX5_leadOf_41 : decode cX5_leadOf 41 = .ok (.idiv, 1) := by decide +kernel
theorem dX5_leadOf_42 : decode cX5_leadOf 42 = .ok (.iload 4, 2) := by decide +kernel
theorem dX5_leadOf_44 : decode cX5_leadOf 44 = .ok (.irem, 1) := by decide +kernel
theorem dX5_leadOf_45 : decode cX5_leadOf 45 = .ok (.iload_n 1, 1) := by decide +kernel
theorem dX5_leadOf_46 : decode cX5_leadOf 46 = .ok (.isub, 1) := by decide +kernel
theorem dX5_leadOf_47 : decode cX5_leadOf 47 = .ok (.istore 7, 2) := by decide +kernel
theorem dX5_leadOf_49 : decode cX5_leadOf 49 = .ok (.iload 5, 2) := by decide +kernel
theorem dX5_leadOf_51 : decode cX5_leadOf 51 = .ok (.iload 4, 2) := by decide +kernel
theorem dX5_leadOf_53 : decode cX5_leadOf 53 = .ok (.iload 4, 2) := by decide +kernel
theorem dX5_leadOf_55 : decode cX5_leadOf 55 = .ok (.imul, 1) := by decide +kernel
theorem dX5_leadOf_56 : decode cX5_leadOf 56 = .ok (.idiv, 1) := by decide +kernel
theorem dX5_leadOf_57 : decode cX5_leadOf 57 = .ok (.iload 4, 2) := by decide +kernel
theorem dX5_leadOf_59 : decode cX5_leadOf 59 = .ok (.irem, 1) := by decide +kernel
theorem dX5_leadOf_60 : decode cX5_leadOf 60 = .ok (.iload_n 1, 1) := by decide +kernel
theorem dX5_leadOf_61 : decode cX5_leadOf 61 = .ok (.isub, 1) := by decide +kernel
theorem dX5_leadOf_62 : decode cX5_leadOf 62 = .ok (.istore 8, 2) := by decide +kernel
theorem dX5_leadOf_64 : decode cX5_leadOf 64 = .ok (.iload 5, 2) := by decide +kernel
theorem dX5_leadOf_66 : decode cX5_leadOf 66 = .ok (.iload 4, 2) := by decide +kernel
theorem dX5_leadOf_68 : decode cX5_leadOf 68 = .ok (.iload 4, 2) := by decide +kernel
theorem dX5_leadOf_70 : decode cX5_leadOf 70 = .ok (.imul, 1) := by decide +kernel
theorem dX5_leadOf_71 : decode cX5_leadOf 71 = .ok (.iload 4, 2) := by decide +kernel
theorem dX5_leadOf_73 : decode cX5_leadOf 73 = .ok (.imul, 1) := by decide +kernel
theorem dX5_leadOf_74 : decode cX5_leadOf 74 = .ok (.idiv, 1) := by decide +kernel
theorem dX5_leadOf_75 : decode cX5_leadOf 75 = .ok (.iload_n 1, 1) := by decide +kernel
theorem dX5_leadOf_76 : decode cX5_leadOf 76 = .ok (.isub, 1) := by decide +kernel
theorem dX5_leadOf_77 : decode cX5_leadOf 77 = .ok (.istore 9, 2) := by decide +kernel
theorem dX5_leadOf_79 : decode cX5_leadOf 79 = .ok (.aload_n 0, 1) := by decide +kernel
theorem dX5_leadOf_80 : decode cX5_leadOf 80 = .ok (.iload 9, 2) := by decide +kernel
theorem dX5_leadOf_82 : decode cX5_leadOf 82 = .ok (.iload 8, 2) := by decide +kernel
theorem dX5_leadOf_84 : decode cX5_leadOf 84 = .ok (.iload 7, 2) := by decide +kernel
theorem dX5_leadOf_86 : decode cX5_leadOf 86 = .ok (.iload 6, 2) := by decide +kernel
theorem dX5_leadOf_88 : decode cX5_leadOf 88 = .ok (.invokevirtual 160, 3) := by decide +kernel
theorem dX5_leadOf_91 : decode cX5_leadOf 91 = .ok (.ifCond .eq 41, 3) := by decide +kernel
theorem dX5_leadOf_94 : decode cX5_leadOf 94 = .ok (.iload_n 3, 1) := by decide +kernel
theorem dX5_leadOf_95 : decode cX5_leadOf 95 = .ok (.iload_n 2, 1) := by decide +kernel
theorem dX5_leadOf_96 : decode cX5_leadOf 96 = .ok (.if_icmp .ne 33, 3) := by decide +kernel
theorem dX5_leadOf_99 : decode cX5_leadOf 99 = .ok (.sipush 1000, 3) := by decide +kernel
theorem dX5_leadOf_102 : decode cX5_leadOf 102 = .ok (.iload 9, 2) := by decide +kernel
theorem dX5_leadOf_104 : decode cX5_leadOf 104 = .ok (.iconst 2, 1) := by decide +kernel
theorem dX5_leadOf_105 : decode cX5_leadOf 105 = .ok (.iadd, 1) := by decide +kernel
theorem dX5_leadOf_106 : decode cX5_leadOf 106 = .ok (.imul, 1) := by decide +kernel
theorem dX5_leadOf_107 : decode cX5_leadOf 107 = .ok (.bipush 100, 2) := by decide +kernel
theorem dX5_leadOf_109 : decode cX5_leadOf 109 = .ok (.iload 8, 2) := by decide +kernel
theorem dX5_leadOf_111 : decode cX5_leadOf 111 = .ok (.iconst 2, 1) := by decide +kernel
theorem dX5_leadOf_112 : decode cX5_leadOf 112 = .ok (.iadd, 1) := by decide +kernel
theorem dX5_leadOf_113 : decode cX5_leadOf 113 = .ok (.imul, 1) := by decide +kernel
theorem dX5_leadOf_114 : decode cX5_leadOf 114 = .ok (.iadd, 1) := by decide +kernel
theorem dX5_leadOf_115 : decode cX5_leadOf 115 = .ok (.bipush 10, 2) := by decide +kernel
theorem dX5_leadOf_117 : decode cX5_leadOf 117 = .ok (.iload 7, 2) := by decide +kernel
theorem dX5_leadOf_119 : decode cX5_leadOf 119 = .ok (.iconst 2, 1) := by decide +kernel
theorem dX5_leadOf_120 : decode cX5_leadOf 120 = .ok (.iadd, 1) := by decide +kernel
theorem dX5_leadOf_121 : decode cX5_leadOf 121 = .ok (.imul, 1) := by decide +kernel
theorem dX5_leadOf_122 : decode cX5_leadOf 122 = .ok (.iadd, 1) := by decide +kernel
theorem dX5_leadOf_123 : decode cX5_leadOf 123 = .ok (.iload 6, 2) := by decide +kernel
theorem dX5_leadOf_125 : decode cX5_leadOf 125 = .ok (.iadd, 1) := by decide +kernel
theorem dX5_leadOf_126 : decode cX5_leadOf 126 = .ok (.iconst 2, 1) := by decide +kernel
theorem dX5_leadOf_127 : decode cX5_leadOf 127 = .ok (.iadd, 1) := by decide +kernel
theorem dX5_leadOf_128 : decode cX5_leadOf 128 = .ok (.ireturn, 1) := by decide +kernel
theorem dX5_leadOf_129 : decode cX5_leadOf 129 = .ok (.iinc 3 1, 3) := by decide +kernel
theorem dX5_leadOf_132 : decode cX5_leadOf 132 = .ok (.iinc 5 1, 3) := by decide +kernel
theorem dX5_leadOf_135 : decode cX5_leadOf 135 = .ok (.goto (-123), 3) := by decide +kernel
theorem dX5_leadOf_138 : decode cX5_leadOf 138 = .ok (.iconst (-1), 1) := by decide +kernel
theorem dX5_leadOf_139 : decode cX5_leadOf 139 = .ok (.iload_n 3, 1) := by decide +kernel
theorem dX5_leadOf_140 : decode cX5_leadOf 140 = .ok (.isub, 1) := by decide +kernel
theorem dX5_leadOf_141 : decode cX5_leadOf 141 = .ok (.ireturn, 1) := by decide +kernel
theorem dX5_leads_0 : decode cX5_leads 0 = .ok (.iload_n 1, 1) := by decide +kernel
theorem dX5_leads_1 : decode cX5_leads 1 = .ok (.invokestatic 66, 3) := by decide +kernel
theorem dX5_leads_4 : decode cX5_leads 4 = .ok (.ifCond .eq 22, 3) := by decide +kernel
theorem dX5_leads_7 : decode cX5_leads 7 = .ok (.iload_n 2, 1) := by decide +kernel
theorem dX5_leads_8 : decode cX5_leads 8 = .ok (.invokestatic 66, 3) := by decide +kernel
theorem dX5_leads_11 : decode cX5_leads 11 = .ok (.ifCond .eq 15, 3) := by decide +kernel
theorem dX5_leads_14 : decode cX5_leads 14 = .ok (.iload_n 3, 1) := by decide +kernel
theorem dX5_leads_15 : decode cX5_leads 15 = .ok (.i2l, 1) := by decide +kernel
theorem dX5_leads_16 : decode cX5_leads 16 = .ok (.lconst 1, 1) := by decide +kernel
theorem dX5_leads_17 : decode cX5_leads 17 = .ok (.ldc2_w 70, 3) := by decide +kernel
theorem dX5_leads_20 : decode cX5_leads 20 = .ok (.invokestatic 62, 3) := by decide +kernel
theorem dX5_leads_23 : decode cX5_leads 23 = .ok (.ifCond .ne 6, 3) := by decide +kernel
theorem dX5_leads_26 : decode cX5_leads 26 = .ok (.bipush (-2), 2) := by decide +kernel
theorem dX5_leads_28 : decode cX5_leads 28 = .ok (.ireturn, 1) := by decide +kernel
theorem dX5_leads_29 : decode cX5_leads 29 = .ok (.aload_n 0, 1) := by decide +kernel
theorem dX5_leads_30 : decode cX5_leads 30 = .ok (.iload_n 1, 1) := by decide +kernel
theorem dX5_leads_31 : decode cX5_leads 31 = .ok (.iload_n 2, 1) := by decide +kernel
theorem dX5_leads_32 : decode cX5_leads 32 = .ok (.invokevirtual 164, 3) := by decide +kernel
theorem dX5_leads_35 : decode cX5_leads 35 = .ok (.istore 4, 2) := by decide +kernel
theorem dX5_leads_37 : decode cX5_leads 37 = .ok (.iload 4, 2) := by decide +kernel
theorem dX5_leads_39 : decode cX5_leads 39 = .ok (.ifCond .eq 8, 3) := by decide +kernel
theorem dX5_leads_42 : decode cX5_leads 42 = .ok (.iload 4, 2) := by decide +kernel
theorem dX5_leads_44 : decode cX5_leads 44 = .ok (.goto 13, 3) := by decide +kernel
theorem dX5_leads_47 : decode cX5_leads 47 = .ok (.iconst (-1), 1) := by decide +kernel
theorem dX5_leads_48 : decode cX5_leads 48 = .ok (.aload_n 0, 1) := by decide +kernel
theorem dX5_leads_49 : decode cX5_leads 49 = .ok (.iload_n 3, 1) := by decide +kernel
theorem dX5_leads_50 : decode cX5_leads 50 = .ok (.sipush 1000, 3) := by decide +kernel
theorem dX5_leads_53 : decode cX5_leads 53 = .ok (.invokevirtual 167, 3) := by decide +kernel
theorem dX5_leads_56 : decode cX5_leads 56 = .ok (.isub, 1) := by decide +kernel
theorem dX5_leads_57 : decode cX5_leads 57 = .ok (.ireturn, 1) := by decide +kernel
theorem dX5_lead_0 : decode cX5_lead 0 = .ok (.iload_n 1, 1) := by decide +kernel
theorem dX5_lead_1 : decode cX5_lead 1 = .ok (.invokestatic 66, 3) := by decide +kernel
theorem dX5_lead_4 : decode cX5_lead 4 = .ok (.ifCond .eq 27, 3) := by decide +kernel
theorem dX5_lead_7 : decode cX5_lead 7 = .ok (.iload_n 2, 1) := by decide +kernel
theorem dX5_lead_8 : decode cX5_lead 8 = .ok (.invokestatic 66, 3) := by decide +kernel
theorem dX5_lead_11 : decode cX5_lead 11 = .ok (.ifCond .eq 20, 3) := by decide +kernel
theorem dX5_lead_14 : decode cX5_lead 14 = .ok (.iload_n 3, 1) := by decide +kernel
theorem dX5_lead_15 : decode cX5_lead 15 = .ok (.i2l, 1) := by decide +kernel
theorem dX5_lead_16 : decode cX5_lead 16 = .ok (.lconst 1, 1) := by decide +kernel
theorem dX5_lead_17 : decode cX5_lead 17 = .ok (.ldc2_w 70, 3) := by decide +kernel
theorem dX5_lead_20 : decode cX5_lead 20 = .ok (.invokestatic 62, 3) := by decide +kernel
theorem dX5_lead_23 : decode cX5_lead 23 = .ok (.ifCond .eq 8, 3) := by decide +kernel
theorem dX5_lead_26 : decode cX5_lead 26 = .ok (.iload 4, 2) := by decide +kernel
theorem dX5_lead_28 : decode cX5_lead 28 = .ok (.ifCond .ge 6, 3) := by decide +kernel
theorem dX5_lead_31 : decode cX5_lead 31 = .ok (.bipush (-2), 2) := by decide +kernel
theorem dX5_lead_33 : decode cX5_lead 33 = .ok (.ireturn, 1) := by decide +kernel
theorem dX5_lead_34 : decode cX5_lead 34 = .ok (.aload_n 0, 1) := by decide +kernel
theorem dX5_lead_35 : decode cX5_lead 35 = .ok (.iload_n 1, 1) := by decide +kernel
theorem dX5_lead_36 : decode cX5_lead 36 = .ok (.iload_n 2, 1) := by decide +kernel
theorem dX5_lead_37 : decode cX5_lead 37 = .ok (.invokevirtual 164, 3) := by decide +kernel
theorem dX5_lead_40 : decode cX5_lead 40 = .ok (.istore 5, 2) := by decide +kernel
theorem dX5_lead_42 : decode cX5_lead 42 = .ok (.iload 5, 2) := by decide +kernel
theorem dX5_lead_44 : decode cX5_lead 44 = .ok (.ifCond .eq 6, 3) := by decide +kernel
theorem dX5_lead_47 : decode cX5_lead 47 = .ok (.iload 5, 2) := by decide +kernel
theorem dX5_lead_49 : decode cX5_lead 49 = .ok (.ireturn, 1) := by decide +kernel
theorem dX5_lead_50 : decode cX5_lead 50 = .ok (.aload_n 0, 1) := by decide +kernel
theorem dX5_lead_51 : decode cX5_lead 51 = .ok (.iload_n 3, 1) := by decide +kernel
theorem dX5_lead_52 : decode cX5_lead 52 = .ok (.iload 4, 2) := by decide +kernel
theorem dX5_lead_54 : decode cX5_lead 54 = .ok (.invokevirtual 167, 3) := by decide +kernel
theorem dX5_lead_57 : decode cX5_lead 57 = .ok (.istore 6, 2) := by decide +kernel
theorem dX5_lead_59 : decode cX5_lead 59 = .ok (.iload 6, 2) := by decide +kernel
theorem dX5_lead_61 : decode cX5_lead 61 = .ok (.ifCond .ge 7, 3) := by decide +kernel
theorem dX5_lead_64 : decode cX5_lead 64 = .ok (.iconst (-1), 1) := by decide +kernel
theorem dX5_lead_65 : decode cX5_lead 65 = .ok (.goto 5, 3) := by decide +kernel
theorem dX5_lead_68 : decode cX5_lead 68 = .ok (.iload 6, 2) := by decide +kernel
theorem dX5_lead_70 : decode cX5_lead 70 = .ok (.ireturn, 1) := by decide +kernel
theorem dX5_waysOf_0 : decode cX5_waysOf 0 = .ok (.iload_n 1, 1) := by decide +kernel
theorem dX5_waysOf_1 : decode cX5_waysOf 1 = .ok (.ifCond .ge 5, 3) := by decide +kernel
theorem dX5_waysOf_4 : decode cX5_waysOf 4 = .ok (.iconst 0, 1) := by decide +kernel
theorem dX5_waysOf_5 : decode cX5_waysOf 5 = .ok (.ireturn, 1) := by decide +kernel
theorem dX5_waysOf_6 : decode cX5_waysOf 6 = .ok (.iconst 0, 1) := by decide +kernel
theorem dX5_waysOf_7 : decode cX5_waysOf 7 = .ok (.istore 4, 2) := by decide +kernel
theorem dX5_waysOf_9 : decode cX5_waysOf 9 = .ok (.iload 4, 2) := by decide +kernel
theorem dX5_waysOf_11 : decode cX5_waysOf 11 = .ok (.sipush 297, 3) := by decide +kernel
theorem dX5_waysOf_14 : decode cX5_waysOf 14 = .ok (.if_icmp .ge 26, 3) := by decide +kernel
theorem dX5_waysOf_17 : decode cX5_waysOf 17 = .ok (.aload_n 0, 1) := by decide +kernel
theorem dX5_waysOf_18 : decode cX5_waysOf 18 = .ok (.getfield 43, 3) := by decide +kernel
theorem dX5_waysOf_21 : decode cX5_waysOf 21 = .ok (.iload 4, 2) := by decide +kernel
theorem dX5_waysOf_23 : decode cX5_waysOf 23 = .ok (.iload 4, 2) := by decide +kernel
theorem dX5_waysOf_25 : decode cX5_waysOf 25 = .ok (.ifCond .ne 7, 3) := by decide +kernel
theorem dX5_waysOf_28 : decode cX5_waysOf 28 = .ok (.iconst 1, 1) := by decide +kernel
theorem dX5_waysOf_29 : decode cX5_waysOf 29 = .ok (.goto 4, 3) := by decide +kernel
theorem dX5_waysOf_32 : decode cX5_waysOf 32 = .ok (.iconst 0, 1) := by decide +kernel
theorem dX5_waysOf_33 : decode cX5_waysOf 33 = .ok (.iastore, 1) := by decide +kernel
theorem dX5_waysOf_34 : decode cX5_waysOf 34 = .ok (.iinc 4 1, 3) := by decide +kernel
theorem dX5_waysOf_37 : decode cX5_waysOf 37 = .ok (.goto (-28), 3) := by decide +kernel
theorem dX5_waysOf_40 : decode cX5_waysOf 40 = .ok (.iconst 1, 1) := by decide +kernel
theorem dX5_waysOf_41 : decode cX5_waysOf 41 = .ok (.istore 4, 2) := by decide +kernel
theorem dX5_waysOf_43 : decode cX5_waysOf 43 = .ok (.iload 4, 2) := by decide +kernel
theorem dX5_waysOf_45 : decode cX5_waysOf 45 = .ok (.iload_n 2, 1) := by decide +kernel
theorem dX5_waysOf_46 : decode cX5_waysOf 46 = .ok (.if_icmp .gt 74, 3) := by decide +kernel
theorem dX5_waysOf_49 : decode cX5_waysOf 49 = .ok (.iconst 1, 1) := by decide +kernel
theorem dX5_waysOf_50 : decode cX5_waysOf 50 = .ok (.istore 5, 2) := by decide +kernel
theorem dX5_waysOf_52 : decode cX5_waysOf 52 = .ok (.iload 5, 2) := by decide +kernel
theorem dX5_waysOf_54 : decode cX5_waysOf 54 = .ok (.iload_n 3, 1) := by decide +kernel
theorem dX5_waysOf_55 : decode cX5_waysOf 55 = .ok (.if_icmp .gt 59, 3) := by decide +kernel
theorem dX5_waysOf_58 : decode cX5_waysOf 58 = .ok (.iload 4, 2) := by decide +kernel
theorem dX5_waysOf_60 : decode cX5_waysOf 60 = .ok (.istore 6, 2) := by decide +kernel
theorem dX5_waysOf_62 : decode cX5_waysOf 62 = .ok (.iload 6, 2) := by decide +kernel
theorem dX5_waysOf_64 : decode cX5_waysOf 64 = .ok (.iload_n 1, 1) := by decide +kernel
theorem dX5_waysOf_65 : decode cX5_waysOf 65 = .ok (.if_icmp .gt 43, 3) := by decide +kernel
theorem dX5_waysOf_68 : decode cX5_waysOf 68 = .ok (.aload_n 0, 1) := by decide +kernel
theorem dX5_waysOf_69 : decode cX5_waysOf 69 = .ok (.getfield 43, 3) := by decide +kernel
theorem dX5_waysOf_72 : decode cX5_waysOf 72 = .ok (.bipush 33, 2) := by decide +kernel
theorem dX5_waysOf_74 : decode cX5_waysOf 74 = .ok (.iload 5, 2) := by decide +kernel
theorem dX5_waysOf_76 : decode cX5_waysOf 76 = .ok (.imul, 1) := by decide +kernel
theorem dX5_waysOf_77 : decode cX5_waysOf 77 = .ok (.iload 6, 2) := by decide +kernel
theorem dX5_waysOf_79 : decode cX5_waysOf 79 = .ok (.iadd, 1) := by decide +kernel
theorem dX5_waysOf_80 : decode cX5_waysOf 80 = .ok (.dup2, 1) := by decide +kernel
theorem dX5_waysOf_81 : decode cX5_waysOf 81 = .ok (.iaload, 1) := by decide +kernel
theorem dX5_waysOf_82 : decode cX5_waysOf 82 = .ok (.aload_n 0, 1) := by decide +kernel
theorem dX5_waysOf_83 : decode cX5_waysOf 83 = .ok (.getfield 43, 3) := by decide +kernel
theorem dX5_waysOf_86 : decode cX5_waysOf 86 = .ok (.bipush 33, 2) := by decide +kernel
theorem dX5_waysOf_88 : decode cX5_waysOf 88 = .ok (.iload 5, 2) := by decide +kernel
theorem dX5_waysOf_90 : decode cX5_waysOf 90 = .ok (.iconst 1, 1) := by decide +kernel
theorem dX5_waysOf_91 : decode cX5_waysOf 91 = .ok (.isub, 1) := by decide +kernel
theorem dX5_waysOf_92 : decode cX5_waysOf 92 = .ok (.imul, 1) := by decide +kernel
theorem dX5_waysOf_93 : decode cX5_waysOf 93 = .ok (.iload 6, 2) := by decide +kernel
theorem dX5_waysOf_95 : decode cX5_waysOf 95 = .ok (.iadd, 1) := by decide +kernel
theorem dX5_waysOf_96 : decode cX5_waysOf 96 = .ok (.iload 4, 2) := by decide +kernel
theorem dX5_waysOf_98 : decode cX5_waysOf 98 = .ok (.isub, 1) := by decide +kernel
theorem dX5_waysOf_99 : decode cX5_waysOf 99 = .ok (.iaload, 1) := by decide +kernel
theorem dX5_waysOf_100 : decode cX5_waysOf 100 = .ok (.iadd, 1) := by decide +kernel
theorem dX5_waysOf_101 : decode cX5_waysOf 101 = .ok (.iastore, 1) := by decide +kernel
theorem dX5_waysOf_102 : decode cX5_waysOf 102 = .ok (.iinc 6 1, 3) := by decide +kernel
theorem dX5_waysOf_105 : decode cX5_waysOf 105 = .ok (.goto (-43), 3) := by decide +kernel
theorem dX5_waysOf_108 : decode cX5_waysOf 108 = .ok (.iinc 5 1, 3) := by decide +kernel
theorem dX5_waysOf_111 : decode cX5_waysOf 111 = .ok (.goto (-59), 3) := by decide +kernel
theorem dX5_waysOf_114 : decode cX5_waysOf 114 = .ok (.iinc 4 1, 3) := by decide +kernel
theorem dX5_waysOf_117 : decode cX5_waysOf 117 = .ok (.goto (-74), 3) := by decide +kernel
theorem dX5_waysOf_120 : decode cX5_waysOf 120 = .ok (.iconst 0, 1) := by decide +kernel
theorem dX5_waysOf_121 : decode cX5_waysOf 121 = .ok (.istore 4, 2) := by decide +kernel
theorem dX5_waysOf_123 : decode cX5_waysOf 123 = .ok (.iconst 0, 1) := by decide +kernel
theorem dX5_waysOf_124 : decode cX5_waysOf 124 = .ok (.istore 5, 2) := by decide +kernel
theorem dX5_waysOf_126 : decode cX5_waysOf 126 = .ok (.iload 5, 2) := by decide +kernel
theorem dX5_waysOf_128 : decode cX5_waysOf 128 = .ok (.iload_n 3, 1) := by decide +kernel
theorem dX5_waysOf_129 : decode cX5_waysOf 129 = .ok (.if_icmp .gt 26, 3) := by decide +kernel
theorem dX5_waysOf_132 : decode cX5_waysOf 132 = .ok (.iload 4, 2) := by decide +kernel
theorem dX5_waysOf_134 : decode cX5_waysOf 134 = .ok (.aload_n 0, 1) := by decide +kernel
theorem dX5_waysOf_135 : decode cX5_waysOf 135 = .ok (.getfield 43, 3) := by decide +kernel
theorem dX5_waysOf_138 : decode cX5_waysOf 138 = .ok (.bipush 33, 2) := by decide +kernel
theorem dX5_waysOf_140 : decode cX5_waysOf 140 = .ok (.iload 5, 2) := by decide +kernel
theorem dX5_waysOf_142 : decode cX5_waysOf 142 = .ok (.imul, 1) := by decide +kernel
theorem dX5_waysOf_143 : decode cX5_waysOf 143 = .ok (.iload_n 1, 1) := by decide +kernel
theorem dX5_waysOf_144 : decode cX5_waysOf 144 = .ok (.iadd, 1) := by decide +kernel
theorem dX5_waysOf_145 : decode cX5_waysOf 145 = .ok (.iaload, 1) := by decide +kernel
theorem dX5_waysOf_146 : decode cX5_waysOf 146 = .ok (.iadd, 1) := by decide +kernel
theorem dX5_waysOf_147 : decode cX5_waysOf 147 = .ok (.istore 4, 2) := by decide +kernel
theorem dX5_waysOf_149 : decode cX5_waysOf 149 = .ok (.iinc 5 1, 3) := by decide +kernel
theorem dX5_waysOf_152 : decode cX5_waysOf 152 = .ok (.goto (-26), 3) := by decide +kernel
theorem dX5_waysOf_155 : decode cX5_waysOf 155 = .ok (.iload 4, 2) := by decide +kernel
theorem dX5_waysOf_157 : decode cX5_waysOf 157 = .ok (.ireturn, 1) := by decide +kernel
theorem dX5_staying_0 : decode cX5_staying 0 = .ok (.iload_n 1, 1) := by decide +kernel
theorem dX5_staying_1 : decode cX5_staying 1 = .ok (.i2l, 1) := by decide +kernel
theorem dX5_staying_2 : decode cX5_staying 2 = .ok (.lconst 1, 1) := by decide +kernel
theorem dX5_staying_3 : decode cX5_staying 3 = .ok (.ldc2_w 100, 3) := by decide +kernel
theorem dX5_staying_6 : decode cX5_staying 6 = .ok (.invokestatic 62, 3) := by decide +kernel
theorem dX5_staying_9 : decode cX5_staying 9 = .ok (.ifCond .eq 28, 3) := by decide +kernel
theorem dX5_staying_12 : decode cX5_staying 12 = .ok (.iload_n 2, 1) := by decide +kernel
theorem dX5_staying_13 : decode cX5_staying 13 = .ok (.i2l, 1) := by decide +kernel
theorem dX5_staying_14 : decode cX5_staying 14 = .ok (.lconst 0, 1) := by decide +kernel
theorem dX5_staying_15 : decode cX5_staying 15 = .ok (.ldc2_w 100, 3) := by decide +kernel
theorem dX5_staying_18 : decode cX5_staying 18 = .ok (.invokestatic 62, 3) := by decide +kernel
theorem dX5_staying_21 : decode cX5_staying 21 = .ok (.ifCond .eq 16, 3) := by decide +kernel
theorem dX5_staying_24 : decode cX5_staying 24 = .ok (.iload_n 3, 1) := by decide +kernel
theorem dX5_staying_25 : decode cX5_staying 25 = .ok (.i2l, 1) := by decide +kernel
theorem dX5_staying_26 : decode cX5_staying 26 = .ok (.lconst 0, 1) := by decide +kernel
theorem dX5_staying_27 : decode cX5_staying 27 = .ok (.iload_n 1, 1) := by decide +kernel
theorem dX5_staying_28 : decode cX5_staying 28 = .ok (.iload_n 2, 1) := by decide +kernel
theorem dX5_staying_29 : decode cX5_staying 29 = .ok (.imul, 1) := by decide +kernel
theorem dX5_staying_30 : decode cX5_staying 30 = .ok (.i2l, 1) := by decide +kernel
theorem dX5_staying_31 : decode cX5_staying 31 = .ok (.invokestatic 62, 3) := by decide +kernel
theorem dX5_staying_34 : decode cX5_staying 34 = .ok (.ifCond .ne 6, 3) := by decide +kernel
theorem dX5_staying_37 : decode cX5_staying 37 = .ok (.bipush (-2), 2) := by decide +kernel
theorem dX5_staying_39 : decode cX5_staying 39 = .ok (.ireturn, 1) := by decide +kernel
theorem dX5_staying_40 : decode cX5_staying 40 = .ok (.iload_n 1, 1) := by decide +kernel
theorem dX5_staying_41 : decode cX5_staying 41 = .ok (.iload_n 2, 1) := by decide +kernel
theorem dX5_staying_42 : decode cX5_staying 42 = .ok (.imul, 1) := by decide +kernel
theorem dX5_staying_43 : decode cX5_staying 43 = .ok (.iload_n 3, 1) := by decide +kernel
theorem dX5_staying_44 : decode cX5_staying 44 = .ok (.isub, 1) := by decide +kernel
theorem dX5_staying_45 : decode cX5_staying 45 = .ok (.iconst 2, 1) := by decide +kernel
theorem dX5_staying_46 : decode cX5_staying 46 = .ok (.irem, 1) := by decide +kernel
theorem dX5_staying_47 : decode cX5_staying 47 = .ok (.ifCond .eq 5, 3) := by decide +kernel
theorem dX5_staying_50 : decode cX5_staying 50 = .ok (.iconst 0, 1) := by decide +kernel
theorem dX5_staying_51 : decode cX5_staying 51 = .ok (.ireturn, 1) := by decide +kernel
theorem dX5_staying_52 : decode cX5_staying 52 = .ok (.iload_n 1, 1) := by decide +kernel
theorem dX5_staying_53 : decode cX5_staying 53 = .ok (.iload_n 2, 1) := by decide +kernel
theorem dX5_staying_54 : decode cX5_staying 54 = .ok (.imul, 1) := by decide +kernel
theorem dX5_staying_55 : decode cX5_staying 55 = .ok (.iload_n 3, 1) := by decide +kernel
theorem dX5_staying_56 : decode cX5_staying 56 = .ok (.isub, 1) := by decide +kernel
theorem dX5_staying_57 : decode cX5_staying 57 = .ok (.iconst 2, 1) := by decide +kernel
theorem dX5_staying_58 : decode cX5_staying 58 = .ok (.idiv, 1) := by decide +kernel
theorem dX5_staying_59 : decode cX5_staying 59 = .ok (.istore 4, 2) := by decide +kernel
theorem dX5_staying_61 : decode cX5_staying 61 = .ok (.aload_n 0, 1) := by decide +kernel
theorem dX5_staying_62 : decode cX5_staying 62 = .ok (.iload 4, 2) := by decide +kernel
theorem dX5_staying_64 : decode cX5_staying 64 = .ok (.iload_n 1, 1) := by decide +kernel
theorem dX5_staying_65 : decode cX5_staying 65 = .ok (.iload_n 2, 1) := by decide +kernel
theorem dX5_staying_66 : decode cX5_staying 66 = .ok (.invokevirtual 170, 3) := by decide +kernel
theorem dX5_staying_69 : decode cX5_staying 69 = .ok (.aload_n 0, 1) := by decide +kernel
theorem dX5_staying_70 : decode cX5_staying 70 = .ok (.iload 4, 2) := by decide +kernel
theorem dX5_staying_72 : decode cX5_staying 72 = .ok (.iconst 1, 1) := by decide +kernel
theorem dX5_staying_73 : decode cX5_staying 73 = .ok (.isub, 1) := by decide +kernel
theorem dX5_staying_74 : decode cX5_staying 74 = .ok (.iload_n 1, 1) := by decide +kernel
theorem dX5_staying_75 : decode cX5_staying 75 = .ok (.iload_n 2, 1) := by decide +kernel
theorem dX5_staying_76 : decode cX5_staying 76 = .ok (.invokevirtual 170, 3) := by decide +kernel
theorem dX5_staying_79 : decode cX5_staying 79 = .ok (.isub, 1) := by decide +kernel
theorem dX5_staying_80 : decode cX5_staying 80 = .ok (.ireturn, 1) := by decide +kernel
theorem dX5_count_0 : decode cX5_count 0 = .ok (.iconst 0, 1) := by decide +kernel
theorem dX5_count_1 : decode cX5_count 1 = .ok (.istore_n 2, 1) := by decide +kernel
theorem dX5_count_2 : decode cX5_count 2 = .ok (.iload_n 1, 1) := by decide +kernel
theorem dX5_count_3 : decode cX5_count 3 = .ok (.tableswitch 95 0 2 #[25, 58, 63], 25) := by decide +kernel
theorem dX5_count_28 : decode cX5_count 28 = .ok (.iconst 0, 1) := by decide +kernel
theorem dX5_count_29 : decode cX5_count 29 = .ok (.istore_n 3, 1) := by decide +kernel
theorem dX5_count_30 : decode cX5_count 30 = .ok (.iload_n 3, 1) := by decide +kernel
theorem dX5_count_31 : decode cX5_count 31 = .ok (.bipush 10, 2) := by decide +kernel
theorem dX5_count_33 : decode cX5_count 33 = .ok (.if_icmp .ge 26, 3) := by decide +kernel
theorem dX5_count_36 : decode cX5_count 36 = .ok (.iload_n 2, 1) := by decide +kernel
theorem dX5_count_37 : decode cX5_count 37 = .ok (.aload_n 0, 1) := by decide +kernel
theorem dX5_count_38 : decode cX5_count 38 = .ok (.getfield 7, 3) := by decide +kernel
theorem dX5_count_41 : decode cX5_count 41 = .ok (.iload_n 3, 1) := by decide +kernel
theorem dX5_count_42 : decode cX5_count 42 = .ok (.iaload, 1) := by decide +kernel
theorem dX5_count_43 : decode cX5_count 43 = .ok (.ifCond .ge 7, 3) := by decide +kernel
theorem dX5_count_46 : decode cX5_count 46 = .ok (.iconst 0, 1) := by decide +kernel
theorem dX5_count_47 : decode cX5_count 47 = .ok (.goto 4, 3) := by decide +kernel
theorem dX5_count_50 : decode cX5_count 50 = .ok (.iconst 1, 1) := by decide +kernel
theorem dX5_count_51 : decode cX5_count 51 = .ok (.iadd, 1) := by decide +kernel
theorem dX5_count_52 : decode cX5_count 52 = .ok (.istore_n 2, 1) := by decide +kernel
theorem dX5_count_53 : decode cX5_count 53 = .ok (.iinc 3 1, 3) := by decide +kernel
theorem dX5_count_56 : decode cX5_count 56 = .ok (.goto (-26), 3) := by decide +kernel
theorem dX5_count_59 : decode cX5_count 59 = .ok (.iload_n 2, 1) := by decide +kernel
theorem dX5_count_60 : decode cX5_count 60 = .ok (.ireturn, 1) := by decide +kernel
theorem dX5_count_61 : decode cX5_count 61 = .ok (.aload_n 0, 1) := by decide +kernel
theorem dX5_count_62 : decode cX5_count 62 = .ok (.getfield 56, 3) := by decide +kernel
theorem dX5_count_65 : decode cX5_count 65 = .ok (.ireturn, 1) := by decide +kernel
theorem dX5_count_66 : decode cX5_count 66 = .ok (.iconst 0, 1) := by decide +kernel
theorem dX5_count_67 : decode cX5_count 67 = .ok (.istore_n 3, 1) := by decide +kernel
theorem dX5_count_68 : decode cX5_count 68 = .ok (.iload_n 3, 1) := by decide +kernel
theorem dX5_count_69 : decode cX5_count 69 = .ok (.bipush 10, 2) := by decide +kernel
theorem dX5_count_71 : decode cX5_count 71 = .ok (.if_icmp .ge 25, 3) := by decide +kernel
theorem dX5_count_74 : decode cX5_count 74 = .ok (.iload_n 2, 1) := by decide +kernel
theorem dX5_count_75 : decode cX5_count 75 = .ok (.aload_n 0, 1) := by decide +kernel
theorem dX5_count_76 : decode cX5_count 76 = .ok (.iload_n 3, 1) := by decide +kernel
theorem dX5_count_77 : decode cX5_count 77 = .ok (.invokevirtual 90, 3) := by decide +kernel
theorem dX5_count_80 : decode cX5_count 80 = .ok (.ifCond .eq 7, 3) := by decide +kernel
theorem dX5_count_83 : decode cX5_count 83 = .ok (.iconst 1, 1) := by decide +kernel
theorem dX5_count_84 : decode cX5_count 84 = .ok (.goto 4, 3) := by decide +kernel
theorem dX5_count_87 : decode cX5_count 87 = .ok (.iconst 0, 1) := by decide +kernel
theorem dX5_count_88 : decode cX5_count 88 = .ok (.iadd, 1) := by decide +kernel
theorem dX5_count_89 : decode cX5_count 89 = .ok (.istore_n 2, 1) := by decide +kernel
theorem dX5_count_90 : decode cX5_count 90 = .ok (.iinc 3 1, 3) := by decide +kernel
theorem dX5_count_93 : decode cX5_count 93 = .ok (.goto (-25), 3) := by decide +kernel
theorem dX5_count_96 : decode cX5_count 96 = .ok (.iload_n 2, 1) := by decide +kernel
theorem dX5_count_97 : decode cX5_count 97 = .ok (.ireturn, 1) := by decide +kernel
theorem dX5_count_98 : decode cX5_count 98 = .ok (.bipush (-2), 2) := by decide +kernel
theorem dX5_count_100 : decode cX5_count 100 = .ok (.ireturn, 1) := by decide +kernel
theorem dX5_digest_0 : decode cX5_digest 0 = .ok (.ldc2_w 173, 3) := by decide +kernel
theorem dX5_digest_3 : decode cX5_digest 3 = .ok (.lstore_n 1, 1) := by decide +kernel
theorem dX5_digest_4 : decode cX5_digest 4 = .ok (.ldc2_w 175, 3) := by decide +kernel
theorem dX5_digest_7 : decode cX5_digest 7 = .ok (.lload_n 1, 1) := by decide +kernel
theorem dX5_digest_8 : decode cX5_digest 8 = .ok (.lmul, 1) := by decide +kernel
theorem dX5_digest_9 : decode cX5_digest 9 = .ok (.aload_n 0, 1) := by decide +kernel
theorem dX5_digest_10 : decode cX5_digest 10 = .ok (.iconst 0, 1) := by decide +kernel
theorem dX5_digest_11 : decode cX5_digest 11 = .ok (.invokevirtual 177, 3) := by decide +kernel
theorem dX5_digest_14 : decode cX5_digest 14 = .ok (.i2l, 1) := by decide +kernel
theorem dX5_digest_15 : decode cX5_digest 15 = .ok (.ladd, 1) := by decide +kernel
theorem dX5_digest_16 : decode cX5_digest 16 = .ok (.lstore_n 1, 1) := by decide +kernel
theorem dX5_digest_17 : decode cX5_digest 17 = .ok (.ldc2_w 175, 3) := by decide +kernel
theorem dX5_digest_20 : decode cX5_digest 20 = .ok (.lload_n 1, 1) := by decide +kernel
theorem dX5_digest_21 : decode cX5_digest 21 = .ok (.lmul, 1) := by decide +kernel
theorem dX5_digest_22 : decode cX5_digest 22 = .ok (.aload_n 0, 1) := by decide +kernel
theorem dX5_digest_23 : decode cX5_digest 23 = .ok (.iconst 2, 1) := by decide +kernel
theorem dX5_digest_24 : decode cX5_digest 24 = .ok (.invokevirtual 177, 3) := by decide +kernel
theorem dX5_digest_27 : decode cX5_digest 27 = .ok (.i2l, 1) := by decide +kernel
theorem dX5_digest_28 : decode cX5_digest 28 = .ok (.ladd, 1) := by decide +kernel
theorem dX5_digest_29 : decode cX5_digest 29 = .ok (.lstore_n 1, 1) := by decide +kernel
theorem dX5_digest_30 : decode cX5_digest 30 = .ok (.iconst 0, 1) := by decide +kernel
theorem dX5_digest_31 : decode cX5_digest 31 = .ok (.istore_n 3, 1) := by decide +kernel
theorem dX5_digest_32 : decode cX5_digest 32 = .ok (.iload_n 3, 1) := by decide +kernel
theorem dX5_digest_33 : decode cX5_digest 33 = .ok (.bipush 10, 2) := by decide +kernel
theorem dX5_digest_35 : decode cX5_digest 35 = .ok (.if_icmp .ge 76, 3) := by decide +kernel
theorem dX5_digest_38 : decode cX5_digest 38 = .ok (.aload_n 0, 1) := by decide +kernel
theorem dX5_digest_39 : decode cX5_digest 39 = .ok (.iload_n 3, 1) := by decide +kernel
theorem dX5_digest_40 : decode cX5_digest 40 = .ok (.invokevirtual 90, 3) := by decide +kernel
theorem dX5_digest_43 : decode cX5_digest 43 = .ok (.ifCond .eq 62, 3) := by decide +kernel
theorem dX5_digest_46 : decode cX5_digest 46 = .ok (.aload_n 0, 1) := by decide +kernel
theorem dX5_digest_47 : decode cX5_digest 47 = .ok (.iload_n 3, 1) := by decide +kernel
theorem dX5_digest_48 : decode cX5_digest 48 = .ok (.invokevirtual 93, 3) := by decide +kernel
theorem dX5_digest_51 : decode cX5_digest 51 = .ok (.ldc2_w 175, 3) := by decide +kernel
theorem dX5_digest_54 : decode cX5_digest 54 = .ok (.lload_n 1, 1) := by decide +kernel
theorem dX5_digest_55 : decode cX5_digest 55 = .ok (.lmul, 1) := by decide +kernel
theorem dX5_digest_56 : decode cX5_digest 56 = .ok (.iload_n 3, 1) := by decide +kernel
theorem dX5_digest_57 : decode cX5_digest 57 = .ok (.i2l, 1) := by decide +kernel
theorem dX5_digest_58 : decode cX5_digest 58 = .ok (.ladd, 1) := by decide +kernel
theorem dX5_digest_59 : decode cX5_digest 59 = .ok (.lstore_n 1, 1) := by decide +kernel
theorem dX5_digest_60 : decode cX5_digest 60 = .ok (.ldc2_w 175, 3) := by decide +kernel
theorem dX5_digest_63 : decode cX5_digest 63 = .ok (.lload_n 1, 1) := by decide +kernel
theorem dX5_digest_64 : decode cX5_digest 64 = .ok (.lmul, 1) := by decide +kernel
theorem dX5_digest_65 : decode cX5_digest 65 = .ok (.aload_n 0, 1) := by decide +kernel
theorem dX5_digest_66 : decode cX5_digest 66 = .ok (.getfield 81, 3) := by decide +kernel
theorem dX5_digest_69 : decode cX5_digest 69 = .ok (.i2l, 1) := by decide +kernel
theorem dX5_digest_70 : decode cX5_digest 70 = .ok (.ladd, 1) := by decide +kernel
theorem dX5_digest_71 : decode cX5_digest 71 = .ok (.lstore_n 1, 1) := by decide +kernel
theorem dX5_digest_72 : decode cX5_digest 72 = .ok (.iconst 0, 1) := by decide +kernel
theorem dX5_digest_73 : decode cX5_digest 73 = .ok (.istore 4, 2) := by decide +kernel
theorem dX5_digest_75 : decode cX5_digest 75 = .ok (.iload 4, 2) := by decide +kernel
theorem dX5_digest_77 : decode cX5_digest 77 = .ok (.aload_n 0, 1) := by decide +kernel
theorem dX5_digest_78 : decode cX5_digest 78 = .ok (.getfield 81, 3) := by decide +kernel
theorem dX5_digest_81 : decode cX5_digest 81 = .ok (.if_icmp .gt 24, 3) := by decide +kernel
theorem dX5_digest_84 : decode cX5_digest 84 = .ok (.ldc2_w 175, 3) := by decide +kernel
theorem dX5_digest_87 : decode cX5_digest 87 = .ok (.lload_n 1, 1) := by decide +kernel
theorem dX5_digest_88 : decode cX5_digest 88 = .ok (.lmul, 1) := by decide +kernel
theorem dX5_digest_89 : decode cX5_digest 89 = .ok (.aload_n 0, 1) := by decide +kernel
theorem dX5_digest_90 : decode cX5_digest 90 = .ok (.getfield 22, 3) := by decide +kernel
theorem dX5_digest_93 : decode cX5_digest 93 = .ok (.iload 4, 2) := by decide +kernel
theorem dX5_digest_95 : decode cX5_digest 95 = .ok (.iaload, 1) := by decide +kernel
theorem dX5_digest_96 : decode cX5_digest 96 = .ok (.i2l, 1) := by decide +kernel
theorem dX5_digest_97 : decode cX5_digest 97 = .ok (.ladd, 1) := by decide +kernel
theorem dX5_digest_98 : decode cX5_digest 98 = .ok (.lstore_n 1, 1) := by decide +kernel
theorem dX5_digest_99 : decode cX5_digest 99 = .ok (.iinc 4 1, 3) := by decide +kernel
theorem dX5_digest_102 : decode cX5_digest 102 = .ok (.goto (-27), 3) := by decide +kernel
theorem dX5_digest_105 : decode cX5_digest 105 = .ok (.iinc 3 1, 3) := by decide +kernel
theorem dX5_digest_108 : decode cX5_digest 108 = .ok (.goto (-76), 3) := by decide +kernel
theorem dX5_digest_111 : decode cX5_digest 111 = .ok (.lload_n 1, 1) := by decide +kernel
theorem dX5_digest_112 : decode cX5_digest 112 = .ok (.lreturn, 1) := by decide +kernel
end
section
/-! A layer over the kit's rows: values are Ints (an int's value is read modulo 2^32 where it is compared, divided or used as an index), a side's heap is a function of cell and slot, and a walk speaks of a method, its end, a place, locals, operand stack and heap alone. -/
def tbG : List Cond := lw_tbl.filter goodWord
theorem tbG_in {w : Cond} (h : w ∈ lw_tbl) (hg : goodWord w = true) : w ∈ tbG := List.mem_filter.mpr ⟨h, hg⟩
theorem tbG_good {w : Cond} (h : w ∈ tbG) : goodWord w = true := (List.mem_filter.mp h).2
theorem tbG_lw {w : Cond} (h : w ∈ tbG) : w ∈ lw_tbl := (List.mem_filter.mp h).1
theorem tbG_t {w : Cond} (i : Nat) (h : tables_1[i]? = some w) (hg : goodWord w = true) : w ∈ tbG := tbG_in (List.mem_append_right _ (List.mem_of_getElem? h)) hg
theorem tbG_s {w : Cond} (i : Nat) (h : (k2_sels lw_privs)[i]? = some w) (hg : goodWord w = true) : w ∈ tbG := tbG_in (List.mem_append_left _ (List.mem_of_getElem? h)) hg
abbrev HP : Type := Nat → Nat → Int
def wi (z : Int) : Int := (Int32.ofInt z).toInt
def wl (z : Int) : Int := (Int64.ofInt z).toInt
def vi (z : Int) : Value := .int (Int32.ofInt z)
def vl (z : Int) : Value := .long (Int64.ofInt z)
def hs (h : HP) (k j : Nat) (v : Int) : HP := fun a b => if a = k ∧ b = j then v else h a b
def xi (a b : Int) : Int := (Int32.ofInt a ^^^ Int32.ofInt b).toInt
def ai (a b : Int) : Int := (Int32.ofInt a &&& Int32.ofInt b).toInt
def b8 (a : Int) : Int := (Int32.ofInt a).toInt8.toInt32.toInt
def b16 (a : Int) : Int := (Int32.ofInt a).toInt16.toInt32.toInt
def cpl (a b : Int) : Int := if wl b < wl a then 1 else if wl a = wl b then 0 else -1
/-- a row of items copied: n of cell k from i on to cell t from j on -/
def hcp (h : HP) (k i t j n : Nat) : HP := fun a b => if a = t ∧ j ≤ b ∧ b < j + n then h k (i + (b - j)) else h a b
abbrev MD : Type := MethodName × ByteArray × Nat × Option FieldType × Nat × Nat
def rmOf (M : MD) : Room := { frames := M.2.2.2.2.1, cells := 0, slots := 0, locals := M.2.2.2.2.2 }
def wsOf (M : MD) : List Cond := Cond.code M.1 M.2.1 M.2.2.1 M.2.2.2.1 :: tbG
def clz : List vw_C := [(RX0, TX0, 2), (RX3, TX3, 3), (RX4, TX4, 9), (RX5, TX5, 17)]
abbrev SD : Type := Launch × va_G × List (ClassId × FieldType) × (HP → va_W)
abbrev RS : Type := Option Value × HP
def Qz (S : SD) (R : RS) (A : Nat → Prop) : Array Value → State → Outcome → State → Prop := fun _ st oc t => (oc = .returned R.1 ∧ va_P S.2.1 clz (S.2.2.2 R.2) t.heap ∧ va_K S.2.1 clz S.2.2.1 t ∧ va_D A (S.2.2.2 R.2)) ∧ va_F A st t
def Ct (S : SD) (M : MD) (av : List Value) (h : HP) (R : RS) : Prop := ∀ sz : Nat, Met S.1 M.1 (wsOf M) (rmOf M) (va_Pc av (fun U => U.heap.size = sz ∧ va_P S.2.1 clz (S.2.2.2 h) U.heap ∧ va_K S.2.1 clz S.2.2.1 U ∧ va_D (fun _ => True) (S.2.2.2 h))) (Qz S R (va_A (S.2.2.2 h) sz)) 0 0 (va_A (S.2.2.2 h) sz)
def Cx (S : SD) (M : MD) (p : Program) (s : State) (m : MethodId) (args : Array Value) (meth : Method) (c : Code) (A : Nat → Prop) : Prop :=
  p.tables.exec = Jvm.exec ∧ c.code = M.2.1 ∧ c.maxLocals = M.2.2.1 ∧ s.vm.findClass M.1.cls = some m.cls ∧ (∀ w ∈ wsOf M, w.before args s = true) ∧ meth.sig.returnType = M.2.2.2.1 ∧ meth.locks = false ∧ (∀ q : Nat, s.heap.size ≤ q → A q) ∧ va_K S.2.1 clz S.2.2.1 s
def Rn (S : SD) (M : MD) (R : RS) (pc : Nat) (loc : List (Nat × Value)) (stk : List Value) (h : HP) : Prop :=
  ∀ (p : Program) (e : Env) (s : State) (m : MethodId) (args : Array Value) (below : List Frame) (meth : Method) (c : Code) (H : Heap) (locs : List Loc) (A : Nat → Prop) (ls : Array Slot),
    Cx S M p s m args meth c A → va_P S.2.1 clz (S.2.2.2 h) H → va_D A (S.2.2.2 h) → va_S A s.heap H locs → lv_has ls M.2.2.1 loc →
    W p S.1 e (rmOf M) s m args below meth c H locs 0 0 (MQ below (Qz S R A) args s 0 0 A) (F0 m pc ls stk)
theorem Ct.of {S : SD} {M : MD} {av : List Value} {h : HP} {R : RS} (hy : plainName M.1.cls = true) (hav : Nat.ble (lg_sl av).length M.2.2.1 = true) {loc : List (Nat × Value)} (hloc : lv_args 0 av = loc) (body : Rn S M R 0 loc [] h) : Ct S M av h R := by
  intro sz
  refine Met.ofW (cc := M.2.1) (maxL := M.2.2.1) (ret := M.2.2.2.1) hy rfl ?_
  intro p e s m args below meth c s₁ B hml hv
  obtain ⟨rfl, hsz, hP, hK, hD0⟩ := hv
  subst hsz; subst hloc
  have hl := lv_entry av (n := M.2.2.1) (Nat.le_of_ble_eq_true hav)
  rw [lg_entry_eq]
  exact body p e s m av.toArray below meth c s.heap [] (va_A (S.2.2.2 h) s.heap.size) _ ⟨B.exec, B.bytes, hml, findClass_of_methodNamed B.named, atoms_spec (ws := wsOf M) B.pre, B.returns, B.notSynchronized, fun q hq => Or.inr hq, hK⟩ hP hD0.self va_S.rf hl
section RN
variable {S : SD} {M : MD} {R : RS} {pc : Nat} {loc loc' : List (Nat × Value)} {stk : List Value} {h : HP}
theorem q_loc (ks : List Nat) (hl : lv_pick loc ks = loc') (k : Rn S M R pc loc' stk h) : Rn S M R pc loc stk h := fun p e s m args below meth c H locs A ls C hP hD hS hv => k p e s m args below meth c H locs A ls C hP hD hS (lv_sub hv ks hl)
theorem q_hts {p : Program} {s : State} {m : MethodId} {args : Array Value} {meth : Method} {c : Code} {A : Nat → Prop} (C : Cx S M p s m args meth c A) {w : Cond} (hw : w ∈ tbG) : w.before args s = true := C.2.2.2.2.1 w (List.mem_cons_of_mem _ hw)
theorem q_iload {i : Nat} {x : Int} (hd : decode M.2.1 pc = .ok (.iload i, 2)) (j : Nat) (hj : loc[j]? = some (i, vi x)) (k : Rn S M R (pc + 2) loc (vi x :: stk) h) : Rn S M R pc loc stk h := fun p e s m args below meth c H locs A ls C hP hD hS hv => lv_iload C.1 C.2.1 hd (lv_at hv j hj) (k p e s m args below meth c H locs A ls C hP hD hS hv)
theorem q_iloadn {i : Fin 4} {x : Int} (hd : decode M.2.1 pc = .ok (.iload_n i, 1)) (j : Nat) (hj : loc[j]? = some (i.val, vi x)) (k : Rn S M R (pc + 1) loc (vi x :: stk) h) : Rn S M R pc loc stk h := fun p e s m args below meth c H locs A ls C hP hD hS hv => lv_iload_n C.1 C.2.1 hd rfl (lv_at hv j hj) (k p e s m args below meth c H locs A ls C hP hD hS hv)
theorem q_lload {i : Nat} {x : Int} (hd : decode M.2.1 pc = .ok (.lload i, 2)) (j : Nat) (hj : loc[j]? = some (i, vl x)) (k : Rn S M R (pc + 2) loc (vl x :: stk) h) : Rn S M R pc loc stk h := fun p e s m args below meth c H locs A ls C hP hD hS hv => lv_lload C.1 C.2.1 hd (lv_at hv j hj) (k p e s m args below meth c H locs A ls C hP hD hS hv)
theorem q_lloadn {i : Fin 4} {x : Int} (hd : decode M.2.1 pc = .ok (.lload_n i, 1)) (j : Nat) (hj : loc[j]? = some (i.val, vl x)) (k : Rn S M R (pc + 1) loc (vl x :: stk) h) : Rn S M R pc loc stk h := fun p e s m args below meth c H locs A ls C hP hD hS hv => lv_lload_n C.1 C.2.1 hd rfl (lv_at hv j hj) (k p e s m args below meth c H locs A ls C hP hD hS hv)
theorem q_aload {i : Nat} {x : Nat} (hd : decode M.2.1 pc = .ok (.aload i, 2)) (j : Nat) (hj : loc[j]? = some (i, .ref x)) (k : Rn S M R (pc + 2) loc (.ref x :: stk) h) : Rn S M R pc loc stk h := fun p e s m args below meth c H locs A ls C hP hD hS hv => lv_aload C.1 C.2.1 hd (lv_at hv j hj) (k p e s m args below meth c H locs A ls C hP hD hS hv)
theorem q_aloadn {i : Fin 4} {x : Nat} (hd : decode M.2.1 pc = .ok (.aload_n i, 1)) (j : Nat) (hj : loc[j]? = some (i.val, .ref x)) (k : Rn S M R (pc + 1) loc (.ref x :: stk) h) : Rn S M R pc loc stk h := fun p e s m args below meth c H locs A ls C hP hD hS hv => lv_aload_n C.1 C.2.1 hd rfl (lv_at hv j hj) (k p e s m args below meth c H locs A ls C hP hD hS hv)
theorem q_istore {i : Nat} {x : Int} (hd : decode M.2.1 pc = .ok (.istore i, 2)) (hn : Nat.ble (i + 1) M.2.2.1 = true) (hl : (i, vi x) :: loc.filter (fun q => !(q.1 == i) && !(q.1 + 1 == i && q.2.category == 2)) = loc') (k : Rn S M R (pc + 2) loc' stk h) : Rn S M R pc loc (vi x :: stk) h := fun p e s m args below meth c H locs A ls C hP hD hS hv => lv_istore C.1 C.2.1 hd hv (Nat.le_of_ble_eq_true hn) hl (fun ls' hv' => k p e s m args below meth c H locs A ls' C hP hD hS hv')
theorem q_istoren {i : Fin 4} {x : Int} (hd : decode M.2.1 pc = .ok (.istore_n i, 1)) (hn : Nat.ble (i.val + 1) M.2.2.1 = true) (hl : (i.val, vi x) :: loc.filter (fun q => !(q.1 == i.val) && !(q.1 + 1 == i.val && q.2.category == 2)) = loc') (k : Rn S M R (pc + 1) loc' stk h) : Rn S M R pc loc (vi x :: stk) h := fun p e s m args below meth c H locs A ls C hP hD hS hv => lv_istore_n C.1 C.2.1 hd rfl hv (Nat.le_of_ble_eq_true hn) hl (fun ls' hv' => k p e s m args below meth c H locs A ls' C hP hD hS hv')
theorem q_astore {i : Nat} {x : Nat} (hd : decode M.2.1 pc = .ok (.astore i, 2)) (hn : Nat.ble (i + 1) M.2.2.1 = true) (hl : (i, .ref x) :: loc.filter (fun q => !(q.1 == i) && !(q.1 + 1 == i && q.2.category == 2)) = loc') (k : Rn S M R (pc + 2) loc' stk h) : Rn S M R pc loc (.ref x :: stk) h := fun p e s m args below meth c H locs A ls C hP hD hS hv => lv_astore C.1 C.2.1 hd hv (Nat.le_of_ble_eq_true hn) hl (fun ls' hv' => k p e s m args below meth c H locs A ls' C hP hD hS hv')
theorem q_astoren {i : Fin 4} {x : Nat} (hd : decode M.2.1 pc = .ok (.astore_n i, 1)) (hn : Nat.ble (i.val + 1) M.2.2.1 = true) (hl : (i.val, .ref x) :: loc.filter (fun q => !(q.1 == i.val) && !(q.1 + 1 == i.val && q.2.category == 2)) = loc') (k : Rn S M R (pc + 1) loc' stk h) : Rn S M R pc loc (.ref x :: stk) h := fun p e s m args below meth c H locs A ls C hP hD hS hv => lv_astore_n C.1 C.2.1 hd rfl hv (Nat.le_of_ble_eq_true hn) hl (fun ls' hv' => k p e s m args below meth c H locs A ls' C hP hD hS hv')
theorem q_lstore {i : Nat} {x : Int} (hd : decode M.2.1 pc = .ok (.lstore i, 2)) (hn : Nat.ble (i + 2) M.2.2.1 = true) (hl : (i, vl x) :: loc.filter (fun q => !(q.1 == i) && (!(q.1 == i + 1) && !(q.1 + 1 == i && q.2.category == 2))) = loc') (k : Rn S M R (pc + 2) loc' stk h) : Rn S M R pc loc (vl x :: stk) h := fun p e s m args below meth c H locs A ls C hP hD hS hv => lv_lstore C.1 C.2.1 hd hv (Nat.le_of_ble_eq_true hn) hl (fun ls' hv' => k p e s m args below meth c H locs A ls' C hP hD hS hv')
theorem q_lstoren {i : Fin 4} {x : Int} (hd : decode M.2.1 pc = .ok (.lstore_n i, 1)) (hn : Nat.ble (i.val + 2) M.2.2.1 = true) (hl : (i.val, vl x) :: loc.filter (fun q => !(q.1 == i.val) && (!(q.1 == i.val + 1) && !(q.1 + 1 == i.val && q.2.category == 2))) = loc') (k : Rn S M R (pc + 1) loc' stk h) : Rn S M R pc loc (vl x :: stk) h := fun p e s m args below meth c H locs A ls C hP hD hS hv => lv_lstore_n C.1 C.2.1 hd rfl hv (Nat.le_of_ble_eq_true hn) hl (fun ls' hv' => k p e s m args below meth c H locs A ls' C hP hD hS hv')
theorem q_iinc {i : Nat} {x n : Int} (hd : decode M.2.1 pc = .ok (.iinc i n, 3)) (j : Nat) (hj : loc[j]? = some (i, vi x)) (hn : Nat.ble (i + 1) M.2.2.1 = true) (hl : (i, vi (x + n)) :: loc.filter (fun q => !(q.1 == i) && !(q.1 + 1 == i && q.2.category == 2)) = loc') (k : Rn S M R (pc + 3) loc' stk h) : Rn S M R pc loc stk h := fun p e s m args below meth c H locs A ls C hP hD hS hv => lv_iinc C.1 C.2.1 hd hv hj (Int32.ofInt_add x n).symm (Nat.le_of_ble_eq_true hn) hl (fun ls' hv' => k p e s m args below meth c H locs A ls' C hP hD hS hv')
theorem q_iconst {n : Int} (hd : decode M.2.1 pc = .ok (.iconst n, 1)) (k : Rn S M R (pc + 1) loc (vi n :: stk) h) : Rn S M R pc loc stk h := fun p e s m args below meth c H locs A ls C hP hD hS hv => lv_iconst C.1 C.2.1 hd rfl (k p e s m args below meth c H locs A ls C hP hD hS hv)
theorem q_bipush {n : Int} (hd : decode M.2.1 pc = .ok (.bipush n, 2)) (hn : (Int8.ofInt n).toInt32 = Int32.ofInt n) (k : Rn S M R (pc + 2) loc (vi n :: stk) h) : Rn S M R pc loc stk h := fun p e s m args below meth c H locs A ls C hP hD hS hv => lv_bipush C.1 C.2.1 hd hn (k p e s m args below meth c H locs A ls C hP hD hS hv)
theorem q_sipush {n : Int} (hd : decode M.2.1 pc = .ok (.sipush n, 3)) (hn : (Int16.ofInt n).toInt32 = Int32.ofInt n) (k : Rn S M R (pc + 3) loc (vi n :: stk) h) : Rn S M R pc loc stk h := fun p e s m args below meth c H locs A ls C hP hD hS hv => lv_sipush C.1 C.2.1 hd hn (k p e s m args below meth c H locs A ls C hP hD hS hv)
theorem q_ldc {i : Nat} {n : Int} (hd : decode M.2.1 pc = .ok (.ldc i, 2)) (hc : Cond.constant M.1.cls i (Int32.ofInt n) ∈ tbG) (k : Rn S M R (pc + 2) loc (vi n :: stk) h) : Rn S M R pc loc stk h := fun p e s m args below meth c H locs A ls C hP hD hS hv => lv_ldc C.1 C.2.1 C.2.2.2.1 (q_hts C hc) hd (k p e s m args below meth c H locs A ls C hP hD hS hv)
theorem q_ldc2 {i : Nat} {n : Int} (hd : decode M.2.1 pc = .ok (.ldc2_w i, 3)) (hc : Cond.constantLong M.1.cls i (Int64.ofInt n) ∈ tbG) (k : Rn S M R (pc + 3) loc (vl n :: stk) h) : Rn S M R pc loc stk h := fun p e s m args below meth c H locs A ls C hP hD hS hv => lv_ldc2 C.1 C.2.1 C.2.2.2.1 (q_hts C hc) hd (k p e s m args below meth c H locs A ls C hP hD hS hv)
theorem q_lconst {i : Fin 2} {n : Int} (hd : decode M.2.1 pc = .ok (.lconst i, 1)) (hn : Int64.ofNat i.val = Int64.ofInt n) (k : Rn S M R (pc + 1) loc (vl n :: stk) h) : Rn S M R pc loc stk h := fun p e s m args below meth c H locs A ls C hP hD hS hv => lv_lconst C.1 C.2.1 hd hn (k p e s m args below meth c H locs A ls C hP hD hS hv)
theorem q_iadd {a b : Int} (hd : decode M.2.1 pc = .ok (.iadd, 1)) (k : Rn S M R (pc + 1) loc (vi (a + b) :: stk) h) : Rn S M R pc loc (vi b :: vi a :: stk) h := fun p e s m args below meth c H locs A ls C hP hD hS hv => lv_iadd C.1 C.2.1 hd (by rw [← Int32.ofInt_add]; exact k p e s m args below meth c H locs A ls C hP hD hS hv)
theorem q_isub {a b : Int} (hd : decode M.2.1 pc = .ok (.isub, 1)) (k : Rn S M R (pc + 1) loc (vi (a - b) :: stk) h) : Rn S M R pc loc (vi b :: vi a :: stk) h := fun p e s m args below meth c H locs A ls C hP hD hS hv => lv_isub C.1 C.2.1 hd (by rw [← Int32.ofInt_sub]; exact k p e s m args below meth c H locs A ls C hP hD hS hv)
theorem q_imul {a b : Int} (hd : decode M.2.1 pc = .ok (.imul, 1)) (k : Rn S M R (pc + 1) loc (vi (a * b) :: stk) h) : Rn S M R pc loc (vi b :: vi a :: stk) h := fun p e s m args below meth c H locs A ls C hP hD hS hv => lv_imul C.1 C.2.1 hd (by rw [← Int32.ofInt_mul]; exact k p e s m args below meth c H locs A ls C hP hD hS hv)
theorem q_ineg {a : Int} (hd : decode M.2.1 pc = .ok (.ineg, 1)) (k : Rn S M R (pc + 1) loc (vi (-a) :: stk) h) : Rn S M R pc loc (vi a :: stk) h := fun p e s m args below meth c H locs A ls C hP hD hS hv => lv_ineg C.1 C.2.1 hd (by rw [← Int32.ofInt_neg]; exact k p e s m args below meth c H locs A ls C hP hD hS hv)
theorem q_ixor {a b : Int} (hd : decode M.2.1 pc = .ok (.ixor, 1)) (k : Rn S M R (pc + 1) loc (vi (xi a b) :: stk) h) : Rn S M R pc loc (vi b :: vi a :: stk) h := fun p e s m args below meth c H locs A ls C hP hD hS hv => lv_ixor C.1 C.2.1 hd (by have h1 := k p e s m args below meth c H locs A ls C hP hD hS hv; unfold vi xi at h1; rw [Int32.ofInt_toInt] at h1; exact h1)
theorem q_iand {a b : Int} (hd : decode M.2.1 pc = .ok (.iand, 1)) (k : Rn S M R (pc + 1) loc (vi (ai a b) :: stk) h) : Rn S M R pc loc (vi b :: vi a :: stk) h := fun p e s m args below meth c H locs A ls C hP hD hS hv => lv_iand C.1 C.2.1 hd (by have h1 := k p e s m args below meth c H locs A ls C hP hD hS hv; unfold vi ai at h1; rw [Int32.ofInt_toInt] at h1; exact h1)
theorem q_i2b {a : Int} (hd : decode M.2.1 pc = .ok (.i2b, 1)) (k : Rn S M R (pc + 1) loc (vi (b8 a) :: stk) h) : Rn S M R pc loc (vi a :: stk) h := fun p e s m args below meth c H locs A ls C hP hD hS hv => lv_i2b C.1 C.2.1 hd rfl (by have h1 := k p e s m args below meth c H locs A ls C hP hD hS hv; unfold vi b8 at h1; rw [Int32.ofInt_toInt] at h1; exact h1)
theorem q_i2s {a : Int} (hd : decode M.2.1 pc = .ok (.i2s, 1)) (k : Rn S M R (pc + 1) loc (vi (b16 a) :: stk) h) : Rn S M R pc loc (vi a :: stk) h := fun p e s m args below meth c H locs A ls C hP hD hS hv => lv_i2s C.1 C.2.1 hd rfl (by have h1 := k p e s m args below meth c H locs A ls C hP hD hS hv; unfold vi b16 at h1; rw [Int32.ofInt_toInt] at h1; exact h1)
theorem wi_ne {b : Int} (h : wi b ≠ 0) : ¬ Int32.ofInt b = 0 := fun q => h (by unfold wi; rw [q]; rfl)
theorem wl_ne {b : Int} (h : wl b ≠ 0) : ¬ Int64.ofInt b = 0 := fun q => h (by unfold wl; rw [q]; rfl)
theorem wi_lo (a : Int) : -2147483648 ≤ wi a := Int32.le_toInt _
theorem wi_hi (a : Int) : wi a < 2147483648 := Int32.toInt_lt _
theorem wl_lo (a : Int) : -9223372036854775808 ≤ wl a := Int64.le_toInt _
theorem wl_hi (a : Int) : wl a < 9223372036854775808 := Int64.toInt_lt _
theorem of_wi (a : Int) : Int32.ofInt (wi a) = Int32.ofInt a := Int32.ofInt_toInt _
theorem of_wl (a : Int) : Int64.ofInt (wl a) = Int64.ofInt a := Int64.ofInt_toInt _
theorem wi_div (a b : Int) : Int32.ofInt a / Int32.ofInt b = Int32.ofInt (Int.tdiv (wi a) (wi b)) := by
  rw [Int32.ofInt_tdiv (by have := wi_lo a; simpa using this) (by have := wi_hi a; have : Int32.maxValue.toInt = 2147483647 := by decide
                                                                  omega) (by have := wi_lo b; simpa using this) (by have := wi_hi b; have : Int32.maxValue.toInt = 2147483647 := by decide
                                                                                                                    omega), of_wi, of_wi]
theorem wl_div (a b : Int) : Int64.ofInt a / Int64.ofInt b = Int64.ofInt (Int.tdiv (wl a) (wl b)) := by
  rw [Int64.ofInt_tdiv (by have := wl_lo a; simpa using this) (by have := wl_hi a; have : Int64.maxValue.toInt = 9223372036854775807 := by decide
                                                                  omega) (by have := wl_lo b; simpa using this) (by have := wl_hi b; have : Int64.maxValue.toInt = 9223372036854775807 := by decide
                                                                                                                    omega), of_wl, of_wl]
theorem wi_rem (a b : Int) : Int32.ofInt a - Int32.ofInt a / Int32.ofInt b * Int32.ofInt b = Int32.ofInt (Int.tmod (wi a) (wi b)) := by
  rw [wi_div, Int.tmod_def, Int32.ofInt_sub, Int32.ofInt_mul, of_wi, of_wi, Int32.mul_comm]
theorem wl_rem (a b : Int) : Int64.ofInt a - Int64.ofInt a / Int64.ofInt b * Int64.ofInt b = Int64.ofInt (Int.tmod (wl a) (wl b)) := by
  rw [wl_div, Int.tmod_def, Int64.ofInt_sub, Int64.ofInt_mul, of_wl, of_wl, Int64.mul_comm]
theorem q_idiv {a b : Int} (hd : decode M.2.1 pc = .ok (.idiv, 1)) (hb : wi b ≠ 0) (k : Rn S M R (pc + 1) loc (vi (Int.tdiv (wi a) (wi b)) :: stk) h) : Rn S M R pc loc (vi b :: vi a :: stk) h := fun p e s m args below meth c H locs A ls C hP hD hS hv => lv_idiv C.1 C.2.1 hd (wi_ne hb) (by rw [wi_div]; exact k p e s m args below meth c H locs A ls C hP hD hS hv)
theorem q_irem {a b : Int} (hd : decode M.2.1 pc = .ok (.irem, 1)) (hb : wi b ≠ 0) (k : Rn S M R (pc + 1) loc (vi (Int.tmod (wi a) (wi b)) :: stk) h) : Rn S M R pc loc (vi b :: vi a :: stk) h := fun p e s m args below meth c H locs A ls C hP hD hS hv => lv_irem C.1 C.2.1 hd (wi_ne hb) (by rw [wi_rem]; exact k p e s m args below meth c H locs A ls C hP hD hS hv)
theorem q_lrem {a b : Int} (hd : decode M.2.1 pc = .ok (.lrem, 1)) (hb : wl b ≠ 0) (k : Rn S M R (pc + 1) loc (vl (Int.tmod (wl a) (wl b)) :: stk) h) : Rn S M R pc loc (vl b :: vl a :: stk) h := fun p e s m args below meth c H locs A ls C hP hD hS hv => lv_lrem C.1 C.2.1 hd (wl_ne hb) (by rw [wl_rem]; exact k p e s m args below meth c H locs A ls C hP hD hS hv)
theorem q_ladd {a b : Int} (hd : decode M.2.1 pc = .ok (.ladd, 1)) (k : Rn S M R (pc + 1) loc (vl (a + b) :: stk) h) : Rn S M R pc loc (vl b :: vl a :: stk) h := fun p e s m args below meth c H locs A ls C hP hD hS hv => lv_ladd C.1 C.2.1 hd (by rw [← Int64.ofInt_add]; exact k p e s m args below meth c H locs A ls C hP hD hS hv)
theorem q_lsub {a b : Int} (hd : decode M.2.1 pc = .ok (.lsub, 1)) (k : Rn S M R (pc + 1) loc (vl (a - b) :: stk) h) : Rn S M R pc loc (vl b :: vl a :: stk) h := fun p e s m args below meth c H locs A ls C hP hD hS hv => lv_lsub C.1 C.2.1 hd (by rw [← Int64.ofInt_sub]; exact k p e s m args below meth c H locs A ls C hP hD hS hv)
theorem q_lmul {a b : Int} (hd : decode M.2.1 pc = .ok (.lmul, 1)) (k : Rn S M R (pc + 1) loc (vl (a * b) :: stk) h) : Rn S M R pc loc (vl b :: vl a :: stk) h := fun p e s m args below meth c H locs A ls C hP hD hS hv => lv_lmul C.1 C.2.1 hd (by rw [← Int64.ofInt_mul]; exact k p e s m args below meth c H locs A ls C hP hD hS hv)
theorem q_i2l {a : Int} (hd : decode M.2.1 pc = .ok (.i2l, 1)) (k : Rn S M R (pc + 1) loc (vl (wi a) :: stk) h) : Rn S M R pc loc (vi a :: stk) h := fun p e s m args below meth c H locs A ls C hP hD hS hv => lv_i2l C.1 C.2.1 hd (v := Int64.ofInt (wi a)) (by unfold wi; exact (Int64.ofInt_int32ToInt _).symm) (k p e s m args below meth c H locs A ls C hP hD hS hv)
theorem l2i_of (a : Int) : (Int64.ofInt a).toInt32 = Int32.ofInt a := Int64.toInt32_ofInt
theorem q_l2i {a : Int} (hd : decode M.2.1 pc = .ok (.l2i, 1)) (k : Rn S M R (pc + 1) loc (vi a :: stk) h) : Rn S M R pc loc (vl a :: stk) h := fun p e s m args below meth c H locs A ls C hP hD hS hv => lv_l2i C.1 C.2.1 hd (l2i_of a) (k p e s m args below meth c H locs A ls C hP hD hS hv)
theorem lcmp_of (a b : Int) : lg_cmp (Int64.ofInt a) (Int64.ofInt b) = Int32.ofInt (cpl a b) := by
  unfold lg_cmp cpl wl
  simp only [gt_iff_lt, Int64.lt_iff_toInt_lt, ← Int64.toInt_inj]
  repeat' split
  all_goals rfl
theorem q_lcmp {a b : Int} (hd : decode M.2.1 pc = .ok (.lcmp, 1)) (k : Rn S M R (pc + 1) loc (vi (cpl a b) :: stk) h) : Rn S M R pc loc (vl b :: vl a :: stk) h := fun p e s m args below meth c H locs A ls C hP hD hS hv => W.lcmp C.1 C.2.1 hd (by rw [lcmp_of]; exact k p e s m args below meth c H locs A ls C hP hD hS hv)
theorem q_dup {v : Value} (hd : decode M.2.1 pc = .ok (.dup, 1)) (hv1 : v.category = 1) (k : Rn S M R (pc + 1) loc (v :: v :: stk) h) : Rn S M R pc loc (v :: stk) h := fun p e s m args below meth c H locs A ls C hP hD hS hv => lv_dup C.1 C.2.1 hd hv1 (k p e s m args below meth c H locs A ls C hP hD hS hv)
theorem q_dup2 {v w : Value} (hd : decode M.2.1 pc = .ok (.dup2, 1)) (hv1 : v.category = 1) (hw1 : w.category = 1) (k : Rn S M R (pc + 1) loc (v :: w :: v :: w :: stk) h) : Rn S M R pc loc (v :: w :: stk) h := fun p e s m args below meth c H locs A ls C hP hD hS hv => lv_dup2_11 C.1 C.2.1 hd hv1 hw1 (k p e s m args below meth c H locs A ls C hP hD hS hv)
theorem q_pop {v : Value} (hd : decode M.2.1 pc = .ok (.pop, 1)) (hv1 : v.category = 1) (k : Rn S M R (pc + 1) loc stk h) : Rn S M R pc loc (v :: stk) h := fun p e s m args below meth c H locs A ls C hP hD hS hv => lv_pop C.1 C.2.1 hd hv1 (k p e s m args below meth c H locs A ls C hP hD hS hv)
theorem q_goto {off : Int} (hd : decode M.2.1 pc = .ok (.goto off, 3)) (tgt : Nat) (ht : (pc : Int) + off = (tgt : Int)) (k : Rn S M R tgt loc stk h) : Rn S M R pc loc stk h := fun p e s m args below meth c H locs A ls C hP hD hS hv => lv_goto C.1 C.2.1 hd ht (k p e s m args below meth c H locs A ls C hP hD hS hv)
end RN
end
section
section RB
variable {S : SD} {M : MD} {R : RS} {pc : Nat} {loc loc' : List (Nat × Value)} {stk rest : List Value} {h : HP}
def lt {α : Type} (e : Int) (k : Int → α) : α := k e
def pf {α : Type} (h : HP) (k j : Nat) (v : Int) (kf : HP → α) : α := kf (hs h k j v)
def gd {α : Type} (c : Prop) [Decidable c] (k : Option α) : Option α := if c then k else none
def ld {α : Type} (len : Nat) (row : Nat → Int) (i : Int) (k : Int → Option α) : Option α := if 0 ≤ wi i ∧ wi i < len then k (row (wi i).toNat) else none
def sto {α : Type} (len : Nat) (h : HP) (a : Nat) (i v : Int) (k : HP → Option α) : Option α := if 0 ≤ wi i ∧ wi i < len then k (hs h a (wi i).toNat v) else none
def lda {α : Type} (i : Int) (k : Nat → Option α) : Option α := if 0 ≤ wi i ∧ wi i < 10 then k (2 + (wi i).toNat) else none
def acp {α : Type} (h : HP) (a : Nat) (i : Int) (t : Nat) (j n : Int) (k : HP → Option α) : Option α := if 0 ≤ wi i ∧ 0 ≤ wi j ∧ 0 ≤ wi n ∧ wi i + wi n ≤ 12 ∧ wi j + wi n ≤ 12 then k (hcp h a (wi i).toNat t (wi j).toNat (wi n).toNat) else none
def cl {α : Type} (f : Option (Int × HP)) (k : Int → HP → Option α) : Option α := match f with
  | some q => k q.1 q.2
  | none => none
def ri (r : Int × HP) : RS := (some (vi r.1), r.2)
def rl (r : Int × HP) : RS := (some (vl r.1), r.2)
def rv (r : Int × HP) : RS := (none, r.2)
def FU : Nat := 20000
theorem wi_eqI (a b : Int) : Int32.ofInt a = Int32.ofInt b ↔ wi a = wi b := by unfold wi; exact Int32.toInt_inj.symm
theorem wi_leI (a b : Int) : Int32.ofInt a ≤ Int32.ofInt b ↔ wi a ≤ wi b := Int32.le_iff_toInt_le
theorem wi_ltI (a b : Int) : Int32.ofInt a < Int32.ofInt b ↔ wi a < wi b := Int32.lt_iff_toInt_lt
theorem wi_eq0 (a : Int) : Int32.ofInt a = 0 ↔ wi a = 0 := wi_eqI a 0
theorem wi_le0 (a : Int) : Int32.ofInt a ≤ 0 ↔ wi a ≤ 0 := wi_leI a 0
theorem wi_lt0 (a : Int) : Int32.ofInt a < 0 ↔ wi a < 0 := wi_ltI a 0
theorem wi_0le (a : Int) : 0 ≤ Int32.ofInt a ↔ 0 ≤ wi a := wi_leI 0 a
theorem wi_0lt (a : Int) : 0 < Int32.ofInt a ↔ 0 < wi a := wi_ltI 0 a
theorem wi_vin {i : Int} {n : Nat} (h : 0 ≤ wi i ∧ wi i < n) : vp_in (Int32.ofInt i) n := vp_in_iff.mpr h
theorem wi_clamp (i : Int) : (Int32.ofInt i).toNatClampNeg = (wi i).toNat := rfl
theorem q_lt {α : Type} {Z : α} {e : Int} {kf : Int → α} (hf : lt e kf = Z) (kk : ∀ x : Int, kf x = Z → Rn S M R pc loc (vi x :: stk) h) : Rn S M R pc loc (vi e :: stk) h := kk e hf
theorem q_ltl {α : Type} {Z : α} {e : Int} {kf : Int → α} (hf : lt e kf = Z) (kk : ∀ x : Int, kf x = Z → Rn S M R pc loc (vl x :: stk) h) : Rn S M R pc loc (vl e :: stk) h := kk e hf
theorem q_gd {α : Type} {Z : α} {X : Option α} {c : Prop} [Decidable c] (hf : gd c X = some Z) : c ∧ X = some Z := by
  unfold gd at hf
  split at hf
  · exact ⟨by assumption, hf⟩
  · cases hf
theorem q_icmp_ge {α : Type} {X Y Z : α} {a b : Int} {off : Int} (hf : (if wi a < wi b then Y else X) = Z) (hd : decode M.2.1 pc = .ok (.if_icmp .ge off, 3)) (tgt : Nat) (ht : (pc : Int) + off = (tgt : Int)) (kt : X = Z → Rn S M R tgt loc stk h) (kf : Y = Z → Rn S M R (pc + 3) loc stk h) : Rn S M R pc loc (vi b :: vi a :: stk) h := fun p e s m args below meth c H locs A ls C hP hD hS hv => lv_icmp_ge C.1 C.2.1 hd ht (fun q => kt (by rw [if_neg (by have := (wi_leI b a).mp q; omega)] at hf; exact hf) p e s m args below meth c H locs A ls C hP hD hS hv) (fun q => kf (by rw [if_pos (Decidable.byContradiction fun z => q ((wi_leI b a).mpr (show wi b ≤ wi a from by omega)))] at hf; exact hf) p e s m args below meth c H locs A ls C hP hD hS hv)
theorem q_icmp_gt {α : Type} {X Y Z : α} {a b : Int} {off : Int} (hf : (if wi a ≤ wi b then Y else X) = Z) (hd : decode M.2.1 pc = .ok (.if_icmp .gt off, 3)) (tgt : Nat) (ht : (pc : Int) + off = (tgt : Int)) (kt : X = Z → Rn S M R tgt loc stk h) (kf : Y = Z → Rn S M R (pc + 3) loc stk h) : Rn S M R pc loc (vi b :: vi a :: stk) h := fun p e s m args below meth c H locs A ls C hP hD hS hv => lv_icmp_gt C.1 C.2.1 hd ht (fun q => kt (by rw [if_neg (by have := (wi_ltI b a).mp q; omega)] at hf; exact hf) p e s m args below meth c H locs A ls C hP hD hS hv) (fun q => kf (by rw [if_pos (Decidable.byContradiction fun z => q ((wi_ltI b a).mpr (show wi b < wi a from by omega)))] at hf; exact hf) p e s m args below meth c H locs A ls C hP hD hS hv)
theorem q_icmp_lt {α : Type} {X Y Z : α} {a b : Int} {off : Int} (hf : (if wi b ≤ wi a then Y else X) = Z) (hd : decode M.2.1 pc = .ok (.if_icmp .lt off, 3)) (tgt : Nat) (ht : (pc : Int) + off = (tgt : Int)) (kt : X = Z → Rn S M R tgt loc stk h) (kf : Y = Z → Rn S M R (pc + 3) loc stk h) : Rn S M R pc loc (vi b :: vi a :: stk) h := fun p e s m args below meth c H locs A ls C hP hD hS hv => lv_icmp_lt C.1 C.2.1 hd ht (fun q => kt (by rw [if_neg (by have := (wi_ltI a b).mp q; omega)] at hf; exact hf) p e s m args below meth c H locs A ls C hP hD hS hv) (fun q => kf (by rw [if_pos (Decidable.byContradiction fun z => q ((wi_ltI a b).mpr (show wi a < wi b from by omega)))] at hf; exact hf) p e s m args below meth c H locs A ls C hP hD hS hv)
theorem q_icmp_le {α : Type} {X Y Z : α} {a b : Int} {off : Int} (hf : (if wi b < wi a then Y else X) = Z) (hd : decode M.2.1 pc = .ok (.if_icmp .le off, 3)) (tgt : Nat) (ht : (pc : Int) + off = (tgt : Int)) (kt : X = Z → Rn S M R tgt loc stk h) (kf : Y = Z → Rn S M R (pc + 3) loc stk h) : Rn S M R pc loc (vi b :: vi a :: stk) h := fun p e s m args below meth c H locs A ls C hP hD hS hv => lv_icmp_le C.1 C.2.1 hd ht (fun q => kt (by rw [if_neg (by have := (wi_leI a b).mp q; omega)] at hf; exact hf) p e s m args below meth c H locs A ls C hP hD hS hv) (fun q => kf (by rw [if_pos (Decidable.byContradiction fun z => q ((wi_leI a b).mpr (show wi a ≤ wi b from by omega)))] at hf; exact hf) p e s m args below meth c H locs A ls C hP hD hS hv)
theorem q_icmp_eq {α : Type} {X Y Z : α} {a b : Int} {off : Int} (hf : (if wi a = wi b then X else Y) = Z) (hd : decode M.2.1 pc = .ok (.if_icmp .eq off, 3)) (tgt : Nat) (ht : (pc : Int) + off = (tgt : Int)) (kt : X = Z → Rn S M R tgt loc stk h) (kf : Y = Z → Rn S M R (pc + 3) loc stk h) : Rn S M R pc loc (vi b :: vi a :: stk) h := fun p e s m args below meth c H locs A ls C hP hD hS hv => lv_icmp_eq C.1 C.2.1 hd ht (fun q => kt (by rw [if_pos ((wi_eqI a b).mp q)] at hf; exact hf) p e s m args below meth c H locs A ls C hP hD hS hv) (fun q => kf (by rw [if_neg (fun z => q ((wi_eqI a b).mpr z))] at hf; exact hf) p e s m args below meth c H locs A ls C hP hD hS hv)
theorem q_icmp_ne {α : Type} {X Y Z : α} {a b : Int} {off : Int} (hf : (if wi a = wi b then Y else X) = Z) (hd : decode M.2.1 pc = .ok (.if_icmp .ne off, 3)) (tgt : Nat) (ht : (pc : Int) + off = (tgt : Int)) (kt : X = Z → Rn S M R tgt loc stk h) (kf : Y = Z → Rn S M R (pc + 3) loc stk h) : Rn S M R pc loc (vi b :: vi a :: stk) h := fun p e s m args below meth c H locs A ls C hP hD hS hv => lv_icmp_ne C.1 C.2.1 hd ht (fun q => kt (by rw [if_neg (fun z => q ((wi_eqI a b).mpr z))] at hf; exact hf) p e s m args below meth c H locs A ls C hP hD hS hv) (fun q => kf (by rw [if_pos ((wi_eqI a b).mp q)] at hf; exact hf) p e s m args below meth c H locs A ls C hP hD hS hv)
theorem q_if_ge {α : Type} {X Y Z : α} {a : Int} {off : Int} (hf : (if wi a < 0 then Y else X) = Z) (hd : decode M.2.1 pc = .ok (.ifCond .ge off, 3)) (tgt : Nat) (ht : (pc : Int) + off = (tgt : Int)) (kt : X = Z → Rn S M R tgt loc stk h) (kf : Y = Z → Rn S M R (pc + 3) loc stk h) : Rn S M R pc loc (vi a :: stk) h := fun p e s m args below meth c H locs A ls C hP hD hS hv => lv_if_ge C.1 C.2.1 hd ht (fun q => kt (by rw [if_neg (by have := (wi_0le a).mp q; omega)] at hf; exact hf) p e s m args below meth c H locs A ls C hP hD hS hv) (fun q => kf (by rw [if_pos (Decidable.byContradiction fun z => q ((wi_0le a).mpr (show 0 ≤ wi a from by omega)))] at hf; exact hf) p e s m args below meth c H locs A ls C hP hD hS hv)
theorem q_if_gt {α : Type} {X Y Z : α} {a : Int} {off : Int} (hf : (if wi a ≤ 0 then Y else X) = Z) (hd : decode M.2.1 pc = .ok (.ifCond .gt off, 3)) (tgt : Nat) (ht : (pc : Int) + off = (tgt : Int)) (kt : X = Z → Rn S M R tgt loc stk h) (kf : Y = Z → Rn S M R (pc + 3) loc stk h) : Rn S M R pc loc (vi a :: stk) h := fun p e s m args below meth c H locs A ls C hP hD hS hv => lv_if_gt C.1 C.2.1 hd ht (fun q => kt (by rw [if_neg (by have := (wi_0lt a).mp q; omega)] at hf; exact hf) p e s m args below meth c H locs A ls C hP hD hS hv) (fun q => kf (by rw [if_pos (Decidable.byContradiction fun z => q ((wi_0lt a).mpr (show 0 < wi a from by omega)))] at hf; exact hf) p e s m args below meth c H locs A ls C hP hD hS hv)
theorem q_if_lt {α : Type} {X Y Z : α} {a : Int} {off : Int} (hf : (if 0 ≤ wi a then Y else X) = Z) (hd : decode M.2.1 pc = .ok (.ifCond .lt off, 3)) (tgt : Nat) (ht : (pc : Int) + off = (tgt : Int)) (kt : X = Z → Rn S M R tgt loc stk h) (kf : Y = Z → Rn S M R (pc + 3) loc stk h) : Rn S M R pc loc (vi a :: stk) h := fun p e s m args below meth c H locs A ls C hP hD hS hv => lv_if_lt C.1 C.2.1 hd ht (fun q => kt (by rw [if_neg (by have := (wi_lt0 a).mp q; omega)] at hf; exact hf) p e s m args below meth c H locs A ls C hP hD hS hv) (fun q => kf (by rw [if_pos (Decidable.byContradiction fun z => q ((wi_lt0 a).mpr (show wi a < 0 from by omega)))] at hf; exact hf) p e s m args below meth c H locs A ls C hP hD hS hv)
theorem q_if_le {α : Type} {X Y Z : α} {a : Int} {off : Int} (hf : (if 0 < wi a then Y else X) = Z) (hd : decode M.2.1 pc = .ok (.ifCond .le off, 3)) (tgt : Nat) (ht : (pc : Int) + off = (tgt : Int)) (kt : X = Z → Rn S M R tgt loc stk h) (kf : Y = Z → Rn S M R (pc + 3) loc stk h) : Rn S M R pc loc (vi a :: stk) h := fun p e s m args below meth c H locs A ls C hP hD hS hv => lv_if_le C.1 C.2.1 hd ht (fun q => kt (by rw [if_neg (by have := (wi_le0 a).mp q; omega)] at hf; exact hf) p e s m args below meth c H locs A ls C hP hD hS hv) (fun q => kf (by rw [if_pos (Decidable.byContradiction fun z => q ((wi_le0 a).mpr (show wi a ≤ 0 from by omega)))] at hf; exact hf) p e s m args below meth c H locs A ls C hP hD hS hv)
theorem q_if_eq {α : Type} {X Y Z : α} {a : Int} {off : Int} (hf : (if wi a = 0 then X else Y) = Z) (hd : decode M.2.1 pc = .ok (.ifCond .eq off, 3)) (tgt : Nat) (ht : (pc : Int) + off = (tgt : Int)) (kt : X = Z → Rn S M R tgt loc stk h) (kf : Y = Z → Rn S M R (pc + 3) loc stk h) : Rn S M R pc loc (vi a :: stk) h := fun p e s m args below meth c H locs A ls C hP hD hS hv => lv_if_eq C.1 C.2.1 hd ht (fun q => kt (by rw [if_pos ((wi_eq0 a).mp q)] at hf; exact hf) p e s m args below meth c H locs A ls C hP hD hS hv) (fun q => kf (by rw [if_neg (fun z => q ((wi_eq0 a).mpr z))] at hf; exact hf) p e s m args below meth c H locs A ls C hP hD hS hv)
theorem q_if_ne {α : Type} {X Y Z : α} {a : Int} {off : Int} (hf : (if wi a = 0 then Y else X) = Z) (hd : decode M.2.1 pc = .ok (.ifCond .ne off, 3)) (tgt : Nat) (ht : (pc : Int) + off = (tgt : Int)) (kt : X = Z → Rn S M R tgt loc stk h) (kf : Y = Z → Rn S M R (pc + 3) loc stk h) : Rn S M R pc loc (vi a :: stk) h := fun p e s m args below meth c H locs A ls C hP hD hS hv => lv_if_ne C.1 C.2.1 hd ht (fun q => kt (by rw [if_neg (fun z => q ((wi_eq0 a).mpr z))] at hf; exact hf) p e s m args below meth c H locs A ls C hP hD hS hv) (fun q => kf (by rw [if_pos ((wi_eq0 a).mp q)] at hf; exact hf) p e s m args below meth c H locs A ls C hP hD hS hv)
theorem q_tswIn {x : Int} {dflt lo hi : Int} {offs : Array Int} {len : Nat} {off : Int} (v : Int) (hx : wi x = v) (hd : decode M.2.1 pc = .ok (.tableswitch dflt lo hi offs, len)) (h1 : ¬ v < lo) (h2 : ¬ hi < v) (ho : offs[(v - lo).toNat]? = some off) (tgt : Nat) (ht : (pc : Int) + off = (tgt : Int)) (k : Rn S M R tgt loc stk h) : Rn S M R pc loc (vi x :: stk) h := by
  subst hx
  exact fun p e s m args below meth c H locs A ls C hP hD hS hv => lv_tableIn C.1 C.2.1 hd h1 h2 ho ht (k p e s m args below meth c H locs A ls C hP hD hS hv)
theorem q_tswOut {x : Int} {dflt lo hi : Int} {offs : Array Int} {len : Nat} (hx : wi x < lo ∨ hi < wi x) (hd : decode M.2.1 pc = .ok (.tableswitch dflt lo hi offs, len)) (tgt : Nat) (ht : (pc : Int) + dflt = (tgt : Int)) (k : Rn S M R tgt loc stk h) : Rn S M R pc loc (vi x :: stk) h := fun p e s m args below meth c H locs A ls C hP hD hS hv => lv_tableOut C.1 C.2.1 hd hx ht (k p e s m args below meth c H locs A ls C hP hD hS hv)
theorem q_lsw {x : Int} {dflt : Int} {ps : Array (Int × Int)} {len : Nat} {off : Int} (hd : decode M.2.1 pc = .ok (.lookupswitch dflt ps, len)) (hp : (ps.toList.zip (ps.toList.drop 1)).all (fun (a, next) => a.1 < next.1) = true) (ho : Op.lookupswitch.offset ps.toList dflt (wi x) = off) (tgt : Nat) (ht : (pc : Int) + off = (tgt : Int)) (k : Rn S M R tgt loc stk h) : Rn S M R pc loc (vi x :: stk) h := fun p e s m args below meth c H locs A ls C hP hD hS hv => lv_lookup C.1 C.2.1 hd hp ho ht (k p e s m args below meth c H locs A ls C hP hD hS hv)
theorem Rn_end {r : Option Value} {p : Program} {s : State} {m : MethodId} {args : Array Value} {meth : Method} {c : Code} {H : Heap} {A : Nat → Prop} {locs : List Loc} (C : Cx S M p s m args meth c A) (hP : va_P S.2.1 clz (S.2.2.2 h) H) (hD : va_D A (S.2.2.2 h)) (hS : va_S A s.heap H locs) : ∀ t : State, t.heap = H → s.WarmedH t.vm → Qz S (r, h) A args s (.returned r) t := fun t ht hW => ⟨⟨rfl, by rw [ht]; exact hP, va_K.moved hW.alike C.2.2.2.2.2.2.2.2, hD⟩, hS.F ht⟩
theorem q_iret {r : Int} {Z : Int × HP} (hf : some (r, h) = some Z) (hr : M.2.2.2.1 = some .int) (hd : decode M.2.1 pc = .ok (.ireturn, 1)) : Rn S M (ri Z) pc loc [vi r] h := by
  cases hf
  exact fun p e s m args below meth c H locs A ls C hP hD hS hv => W.iret C.1 C.2.1 (C.2.2.2.2.2.1.trans hr) (Rn_end C hP hD hS) hS.2.2 hd C.2.2.2.2.2.2.1
theorem q_zret {r : Int} {Z : Int × HP} (hf : some (r, h) = some Z) (hr : M.2.2.2.1 = some .boolean) (hn : narrow .boolean (.int (Int32.ofInt r)) = .int (Int32.ofInt r)) (hd : decode M.2.1 pc = .ok (.ireturn, 1)) : Rn S M (ri Z) pc loc [vi r] h := by
  cases hf
  exact fun p e s m args below meth c H locs A ls C hP hD hS hv => W.zret C.1 C.2.1 (C.2.2.2.2.2.1.trans hr) hn (Rn_end C hP hD hS) hS.2.2 hd C.2.2.2.2.2.2.1
theorem q_lret {r : Int} {Z : Int × HP} (hf : some (r, h) = some Z) (hr : M.2.2.2.1 = some .long) (hd : decode M.2.1 pc = .ok (.lreturn, 1)) : Rn S M (rl Z) pc loc [vl r] h := by
  cases hf
  exact fun p e s m args below meth c H locs A ls C hP hD hS hv => W.lret C.1 C.2.1 (C.2.2.2.2.2.1.trans hr) (Rn_end C hP hD hS) hS.2.2 hd C.2.2.2.2.2.2.1
theorem q_vret {r : Int} {Z : Int × HP} (hf : some (r, h) = some Z) (hr : M.2.2.2.1 = none) (hd : decode M.2.1 pc = .ok (.return_, 1)) : Rn S M (rv Z) pc loc [] h := by
  cases hf
  exact fun p e s m args below meth c H locs A ls C hP hD hS hv => W.vret C.1 C.2.1 (C.2.2.2.2.2.1.trans hr) (Rn_end C hP hD hS) hS.2.2 hd C.2.2.2.2.2.2.1

theorem q_getf {a ci k j idx N : Nat} {fs : List Value} {v : Value} {Cn : String} {T : u_T} (hw : (S.2.2.2 h)[k]? = some (a, .inr (ci, fs))) (hc : clz[ci]? = some (Cn, T, N)) (hin : ∀ w ∈ u_ws Cn T N, w ∈ tbG) (hj : j < N) (hlink : Cond.fieldLink M.1.cls idx (T j).1 (T j).2.1 (T j).2.2.1 ∈ tbG) (hv1 : fs[j]? = some v) (hd : decode M.2.1 pc = .ok (.getfield idx, 3)) (kk : Rn S M R (pc + 3) loc (v :: stk) h) : Rn S M R pc loc (.ref a :: stk) h := fun p e s m args below meth c H locs A ls C hP hD hS hv => va_get C.1 C.2.1 C.2.2.2.2.1 (fun w hw => List.mem_cons_of_mem _ (hin w hw)) C.2.2.2.1 C.2.2.2.2.2.2.2.2 hP k hw hc j hj (q_hts C hlink) (fun _ h9 => h9) hv1 hd (kk p e s m args below meth c H locs A ls C hP hD hS hv)
theorem q_putf {a ci k j idx N : Nat} {fs : List Value} {v : Value} {ty : FieldType} {Cn : String} {T : u_T} {h1 : HP} (ty0 : Nat → FieldType) (hty : ∀ k, k < N → parseFieldDescriptor (T k).2.2.1 = some (ty0 k)) (hnm : ∀ a, a < N → ∀ b, b < N → a ≠ b → (T a).2.1 ≠ (T b).2.1) (hw : (S.2.2.2 h)[k]? = some (a, .inr (ci, fs))) (hc : clz[ci]? = some (Cn, T, N)) (hin : ∀ w ∈ u_ws Cn T N, w ∈ tbG) (hj : j < N) (hlink : Cond.fieldLink M.1.cls idx (T j).1 (T j).2.1 (T j).2.2.1 ∈ tbG) (hfin : (T j).2.2.2 = false) (hdes : parseFieldDescriptor (T j).2.2.1 = some ty) (hn : narrow ty v = v) (hfit : fits ty v = true) (hl : j < fs.length) (hset : (S.2.2.2 h).set k (a, .inr (ci, fs.set j v)) = S.2.2.2 h1) (hd : decode M.2.1 pc = .ok (.putfield idx, 3)) (kk : Rn S M R (pc + 3) loc stk h1) : Rn S M R pc loc (v :: .ref a :: stk) h := fun p e s m args below meth c H locs A ls C hP hD hS hv => va_put C.1 C.2.1 C.2.2.2.2.1 (fun w hw => List.mem_cons_of_mem _ (hin w hw)) ty0 hty hnm C.2.2.2.1 C.2.2.2.2.2.2.2.2 hP hD hS k hw hc j hj (q_hts C hlink) (fun _ h9 => h9) hfin hdes hn hfit hl hd (fun H1 locs1 hP1 hD1 hS1 => kk p e s m args below meth c H1 locs1 A ls C (hset ▸ hP1) (hset ▸ hD1) hS1 hv)
theorem q_iald {a k n : Nat} {cA : ClassId} {f : Nat → Int32} {i : Int} (hw : (S.2.2.2 h)[k]? = some (a, .inl (cA, n, .inl f))) (ht : S.2.2.1[0]? = some (cA, .int)) (hi : 0 ≤ wi i ∧ wi i < n) (hd : decode M.2.1 pc = .ok (.iaload, 1)) (kk : Rn S M R (pc + 1) loc (.int (f (wi i).toNat) :: stk) h) : Rn S M R pc loc (vi i :: .ref a :: stk) h := fun p e s m args below meth c H locs A ls C hP hD hS hv => va_iald C.1 C.2.1 C.2.2.2.2.2.2.2.2 hP k 0 hw ht (wi_vin hi) hd (kk p e s m args below meth c H locs A ls C hP hD hS hv)
theorem q_iast {a k n : Nat} {cA : ClassId} {f : Nat → Int32} {i v : Int} {h1 : HP} (hw : (S.2.2.2 h)[k]? = some (a, .inl (cA, n, .inl f))) (ht : S.2.2.1[0]? = some (cA, .int)) (hi : 0 ≤ wi i ∧ wi i < n) (hset : (S.2.2.2 h).set k (a, .inl (cA, n, .inl (upd f (wi i).toNat (Int32.ofInt v)))) = S.2.2.2 h1) (hd : decode M.2.1 pc = .ok (.iastore, 1)) (kk : Rn S M R (pc + 1) loc stk h1) : Rn S M R pc loc (vi v :: vi i :: .ref a :: stk) h := fun p e s m args below meth c H locs A ls C hP hD hS hv => va_iast C.1 C.2.1 C.2.2.2.2.2.2.2.2 hP hD hS k 0 hw ht (wi_vin hi) hd (fun H1 locs1 hP1 hD1 hS1 => kk p e s m args below meth c H1 locs1 A ls C (hset ▸ hP1) (hset ▸ hD1) hS1 hv)
theorem q_alen {a k : Nat} {n : Nat} {cA : ClassId} {f : Nat → Int32} (hw : (S.2.2.2 h)[k]? = some (a, .inl (cA, n, .inl f))) (ht : S.2.2.1[0]? = some (cA, .int)) (hd : decode M.2.1 pc = .ok (.arraylength, 1)) (kk : Rn S M R (pc + 1) loc (vi n :: stk) h) : Rn S M R pc loc (.ref a :: stk) h := fun p e s m args below meth c H locs A ls C hP hD hS hv => va_alen C.1 C.2.1 C.2.2.2.2.2.2.2.2 hP k 0 hw ht (v := Int32.ofInt (n : Int)) (Int32.ofInt_eq_ofNat).symm hd (kk p e s m args below meth c H locs A ls C hP hD hS hv)
theorem q_aald {a k n t0 : Nat} {cA : ClassId} {Cn : String} {f : Nat → Option Nat} {i : Int} {b : Nat} (hw : (S.2.2.2 h)[k]? = some (a, .inl (cA, n, .inr (.inr (.inr (.inr f)))))) (ht : S.2.2.1[t0]? = some (cA, .object Cn)) (hi : 0 ≤ wi i ∧ wi i < n) (hb : f (wi i).toNat = some b) (hd : decode M.2.1 pc = .ok (.aaload, 1)) (kk : Rn S M R (pc + 1) loc (.ref b :: stk) h) : Rn S M R pc loc (vi i :: .ref a :: stk) h := fun p e s m args below meth c H locs A ls C hP hD hS hv => va_aldq C.1 C.2.1 C.2.2.2.2.2.2.2.2 hP k t0 hw ht (wi_vin hi) hd (by rw [wi_clamp, hb]; exact kk p e s m args below meth c H locs A ls C hP hD hS hv)
/-- what a call needs of its callee by the tables -/
def MF (M : MD) (n : Nat) : Prop := Cond.code M.1 M.2.1 M.2.2.1 M.2.2.2.1 ∈ tbG ∧ Cond.initialized M.1.cls ∈ tbG ∧ M.1.cls ≠ "java/lang/invoke/MethodHandle" ∧ M.1.cls ≠ "java/lang/invoke/VarHandle" ∧ (parseMethodDescriptor M.1.desc).map (fun d => d.parameters.length) = some n
theorem good_ws {M M2 : MD} (h : Cond.code M2.1 M2.2.1 M2.2.2.1 M2.2.2.2.1 ∈ tbG) : GoodIn (wsOf M) (wsOf M2) := fun w hw => by
  have h1 : w ∈ tbG := (List.mem_cons.mp hw).elim (fun e => e ▸ h) id
  exact ⟨List.mem_cons_of_mem _ h1, good_of_word (tbG_good h1)⟩
theorem q_cb {M2 : MD} {n idx : Nat} {p : Program} {s : State} {m : MethodId} {args : Array Value} {meth : Method} {c : Code} {A : Nat → Prop} (C : Cx S M p s m args meth c A) (hm : MF M2 n) (hlk : Cond.methodLink M.1.cls idx M2.1 ∈ tbG) (hR : (Nat.ble (M2.2.2.2.2.1 + 1) M.2.2.2.2.1 && Nat.ble (8 + (M2.2.2.1 + 11) + M2.2.2.2.2.2) M.2.2.2.2.2) = true) : CallB (rmOf M) s args M.1.cls idx M2.1 M2.2.1 M2.2.2.1 M2.2.2.2.1 (wsOf M2) (rmOf M2) 0 0 n := by
  obtain ⟨m1, m2, m3⟩ := hm
  rw [Bool.and_eq_true] at hR
  exact callB_of n C.2.2.2.2.1 (good_ws m1) rfl rfl rfl (q_hts C m2) (q_hts C hlk) m3 ⟨Nat.le_of_ble_eq_true hR.1, Nat.le_of_ble_eq_true hR.2⟩
theorem q_blind (S : SD) (av : List Value) (h : HP) (sz : Nat) : FrameBlind (va_Pc av (fun U => U.heap.size = sz ∧ va_P S.2.1 clz (S.2.2.2 h) U.heap ∧ va_K S.2.1 clz S.2.2.1 U ∧ va_D (fun _ => True) (S.2.2.2 h))) := fun a U g mk q => by
  obtain ⟨q0, q1, qP, qK, qD⟩ := q
  exact ⟨q0, q1, qP, va_K.moved (u := U) (U := U.calling g mk a) (Vm.Alike.refl U.vm) qK, qD⟩
theorem q_at {p : Program} {s : State} {m : MethodId} {args : Array Value} {meth : Method} {c : Code} {A : Nat → Prop} {H : Heap} (C : Cx S M p s m args meth c A) (hP : va_P S.2.1 clz (S.2.2.2 h) H) (hD : va_D A (S.2.2.2 h)) (av : List Value) : ∀ U : State, U.heap = H → s.WarmedH U.vm → va_Pc av (fun U => U.heap.size = H.size ∧ va_P S.2.1 clz (S.2.2.2 h) U.heap ∧ va_K S.2.1 clz S.2.2.1 U ∧ va_D (fun _ => True) (S.2.2.2 h)) av.toArray U := fun U hU hW => ⟨rfl, by rw [hU], by rw [hU]; exact hP, va_K.moved hW.alike C.2.2.2.2.2.2.2.2, hD.weaken (fun _ _ _ _ => trivial)⟩
/-- behind a call: the callee's world in the caller's place -/
theorem q_back {R2 : RS} {p : Program} {e : Env} {s : State} {m : MethodId} {args : Array Value} {below : List Frame} {meth : Method} {c : Code} {A : Nat → Prop} {H : Heap} {locs : List Loc} {ls : Array Slot} {a : Array Value} (C : Cx S M p s m args meth c A) (hD : va_D A (S.2.2.2 h)) (hS : va_S A s.heap H locs) (hv : lv_has ls M.2.2.1 loc) (hr : va_Run p S.1 e (rmOf M) s m args below meth c H locs 0 0 0 0 (F0 m pc ls stk) rest (Qz S R2 (va_A (S.2.2.2 h) H.size) a) (va_A (S.2.2.2 h) H.size)) (kk : Rn S M R (pc + 3) loc (R2.1.toList ++ rest) R2.2) : W p S.1 e (rmOf M) s m args below meth c H locs 0 0 (MQ below (Qz S R A) args s 0 0 A) (F0 m pc ls stk) := by
  have hA : ∀ q : Nat, va_A (S.2.2.2 h) H.size q → A q := fun q hq => by
    rcases hq with ⟨k, en, hk⟩ | hq
    · exact hD.2 k (q, en) hk
    · exact C.2.2.2.2.2.2.2.1 q (Nat.le_trans hS.1 hq)
  intro T hT X
  obtain ⟨v, st₀, t, T', L, h0, X', hL, e1, e2, ⟨⟨hv2, hP2, hK2, hD2⟩, hz, hk⟩, st⟩ := hr T hT X
  cases hv2
  rw [h0] at hz hk
  obtain ⟨t2, a1, b1⟩ := kk p e s m args below meth c T'.heap (locs ++ L) A ls C (by rw [e1]; exact hP2) (hD2.weaken (fun _ q _ hq => hA q.1 hq))
    ⟨Nat.le_trans hS.1 (by rw [e1]; exact hz), fun q h1 h2 => by rw [e1, hk q (Nat.lt_of_lt_of_le h1 hS.1) (fun z => h2 (hA q z))]; exact hS.2.1 q h1 h2, fun q hq => by
      rcases List.mem_append.mp hq with h | h
      · exact hS.2.2 q h
      · exact hA _ (hL q h)⟩ hv T' rfl X'
  exact ⟨t2, st t2 a1, b1⟩
theorem q_callS {M2 : MD} {av : List Value} {R2 : RS} {idx : Nat} (hct : Ct S M2 av h R2) (hm : MF M2 av.length) (hst : Cond.static M2.1 ∈ tbG) (hlk : Cond.methodLink M.1.cls idx M2.1 ∈ tbG) (hR : (Nat.ble (M2.2.2.2.2.1 + 1) M.2.2.2.2.1 && Nat.ble (8 + (M2.2.2.1 + 11) + M2.2.2.2.2.2) M.2.2.2.2.2) = true) (hs : stk = av.reverse ++ rest) (hrm : Nat.ble (rest.map fun v => v.category).sum 8 = true) (hd : decode M.2.1 pc = .ok (.invokestatic idx, 3)) (kk : Rn S M R (pc + 3) loc (R2.1.toList ++ rest) R2.2) : Rn S M R pc loc stk h := fun p e s m args below meth c H locs A ls C hP hD hS hv => 
  q_back C hD hS hv (va_runS (As := av) (rest := rest) ⟨C.1, C.2.1, C.2.2.1, C.2.2.2.1, C.2.2.2.2.1⟩ (hct H.size) ⟨q_cb C hm hlk hR, q_hts C hst⟩ ⟨q_blind S av h H.size, q_at C hP hD av⟩ rfl rfl hv.1 hs (lv_room (Nat.le_of_ble_eq_true hrm)) hd ⟨Nat.zero_le _, Nat.zero_le _⟩) kk
theorem q_callV {M2 : MD} {av : List Value} {R2 : RS} {idx b k ci : Nat} {fs : List Value} {q : vw_C} (hct : Ct S M2 (.ref b :: av) h R2) (hm : MF M2 av.length) (hin : Cond.instanceMethod M2.1 ∈ tbG) (hse : Cond.selects M2.1.cls M2.1 M2.1 ∈ tbG) (hlk : Cond.methodLink M.1.cls idx M2.1 ∈ tbG) (hR : (Nat.ble (M2.2.2.2.2.1 + 1) M.2.2.2.2.1 && Nat.ble (8 + (M2.2.2.1 + 11) + M2.2.2.2.2.2) M.2.2.2.2.2) = true) (hw : (S.2.2.2 h)[k]? = some (b, .inr (ci, fs))) (hc : clz[ci]? = some q) (hq : q.1 = M2.1.cls) (hs : stk = av.reverse ++ .ref b :: rest) (hrm : Nat.ble (rest.map fun v => v.category).sum 8 = true) (hd : decode M.2.1 pc = .ok (.invokevirtual idx, 3)) (kk : Rn S M R (pc + 3) loc (R2.1.toList ++ rest) R2.2) : Rn S M R pc loc stk h := fun p e s m args below meth c H locs A ls C hP hD hS hv => 
  q_back C hD hS hv (va_runV (C := M2.1.cls) (As := av) (rest := rest) ⟨C.1, C.2.1, C.2.2.1, C.2.2.2.1, C.2.2.2.2.1⟩ (hct H.size) ⟨q_cb C hm hlk hR, q_hts C hin, q_hts C hse⟩ ⟨q_blind S (.ref b :: av) h H.size, hq ▸ va_recv C.2.2.2.2.2.2.2.2 hP hc hw, q_at C hP hD (.ref b :: av)⟩ rfl rfl hv.1 hs (lv_room (Nat.le_of_ble_eq_true hrm)) hd ⟨Nat.zero_le _, Nat.zero_le _⟩) kk
theorem q_cl {Z : Int × HP} {F : Option (Int × HP)} {kf : Int → HP → Option (Int × HP)} (hf : cl F kf = some Z) : ∃ r h1, F = some (r, h1) ∧ kf r h1 = some Z := by
  unfold cl at hf
  split at hf
  · exact ⟨_, _, rfl, hf⟩
  · cases hf
end RB
end
section
/-! The two worlds: the class's thirty cells and the reference's thirteen, as they stand behind the constructors; no call makes a cell. -/
def wd (n : Nat) (ad : Nat → Nat) (ce : Nat → va_E) : va_W := (List.range n).map (fun k => (ad k, ce k))
theorem wd_get {n k : Nat} {ad : Nat → Nat} {ce : Nat → va_E} (hk : k < n) : (wd n ad ce)[k]? = some (ad k, ce k) := by simp [wd, hk]
theorem wd_set {n k : Nat} {ad : Nat → Nat} {ce ce1 : Nat → va_E} {x : va_E} (hx : x = ce1 k) (h : ∀ j, j ≠ k → ce1 j = ce j) : (wd n ad ce).set k (ad k, x) = wd n ad ce1 := by
  subst hx
  apply List.ext_getElem?
  intro i
  rw [List.getElem?_set]
  by_cases hi : k = i
  · subst hi
    by_cases hk : k < n
    · simp [wd, hk]
    · simp [wd, hk]
  · rw [if_neg hi]
    by_cases hk : i < n
    · rw [wd_get hk, wd_get hk, h i (fun q => hi q.symm)]
    · simp [wd, hk]
theorem hs_ne {h : HP} {a i k : Nat} {v : Int} (hk : k ≠ a) : (hs h a i v) k = h k := by funext b; simp [hs, hk]
theorem hs_eq {h : HP} {a i : Nat} {v : Int} : (hs h a i v) a = fun b => if b = i then v else h a b := by funext b; simp [hs]
theorem upd_of (r : Nat → Int) (i : Nat) (v : Int) : upd (fun j => Int32.ofInt (r j)) i (Int32.ofInt v) = fun j => Int32.ofInt (if j = i then v else r j) := by
  funext j
  unfold upd
  by_cases hj : j = i
  · simp [hj]
  · simp [hj]
def isArr (k : Nat) : Bool := decide (12 ≤ k ∧ k < 30 ∧ k ≠ 27)
def isSh (k : Nat) : Bool := decide (2 ≤ k ∧ k < 12)
def lnC (k : Nat) : Nat := if isArr k then (if k < 22 then 12 else if k < 27 then 9 else if k = 28 then 256 else 297) else 0
def ceC (ad : Nat → Nat) (cI cR : ClassId) (r : Nat → Int) (k : Nat) : va_E :=
  if k = 0 then .inr (2, [.ref (ad 1), vi (r 1), .ref (ad 22), .ref (ad 23), .ref (ad 24), .ref (ad 25), .ref (ad 26), .ref (ad 27), .ref (ad 29)])
  else if k = 1 then .inl (cR, 10, .inr (.inr (.inr (.inr (fun j => some (ad (2 + j)))))))
  else if k = 27 then .inr (0, [.ref (ad 28), vi (r 1)])
  else if isSh k then .inr (1, [.ref (ad (k + 10)), vi (r 1), vi (r 2)])
  else .inl (cI, lnC k, .inl (fun j => Int32.ofInt (r j)))
def lnM (k : Nat) : Nat := if k = 1 then 10 else if k = 2 then 10 else if k = 3 then 120 else if k = 4 then 12 else if k = 5 then 9 else if k = 6 then 9 else if k = 7 then 20 else if k = 8 then 10 else if k = 9 then 324 else if k = 10 then 12 else if k = 11 then 12 else if k = 12 then 297 else 0
def ceM (ad : Nat → Nat) (cI : ClassId) (r : Nat → Int) (k : Nat) : va_E :=
  if k = 0 then .inr (3, [.ref (ad 1), .ref (ad 2), .ref (ad 3), .ref (ad 4), vi (r 4), .ref (ad 5), vi (r 6), .ref (ad 6), vi (r 8), .ref (ad 7), vi (r 10), .ref (ad 8), .ref (ad 9), vi (r 13), .ref (ad 10), .ref (ad 11), .ref (ad 12)])
  else .inl (cI, lnM k, .inl (fun j => Int32.ofInt (r j)))
def sdC (l : Launch) (D : va_G) (ad : Nat → Nat) (cI cR : ClassId) : SD := (l, D, [(cI, .int), (cR, .object "FormsOfTwo$Sheet")], fun h => wd 30 ad (fun k => ceC ad cI cR (h k) k))
def sdM (l : Launch) (D : va_G) (ad : Nat → Nat) (cI : ClassId) : SD := (l, D, [(cI, .int)], fun h => wd 13 ad (fun k => ceM ad cI (h k) k))
theorem arr_of_ln {k : Nat} {z : Int} (h0 : 0 ≤ z) (h : z < lnC k) : isArr k = true := by
  by_cases hk : isArr k = true
  · exact hk
  · simp [lnC, hk] at h; omega
theorem arr_is {k : Nat} : isArr k = true ↔ 12 ≤ k ∧ k < 30 ∧ k ≠ 27 := by unfold isArr; exact decide_eq_true_iff
theorem sh_is {k : Nat} : isSh k = true ↔ 2 ≤ k ∧ k < 12 := by unfold isSh; exact decide_eq_true_iff
theorem arr_lt {k : Nat} (h : isArr k = true) : k < 30 := (arr_is.mp h).2.1
theorem sh_lt {k : Nat} (h : isSh k = true) : 2 ≤ k ∧ k < 12 := sh_is.mp h
theorem sh_arr {k : Nat} (h : isSh k = true) : isArr (k + 10) = true := by
  have h1 := sh_lt h
  exact arr_is.mpr (by omega)
theorem ceC_arr {ad : Nat → Nat} {cI cR : ClassId} {r : Nat → Int} {k : Nat} (h : isArr k = true) : ceC ad cI cR r k = .inl (cI, lnC k, .inl (fun j => Int32.ofInt (r j))) := by
  have h1 := arr_is.mp h
  have h2 : ¬ isSh k = true := fun q => by have := sh_lt q; omega
  unfold ceC
  rw [if_neg (by omega), if_neg (by omega), if_neg h1.2.2, if_neg h2]
theorem ceC_sh {ad : Nat → Nat} {cI cR : ClassId} {r : Nat → Int} {k : Nat} (h : isSh k = true) : ceC ad cI cR r k = .inr (1, [.ref (ad (k + 10)), vi (r 1), vi (r 2)]) := by
  have h1 := sh_lt h
  unfold ceC
  rw [if_neg (by omega), if_neg (by omega), if_neg (by omega), if_pos h]
section MEM
variable {l : Launch} {D : va_G} {ad : Nat → Nat} {cI cR : ClassId} {M : MD} {R : RS} {pc : Nat} {loc : List (Nat × Value)} {stk : List Value} {h : HP}
theorem ceC_hs {a i : Nat} {v : Int} (j : Nat) (hj : j ≠ a) : ceC ad cI cR ((hs h a i v) j) j = ceC ad cI cR (h j) j := by rw [hs_ne hj]
theorem ceM_hs {a i : Nat} {v : Int} (j : Nat) (hj : j ≠ a) : ceM ad cI ((hs h a i v) j) j = ceM ad cI (h j) j := by rw [hs_ne hj]
theorem wC_arr {a : Nat} (ha : isArr a = true) : ((sdC l D ad cI cR).2.2.2 h)[a]? = some (ad a, .inl (cI, lnC a, .inl (fun j => Int32.ofInt (h a j)))) := by
  show (wd 30 ad (fun k => ceC ad cI cR (h k) k))[a]? = _
  rw [wd_get (arr_lt ha), ceC_arr ha]
theorem wC_set {a i : Nat} {v : Int} (ha : isArr a = true) : ((sdC l D ad cI cR).2.2.2 h).set a (ad a, .inl (cI, lnC a, .inl (upd (fun j => Int32.ofInt (h a j)) i (Int32.ofInt v)))) = (sdC l D ad cI cR).2.2.2 (hs h a i v) := by
  show (wd 30 ad (fun k => ceC ad cI cR (h k) k)).set a _ = wd 30 ad (fun k => ceC ad cI cR ((hs h a i v) k) k)
  exact wd_set (by rw [ceC_arr ha, hs_eq, upd_of]) (fun j hj => ceC_hs j hj)
theorem ceM_arr {r : Nat → Int} {a : Nat} (ha : 1 ≤ a) : ceM ad cI r a = .inl (cI, lnM a, .inl (fun j => Int32.ofInt (r j))) := by unfold ceM; rw [if_neg (by omega)]
theorem wM_arr {a : Nat} (ha : 1 ≤ a ∧ a ≤ 12) : ((sdM l D ad cI).2.2.2 h)[a]? = some (ad a, .inl (cI, lnM a, .inl (fun j => Int32.ofInt (h a j)))) := by
  show (wd 13 ad (fun k => ceM ad cI (h k) k))[a]? = _
  rw [wd_get (by omega), ceM_arr ha.1]
theorem wM_set {a i : Nat} {v : Int} (ha : 1 ≤ a ∧ a ≤ 12) : ((sdM l D ad cI).2.2.2 h).set a (ad a, .inl (cI, lnM a, .inl (upd (fun j => Int32.ofInt (h a j)) i (Int32.ofInt v)))) = (sdM l D ad cI).2.2.2 (hs h a i v) := by
  show (wd 13 ad (fun k => ceM ad cI (h k) k)).set a _ = wd 13 ad (fun k => ceM ad cI ((hs h a i v) k) k)
  exact wd_set (by rw [ceM_arr ha.1, hs_eq, upd_of]) (fun j hj => ceM_hs j hj)
theorem C_ld {α : Type} {Z : α} {a : Nat} {i : Int} {kf : Int → Option α} (hf : ld (lnC a) (h a) i kf = some Z) (hd : decode M.2.1 pc = .ok (.iaload, 1)) (kk : ∀ v : Int, kf v = some Z → Rn (sdC l D ad cI cR) M R (pc + 1) loc (vi v :: stk) h) : Rn (sdC l D ad cI cR) M R pc loc (vi i :: .ref (ad a) :: stk) h := by
  unfold ld at hf
  split at hf
  · rename_i hi
    have ha := arr_of_ln hi.1 hi.2
    exact q_iald (S := sdC l D ad cI cR) (k := a) (n := lnC a) (cA := cI) (f := fun j => Int32.ofInt (h a j)) (wC_arr ha) rfl hi hd (kk _ hf)
  · cases hf
theorem C_st {α : Type} {Z : α} {a : Nat} {i v : Int} {kf : HP → Option α} (hf : sto (lnC a) h a i v kf = some Z) (hd : decode M.2.1 pc = .ok (.iastore, 1)) (kk : ∀ h1 : HP, kf h1 = some Z → Rn (sdC l D ad cI cR) M R (pc + 1) loc stk h1) : Rn (sdC l D ad cI cR) M R pc loc (vi v :: vi i :: .ref (ad a) :: stk) h := by
  unfold sto at hf
  split at hf
  · rename_i hi
    have ha := arr_of_ln hi.1 hi.2
    exact q_iast (S := sdC l D ad cI cR) (k := a) (n := lnC a) (cA := cI) (f := fun j => Int32.ofInt (h a j)) (h1 := hs h a (wi i).toNat v) (wC_arr ha) rfl hi (wC_set ha) hd (kk _ hf)
  · cases hf
theorem C_alen {a : Nat} (ha : isArr a = true) (hd : decode M.2.1 pc = .ok (.arraylength, 1)) (kk : Rn (sdC l D ad cI cR) M R (pc + 1) loc (vi (lnC a) :: stk) h) : Rn (sdC l D ad cI cR) M R pc loc (.ref (ad a) :: stk) h :=
  q_alen (S := sdC l D ad cI cR) (k := a) (n := lnC a) (cA := cI) (f := fun j => Int32.ofInt (h a j)) (wC_arr ha) rfl hd kk
theorem C_ald {α : Type} {Z : α} {i : Int} {kf : Nat → Option α} (hf : lda i kf = some Z) (hd : decode M.2.1 pc = .ok (.aaload, 1)) (kk : ∀ k : Nat, isSh k = true → kf k = some Z → Rn (sdC l D ad cI cR) M R (pc + 1) loc (.ref (ad k) :: stk) h) : Rn (sdC l D ad cI cR) M R pc loc (vi i :: .ref (ad 1) :: stk) h := by
  unfold lda at hf
  split at hf
  · rename_i hi
    exact q_aald (S := sdC l D ad cI cR) (k := 1) (n := 10) (t0 := 1) (cA := cR) (Cn := "FormsOfTwo$Sheet") (f := fun j => some (ad (2 + j))) (wd_get (by decide)) rfl hi rfl hd (kk _ (sh_is.mpr (by omega)) hf)
  · cases hf
theorem M_ld {α : Type} {Z : α} {a : Nat} {i : Int} {kf : Int → Option α} (ha : (Nat.ble 1 a && Nat.ble a 12) = true) (hf : ld (lnM a) (h a) i kf = some Z) (hd : decode M.2.1 pc = .ok (.iaload, 1)) (kk : ∀ v : Int, kf v = some Z → Rn (sdM l D ad cI) M R (pc + 1) loc (vi v :: stk) h) : Rn (sdM l D ad cI) M R pc loc (vi i :: .ref (ad a) :: stk) h := by
  simp only [Bool.and_eq_true, Nat.ble_eq] at ha
  unfold ld at hf
  split at hf
  · rename_i hi
    exact q_iald (S := sdM l D ad cI) (k := a) (n := lnM a) (cA := cI) (f := fun j => Int32.ofInt (h a j)) (wM_arr ha) rfl hi hd (kk _ hf)
  · cases hf
theorem M_st {α : Type} {Z : α} {a : Nat} {i v : Int} {kf : HP → Option α} (ha : (Nat.ble 1 a && Nat.ble a 12) = true) (hf : sto (lnM a) h a i v kf = some Z) (hd : decode M.2.1 pc = .ok (.iastore, 1)) (kk : ∀ h1 : HP, kf h1 = some Z → Rn (sdM l D ad cI) M R (pc + 1) loc stk h1) : Rn (sdM l D ad cI) M R pc loc (vi v :: vi i :: .ref (ad a) :: stk) h := by
  simp only [Bool.and_eq_true, Nat.ble_eq] at ha
  unfold sto at hf
  split at hf
  · rename_i hi
    exact q_iast (S := sdM l D ad cI) (k := a) (n := lnM a) (cA := cI) (f := fun j => Int32.ofInt (h a j)) (h1 := hs h a (wi i).toNat v) (wM_arr ha) rfl hi (wM_set ha) hd (kk _ hf)
  · cases hf
end MEM
end
section
theorem inlX0 : ∀ w ∈ u_ws RX0 TX0 2, w ∈ lw_tbl := by decide +kernel
theorem ingX0 : (u_ws RX0 TX0 2).all goodWord = true := by decide +kernel
theorem inGX0 : ∀ w ∈ u_ws RX0 TX0 2, w ∈ tbG := fun w h => tbG_in (inlX0 w h) (List.all_eq_true.mp ingX0 w h)
theorem inlX3 : ∀ w ∈ u_ws RX3 TX3 3, w ∈ lw_tbl := by decide +kernel
theorem ingX3 : (u_ws RX3 TX3 3).all goodWord = true := by decide +kernel
theorem inGX3 : ∀ w ∈ u_ws RX3 TX3 3, w ∈ tbG := fun w h => tbG_in (inlX3 w h) (List.all_eq_true.mp ingX3 w h)
theorem inlX4 : ∀ w ∈ u_ws RX4 TX4 9, w ∈ lw_tbl := by decide +kernel
theorem ingX4 : (u_ws RX4 TX4 9).all goodWord = true := by decide +kernel
theorem inGX4 : ∀ w ∈ u_ws RX4 TX4 9, w ∈ tbG := fun w h => tbG_in (inlX4 w h) (List.all_eq_true.mp ingX4 w h)
theorem inlX5 : ∀ w ∈ u_ws RX5 TX5 17, w ∈ lw_tbl := by decide +kernel
theorem ingX5 : (u_ws RX5 TX5 17).all goodWord = true := by decide +kernel
theorem inGX5 : ∀ w ∈ u_ws RX5 TX5 17, w ∈ tbG := fun w h => tbG_in (inlX5 w h) (List.all_eq_true.mp ingX5 w h)
theorem flX0_11 : Cond.fieldLink RX0 11 "FormsOfTwo$Grid" "cells" "[I" ∈ tbG := tbG_t 25 (by decide +kernel) rfl
theorem flX0_15 : Cond.fieldLink RX0 15 "FormsOfTwo$Grid" "product" "I" ∈ tbG := tbG_t 26 (by decide +kernel) rfl
theorem flX3_9 : Cond.fieldLink RX3 9 "FormsOfTwo$Sheet" "items" "[I" ∈ tbG := tbG_t 38 (by decide +kernel) rfl
theorem flX3_15 : Cond.fieldLink RX3 15 "FormsOfTwo$Sheet" "kind" "I" ∈ tbG := tbG_t 40 (by decide +kernel) rfl
theorem flX3_19 : Cond.fieldLink RX3 19 "FormsOfTwo$Sheet" "size" "I" ∈ tbG := tbG_t 42 (by decide +kernel) rfl
theorem flX4_11 : Cond.fieldLink RX4 11 "FormsOfTwo" "sheets" "[LFormsOfTwo$Sheet;" ∈ tbG := tbG_t 51 (by decide +kernel) rfl
theorem flX4_15 : Cond.fieldLink RX4 15 "FormsOfTwo" "latestFinding" "I" ∈ tbG := tbG_t 52 (by decide +kernel) rfl
theorem flX4_19 : Cond.fieldLink RX4 19 "FormsOfTwo" "first" "[I" ∈ tbG := tbG_t 53 (by decide +kernel) rfl
theorem flX4_23 : Cond.fieldLink RX4 23 "FormsOfTwo" "second" "[I" ∈ tbG := tbG_t 54 (by decide +kernel) rfl
theorem flX4_26 : Cond.fieldLink RX4 26 "FormsOfTwo" "third" "[I" ∈ tbG := tbG_t 55 (by decide +kernel) rfl
theorem flX4_29 : Cond.fieldLink RX4 29 "FormsOfTwo" "fourth" "[I" ∈ tbG := tbG_t 56 (by decide +kernel) rfl
theorem flX4_32 : Cond.fieldLink RX4 32 "FormsOfTwo" "made" "[I" ∈ tbG := tbG_t 57 (by decide +kernel) rfl
theorem flX4_38 : Cond.fieldLink RX4 38 "FormsOfTwo" "grid" "LFormsOfTwo$Grid;" ∈ tbG := tbG_t 58 (by decide +kernel) rfl
theorem flX4_42 : Cond.fieldLink RX4 42 "FormsOfTwo" "ways" "[I" ∈ tbG := tbG_t 59 (by decide +kernel) rfl
theorem flX4_65 : Cond.fieldLink RX4 65 "FormsOfTwo$Sheet" "size" "I" ∈ tbG := tbG_t 43 (by decide +kernel) rfl
theorem flX4_78 : Cond.fieldLink RX4 78 "FormsOfTwo$Sheet" "items" "[I" ∈ tbG := tbG_t 39 (by decide +kernel) rfl
theorem flX4_82 : Cond.fieldLink RX4 82 "FormsOfTwo$Sheet" "kind" "I" ∈ tbG := tbG_t 41 (by decide +kernel) rfl
theorem flX5_7 : Cond.fieldLink RX5 7 "FormsOfTwoModel" "kinds" "[I" ∈ tbG := tbG_t 461 (by decide +kernel) rfl
theorem flX5_13 : Cond.fieldLink RX5 13 "FormsOfTwoModel" "sizes" "[I" ∈ tbG := tbG_t 462 (by decide +kernel) rfl
theorem flX5_16 : Cond.fieldLink RX5 16 "FormsOfTwoModel" "items" "[I" ∈ tbG := tbG_t 463 (by decide +kernel) rfl
theorem flX5_19 : Cond.fieldLink RX5 19 "FormsOfTwoModel" "moved" "[I" ∈ tbG := tbG_t 464 (by decide +kernel) rfl
theorem flX5_22 : Cond.fieldLink RX5 22 "FormsOfTwoModel" "f" "[I" ∈ tbG := tbG_t 466 (by decide +kernel) rfl
theorem flX5_25 : Cond.fieldLink RX5 25 "FormsOfTwoModel" "g" "[I" ∈ tbG := tbG_t 468 (by decide +kernel) rfl
theorem flX5_28 : Cond.fieldLink RX5 28 "FormsOfTwoModel" "h" "[I" ∈ tbG := tbG_t 470 (by decide +kernel) rfl
theorem flX5_31 : Cond.fieldLink RX5 31 "FormsOfTwoModel" "grown" "[I" ∈ tbG := tbG_t 472 (by decide +kernel) rfl
theorem flX5_34 : Cond.fieldLink RX5 34 "FormsOfTwoModel" "table" "[I" ∈ tbG := tbG_t 473 (by decide +kernel) rfl
theorem flX5_37 : Cond.fieldLink RX5 37 "FormsOfTwoModel" "rs" "[I" ∈ tbG := tbG_t 475 (by decide +kernel) rfl
theorem flX5_40 : Cond.fieldLink RX5 40 "FormsOfTwoModel" "cs" "[I" ∈ tbG := tbG_t 476 (by decide +kernel) rfl
theorem flX5_43 : Cond.fieldLink RX5 43 "FormsOfTwoModel" "ways" "[I" ∈ tbG := tbG_t 477 (by decide +kernel) rfl
theorem flX5_56 : Cond.fieldLink RX5 56 "FormsOfTwoModel" "latest" "I" ∈ tbG := tbG_t 465 (by decide +kernel) rfl
theorem flX5_81 : Cond.fieldLink RX5 81 "FormsOfTwoModel" "fn" "I" ∈ tbG := tbG_t 467 (by decide +kernel) rfl
theorem flX5_84 : Cond.fieldLink RX5 84 "FormsOfTwoModel" "gn" "I" ∈ tbG := tbG_t 469 (by decide +kernel) rfl
theorem flX5_87 : Cond.fieldLink RX5 87 "FormsOfTwoModel" "hn" "I" ∈ tbG := tbG_t 471 (by decide +kernel) rfl
theorem flX5_149 : Cond.fieldLink RX5 149 "FormsOfTwoModel" "determinant" "I" ∈ tbG := tbG_t 474 (by decide +kernel) rfl
theorem kcX3_42 : Cond.constantLong RX3 42 (Int64.ofInt (31)) ∈ tbG := tbG_t 453 (by decide +kernel) rfl
theorem kcX4_81 : Cond.constant RX4 81 (Int32.ofInt (-2147483648)) ∈ tbG := tbG_t 134 (by decide +kernel) rfl
theorem kcX4_218 : Cond.constantLong RX4 218 (Int64.ofInt (17)) ∈ tbG := tbG_t 447 (by decide +kernel) rfl
theorem kcX4_220 : Cond.constantLong RX4 220 (Int64.ofInt (31)) ∈ tbG := tbG_t 448 (by decide +kernel) rfl
theorem kcX5_46 : Cond.constantLong RX5 46 (Int64.ofInt (10007)) ∈ tbG := tbG_t 570 (by decide +kernel) rfl
theorem kcX5_60 : Cond.constantLong RX5 60 (Int64.ofInt (9)) ∈ tbG := tbG_t 520 (by decide +kernel) rfl
theorem kcX5_70 : Cond.constantLong RX5 70 (Int64.ofInt (2)) ∈ tbG := tbG_t 524 (by decide +kernel) rfl
theorem kcX5_80 : Cond.constant RX5 80 (Int32.ofInt (-2147483648)) ∈ tbG := tbG_t 545 (by decide +kernel) rfl
theorem kcX5_100 : Cond.constantLong RX5 100 (Int64.ofInt (8)) ∈ tbG := tbG_t 554 (by decide +kernel) rfl
theorem kcX5_108 : Cond.constantLong RX5 108 (Int64.ofInt (3)) ∈ tbG := tbG_t 590 (by decide +kernel) rfl
theorem kcX5_158 : Cond.constantLong RX5 158 (Int64.ofInt (12)) ∈ tbG := tbG_t 686 (by decide +kernel) rfl
theorem kcX5_173 : Cond.constantLong RX5 173 (Int64.ofInt (17)) ∈ tbG := tbG_t 727 (by decide +kernel) rfl
theorem kcX5_175 : Cond.constantLong RX5 175 (Int64.ofInt (31)) ∈ tbG := tbG_t 728 (by decide +kernel) rfl
theorem lkL_9 : Cond.methodLink RL 9 yX4_init ∈ tbG := tbG_t 11 (by decide +kernel) rfl
theorem lkL_12 : Cond.methodLink RL 12 yX5_init ∈ tbG := tbG_t 457 (by decide +kernel) rfl
theorem lkL_13 : Cond.methodLink RL 13 yX4_sheet ∈ tbG := tbG_t 79 (by decide +kernel) rfl
theorem lkL_17 : Cond.methodLink RL 17 yX5_sheet ∈ tbG := tbG_t 513 (by decide +kernel) rfl
theorem lkL_18 : Cond.methodLink RL 18 yX4_lose ∈ tbG := tbG_t 97 (by decide +kernel) rfl
theorem lkL_22 : Cond.methodLink RL 22 yX5_lose ∈ tbG := tbG_t 529 (by decide +kernel) rfl
theorem lkL_23 : Cond.methodLink RL 23 yX4_put ∈ tbG := tbG_t 113 (by decide +kernel) rfl
theorem lkL_27 : Cond.methodLink RL 27 yX5_put ∈ tbG := tbG_t 533 (by decide +kernel) rfl
theorem lkL_28 : Cond.methodLink RL 28 yX4_get ∈ tbG := tbG_t 130 (by decide +kernel) rfl
theorem lkL_31 : Cond.methodLink RL 31 yX5_get ∈ tbG := tbG_t 541 (by decide +kernel) rfl
theorem lkL_32 : Cond.methodLink RL 32 yX4_copy ∈ tbG := tbG_t 135 (by decide +kernel) rfl
theorem lkL_36 : Cond.methodLink RL 36 yX5_copy ∈ tbG := tbG_t 546 (by decide +kernel) rfl
theorem lkL_37 : Cond.methodLink RL 37 yX4_term ∈ tbG := tbG_t 142 (by decide +kernel) rfl
theorem lkL_41 : Cond.methodLink RL 41 yX5_term ∈ tbG := tbG_t 550 (by decide +kernel) rfl
theorem lkL_42 : Cond.methodLink RL 42 yX4_degree ∈ tbG := tbG_t 164 (by decide +kernel) rfl
theorem lkL_45 : Cond.methodLink RL 45 yX5_degree ∈ tbG := tbG_t 571 (by decide +kernel) rfl
theorem lkL_46 : Cond.methodLink RL 46 yX4_value ∈ tbG := tbG_t 172 (by decide +kernel) rfl
theorem lkL_49 : Cond.methodLink RL 49 yX5_value ∈ tbG := tbG_t 575 (by decide +kernel) rfl
theorem lkL_50 : Cond.methodLink RL 50 yX4_join ∈ tbG := tbG_t 184 (by decide +kernel) rfl
theorem lkL_53 : Cond.methodLink RL 53 yX5_join ∈ tbG := tbG_t 586 (by decide +kernel) rfl
theorem lkL_54 : Cond.methodLink RL 54 yX4_mix ∈ tbG := tbG_t 214 (by decide +kernel) rfl
theorem lkL_58 : Cond.methodLink RL 58 yX5_mix ∈ tbG := tbG_t 607 (by decide +kernel) rfl
theorem lkL_59 : Cond.methodLink RL 59 yX4_change ∈ tbG := tbG_t 225 (by decide +kernel) rfl
theorem lkL_62 : Cond.methodLink RL 62 yX5_change ∈ tbG := tbG_t 615 (by decide +kernel) rfl
theorem lkL_63 : Cond.methodLink RL 63 yX4_overlap ∈ tbG := tbG_t 238 (by decide +kernel) rfl
theorem lkL_66 : Cond.methodLink RL 66 yX5_overlap ∈ tbG := tbG_t 619 (by decide +kernel) rfl
theorem lkL_67 : Cond.methodLink RL 67 yX4_alike ∈ tbG := tbG_t 261 (by decide +kernel) rfl
theorem lkL_70 : Cond.methodLink RL 70 yX5_alike ∈ tbG := tbG_t 635 (by decide +kernel) rfl
theorem lkL_71 : Cond.methodLink RL 71 yX4_roots ∈ tbG := tbG_t 269 (by decide +kernel) rfl
theorem lkL_74 : Cond.methodLink RL 74 yX5_roots ∈ tbG := tbG_t 647 (by decide +kernel) rfl
theorem lkL_75 : Cond.methodLink RL 75 yX4_root ∈ tbG := tbG_t 289 (by decide +kernel) rfl
theorem lkL_78 : Cond.methodLink RL 78 yX5_root ∈ tbG := tbG_t 659 (by decide +kernel) rfl
theorem lkL_79 : Cond.methodLink RL 79 yX4_common ∈ tbG := tbG_t 293 (by decide +kernel) rfl
theorem lkL_82 : Cond.methodLink RL 82 yX5_common ∈ tbG := tbG_t 663 (by decide +kernel) rfl
theorem lkL_83 : Cond.methodLink RL 83 yX4_result ∈ tbG := tbG_t 314 (by decide +kernel) rfl
theorem lkL_86 : Cond.methodLink RL 86 yX5_result ∈ tbG := tbG_t 667 (by decide +kernel) rfl
theorem lkL_87 : Cond.methodLink RL 87 yX4_powers ∈ tbG := tbG_t 360 (by decide +kernel) rfl
theorem lkL_90 : Cond.methodLink RL 90 yX5_powers ∈ tbG := tbG_t 675 (by decide +kernel) rfl
theorem lkL_91 : Cond.methodLink RL 91 yX4_build ∈ tbG := tbG_t 383 (by decide +kernel) rfl
theorem lkL_94 : Cond.methodLink RL 94 yX5_build ∈ tbG := tbG_t 682 (by decide +kernel) rfl
theorem lkL_95 : Cond.methodLink RL 95 yX4_rank ∈ tbG := tbG_t 390 (by decide +kernel) rfl
theorem lkL_98 : Cond.methodLink RL 98 yX5_rank ∈ tbG := tbG_t 687 (by decide +kernel) rfl
theorem lkL_99 : Cond.methodLink RL 99 yX4_leads ∈ tbG := tbG_t 398 (by decide +kernel) rfl
theorem lkL_102 : Cond.methodLink RL 102 yX5_leads ∈ tbG := tbG_t 691 (by decide +kernel) rfl
theorem lkL_103 : Cond.methodLink RL 103 yX4_lead ∈ tbG := tbG_t 420 (by decide +kernel) rfl
theorem lkL_106 : Cond.methodLink RL 106 yX5_lead ∈ tbG := tbG_t 707 (by decide +kernel) rfl
theorem lkL_107 : Cond.methodLink RL 107 yX4_staying ∈ tbG := tbG_t 427 (by decide +kernel) rfl
theorem lkL_110 : Cond.methodLink RL 110 yX5_staying ∈ tbG := tbG_t 711 (by decide +kernel) rfl
theorem lkL_111 : Cond.methodLink RL 111 yX4_count ∈ tbG := tbG_t 435 (by decide +kernel) rfl
theorem lkL_114 : Cond.methodLink RL 114 yX5_count ∈ tbG := tbG_t 719 (by decide +kernel) rfl
theorem lkL_115 : Cond.methodLink RL 115 yX4_digest ∈ tbG := tbG_t 443 (by decide +kernel) rfl
theorem lkL_119 : Cond.methodLink RL 119 yX5_digest ∈ tbG := tbG_t 723 (by decide +kernel) rfl
theorem lkX0_19 : Cond.methodLink RX0 19 yX2_clear ∈ tbG := tbG_t 322 (by decide +kernel) rfl
theorem lkX0_25 : Cond.methodLink RX0 25 yX0_set ∈ tbG := tbG_t 327 (by decide +kernel) rfl
theorem lkX0_29 : Cond.methodLink RX0 29 yX3_number ∈ tbG := tbG_t 380 (by decide +kernel) rfl
theorem lkX0_35 : Cond.methodLink RX0 35 yX0_reduce ∈ tbG := tbG_t 335 (by decide +kernel) rfl
theorem lkX0_39 : Cond.methodLink RX0 39 yX0_rowWith ∈ tbG := tbG_t 339 (by decide +kernel) rfl
theorem lkX0_42 : Cond.methodLink RX0 42 yX0_bringUp ∈ tbG := tbG_t 347 (by decide +kernel) rfl
theorem lkX0_45 : Cond.methodLink RX0 45 yX0_divideRow ∈ tbG := tbG_t 351 (by decide +kernel) rfl
theorem lkX0_48 : Cond.methodLink RX0 48 yX0_clearPlace ∈ tbG := tbG_t 356 (by decide +kernel) rfl
theorem lkX0_52 : Cond.methodLink RX0 52 yX0_at ∈ tbG := tbG_t 343 (by decide +kernel) rfl
theorem lkX0_56 : Cond.methodLink RX0 56 yX1_inverse ∈ tbG := tbG_t 355 (by decide +kernel) rfl
theorem lkX1_9 : Cond.methodLink RX1 9 yJ9_floorMod_7cf53 ∈ tbG := tbG_t 161 (by decide +kernel) rfl
theorem lkX1_15 : Cond.methodLink RX1 15 yX1_power ∈ tbG := tbG_t 255 (by decide +kernel) rfl
theorem lkX2_9 : Cond.methodLink RX2 9 yX1_choose ∈ tbG := tbG_t 375 (by decide +kernel) rfl
theorem lkX2_15 : Cond.methodLink RX2 15 yX1_inverse ∈ tbG := tbG_t 268 (by decide +kernel) rfl
theorem lkX2_19 : Cond.methodLink RX2 19 yX2_changeByX ∈ tbG := tbG_t 232 (by decide +kernel) rfl
theorem lkX2_25 : Cond.methodLink RX2 25 yX2_changeByY ∈ tbG := tbG_t 235 (by decide +kernel) rfl
theorem lkX2_28 : Cond.methodLink RX2 28 yX2_strip ∈ tbG := tbG_t 310 (by decide +kernel) rfl
theorem lkX3_22 : Cond.methodLink RX3 22 yX3_number ∈ tbG := tbG_t 281 (by decide +kernel) rfl
theorem lkX3_26 : Cond.methodLink RX3 26 yX3_holds ∈ tbG := tbG_t 129 (by decide +kernel) rfl
theorem lkX3_30 : Cond.methodLink RX3 30 yX1_reduced ∈ tbG := tbG_t 158 (by decide +kernel) rfl
theorem lkX3_35 : Cond.methodLink RX3 35 yX3_renew ∈ tbG := tbG_t 212 (by decide +kernel) rfl
theorem lkX3_39 : Cond.methodLink RX3 39 yX3_store ∈ tbG := tbG_t 213 (by decide +kernel) rfl
theorem lkX3_44 : Cond.methodLink RX3 44 yX3_top ∈ tbG := tbG_t 454 (by decide +kernel) rfl
theorem lkX4_46 : Cond.methodLink RX4 46 yX4_noSheet ∈ tbG := tbG_t 83 (by decide +kernel) rfl
theorem lkX4_50 : Cond.methodLink RX4 50 yX4_noKind ∈ tbG := tbG_t 86 (by decide +kernel) rfl
theorem lkX4_53 : Cond.methodLink RX4 53 yX4_found ∈ tbG := tbG_t 89 (by decide +kernel) rfl
theorem lkX4_57 : Cond.methodLink RX4 57 yX3_renew ∈ tbG := tbG_t 93 (by decide +kernel) rfl
theorem lkX4_61 : Cond.methodLink RX4 61 yX4_refuseSheets ∈ tbG := tbG_t 101 (by decide +kernel) rfl
theorem lkX4_68 : Cond.methodLink RX4 68 yX3_forget ∈ tbG := tbG_t 109 (by decide +kernel) rfl
theorem lkX4_71 : Cond.methodLink RX4 71 yX4_refuseItem ∈ tbG := tbG_t 117 (by decide +kernel) rfl
theorem lkX4_75 : Cond.methodLink RX4 75 yX3_store ∈ tbG := tbG_t 125 (by decide +kernel) rfl
theorem lkX4_85 : Cond.methodLink RX4 85 yX3_holds ∈ tbG := tbG_t 121 (by decide +kernel) rfl
theorem lkX4_95 : Cond.methodLink RX4 95 yX4_refuseForms ∈ tbG := tbG_t 146 (by decide +kernel) rfl
theorem lkX4_98 : Cond.methodLink RX4 98 yX3_number ∈ tbG := tbG_t 154 (by decide +kernel) rfl
theorem lkX4_101 : Cond.methodLink RX4 101 yX3_top ∈ tbG := tbG_t 168 (by decide +kernel) rfl
theorem lkX4_105 : Cond.methodLink RX4 105 yX4_load ∈ tbG := tbG_t 176 (by decide +kernel) rfl
theorem lkX4_109 : Cond.methodLink RX4 109 yX1_reduced ∈ tbG := tbG_t 180 (by decide +kernel) rfl
theorem lkX4_114 : Cond.methodLink RX4 114 yX2_valueAt ∈ tbG := tbG_t 181 (by decide +kernel) rfl
theorem lkX4_120 : Cond.methodLink RX4 120 yX4_canJoin ∈ tbG := tbG_t 188 (by decide +kernel) rfl
theorem lkX4_124 : Cond.methodLink RX4 124 yX4_makeJoined ∈ tbG := tbG_t 191 (by decide +kernel) rfl
theorem lkX4_128 : Cond.methodLink RX4 128 yX4_keepForm ∈ tbG := tbG_t 204 (by decide +kernel) rfl
theorem lkX4_131 : Cond.methodLink RX4 131 yX4_makeMixed ∈ tbG := tbG_t 218 (by decide +kernel) rfl
theorem lkX4_135 : Cond.methodLink RX4 135 yX2_changed ∈ tbG := tbG_t 229 (by decide +kernel) rfl
theorem lkX4_139 : Cond.methodLink RX4 139 yX4_makeOverlap ∈ tbG := tbG_t 242 (by decide +kernel) rfl
theorem lkX4_142 : Cond.methodLink RX4 142 yX2_ratio ∈ tbG := tbG_t 265 (by decide +kernel) rfl
theorem lkX4_146 : Cond.methodLink RX4 146 yX4_refuseRoots ∈ tbG := tbG_t 273 (by decide +kernel) rfl
theorem lkX4_149 : Cond.methodLink RX4 149 yX4_findRoots ∈ tbG := tbG_t 282 (by decide +kernel) rfl
theorem lkX4_152 : Cond.methodLink RX4 152 yX4_makeCommon ∈ tbG := tbG_t 297 (by decide +kernel) rfl
theorem lkX4_155 : Cond.methodLink RX4 155 yX0_clear ∈ tbG := tbG_t 318 (by decide +kernel) rfl
theorem lkX4_158 : Cond.methodLink RX4 158 yX0_layStairs ∈ tbG := tbG_t 323 (by decide +kernel) rfl
theorem lkX4_162 : Cond.methodLink RX4 162 yX0_determinant ∈ tbG := tbG_t 331 (by decide +kernel) rfl
theorem lkX4_165 : Cond.methodLink RX4 165 yX3_isForm ∈ tbG := tbG_t 150 (by decide +kernel) rfl
theorem lkX4_169 : Cond.methodLink RX4 169 yX3_startsUnlike ∈ tbG := tbG_t 364 (by decide +kernel) rfl
theorem lkX4_172 : Cond.methodLink RX4 172 yX4_makePowers ∈ tbG := tbG_t 368 (by decide +kernel) rfl
theorem lkX4_176 : Cond.methodLink RX4 176 yX3_become ∈ tbG := tbG_t 208 (by decide +kernel) rfl
theorem lkX4_180 : Cond.methodLink RX4 180 yX2_clear ∈ tbG := tbG_t 195 (by decide +kernel) rfl
theorem lkX4_183 : Cond.methodLink RX4 183 yX2_addPower ∈ tbG := tbG_t 387 (by decide +kernel) rfl
theorem lkX4_186 : Cond.methodLink RX4 186 yX2_divideByChoices ∈ tbG := tbG_t 372 (by decide +kernel) rfl
theorem lkX4_189 : Cond.methodLink RX4 189 yX0_laySquare ∈ tbG := tbG_t 394 (by decide +kernel) rfl
theorem lkX4_193 : Cond.methodLink RX4 193 yX0_reduce ∈ tbG := tbG_t 381 (by decide +kernel) rfl
theorem lkX4_196 : Cond.methodLink RX4 196 yX4_refuseLeads ∈ tbG := tbG_t 402 (by decide +kernel) rfl
theorem lkX4_199 : Cond.methodLink RX4 199 yX4_loadLeads ∈ tbG := tbG_t 406 (by decide +kernel) rfl
theorem lkX4_202 : Cond.methodLink RX4 202 yX4_tablesWithin ∈ tbG := tbG_t 410 (by decide +kernel) rfl
theorem lkX4_205 : Cond.methodLink RX4 205 yX4_isLead ∈ tbG := tbG_t 413 (by decide +kernel) rfl
theorem lkX4_208 : Cond.methodLink RX4 208 yX4_codeOf ∈ tbG := tbG_t 424 (by decide +kernel) rfl
theorem lkX4_211 : Cond.methodLink RX4 211 yX4_countWays ∈ tbG := tbG_t 431 (by decide +kernel) rfl
theorem lkX4_214 : Cond.methodLink RX4 214 yX4_countSheets ∈ tbG := tbG_t 439 (by decide +kernel) rfl
theorem lkX4_222 : Cond.methodLink RX4 222 yX3_addTo ∈ tbG := tbG_t 449 (by decide +kernel) rfl
theorem lkX4_226 : Cond.methodLink RX4 226 yX3_isLost ∈ tbG := tbG_t 105 (by decide +kernel) rfl
theorem lkX4_229 : Cond.methodLink RX4 229 yX3_isNought ∈ tbG := tbG_t 277 (by decide +kernel) rfl
theorem lkX4_232 : Cond.methodLink RX4 232 yX2_addTimes ∈ tbG := tbG_t 198 (by decide +kernel) rfl
theorem lkX4_236 : Cond.methodLink RX4 236 yX2_addProduct ∈ tbG := tbG_t 201 (by decide +kernel) rfl
theorem lkX4_240 : Cond.methodLink RX4 240 yX2_timesLine ∈ tbG := tbG_t 222 (by decide +kernel) rfl
theorem lkX4_243 : Cond.methodLink RX4 243 yX1_choose ∈ tbG := tbG_t 246 (by decide +kernel) rfl
theorem lkX4_246 : Cond.methodLink RX4 246 yX1_factorial ∈ tbG := tbG_t 249 (by decide +kernel) rfl
theorem lkX4_249 : Cond.methodLink RX4 249 yX1_inverse ∈ tbG := tbG_t 252 (by decide +kernel) rfl
theorem lkX4_252 : Cond.methodLink RX4 252 yX2_multiply ∈ tbG := tbG_t 258 (by decide +kernel) rfl
theorem lkX4_255 : Cond.methodLink RX4 255 yX2_valueAtPlace ∈ tbG := tbG_t 286 (by decide +kernel) rfl
theorem lkX4_259 : Cond.methodLink RX4 259 yX2_strip ∈ tbG := tbG_t 301 (by decide +kernel) rfl
theorem lkX4_263 : Cond.methodLink RX4 263 yJ9_min_7cf53 ∈ tbG := tbG_t 304 (by decide +kernel) rfl
theorem lkX4_268 : Cond.methodLink RX4 268 yX2_lower ∈ tbG := tbG_t 307 (by decide +kernel) rfl
theorem lkX4_272 : Cond.methodLink RX4 272 yJ9_max_7cf53 ∈ tbG := tbG_t 311 (by decide +kernel) rfl
theorem lkX4_275 : Cond.methodLink RX4 275 yX0_layPowers ∈ tbG := tbG_t 376 (by decide +kernel) rfl
theorem lkX4_279 : Cond.methodLink RX4 279 yX0_at ∈ tbG := tbG_t 382 (by decide +kernel) rfl
theorem lkX4_282 : Cond.methodLink RX4 282 yX4_entry ∈ tbG := tbG_t 417 (by decide +kernel) rfl
theorem lkX5_48 : Cond.methodLink RX5 48 yX5_mod ∈ tbG := tbG_t 567 (by decide +kernel) rfl
theorem lkX5_52 : Cond.methodLink RX5 52 yX5_times ∈ tbG := tbG_t 583 (by decide +kernel) rfl
theorem lkX5_62 : Cond.methodLink RX5 62 yX5_in ∈ tbG := tbG_t 521 (by decide +kernel) rfl
theorem lkX5_66 : Cond.methodLink RX5 66 yX5_isSheet ∈ tbG := tbG_t 517 (by decide +kernel) rfl
theorem lkX5_72 : Cond.methodLink RX5 72 yX5_met ∈ tbG := tbG_t 525 (by decide +kernel) rfl
theorem lkX5_76 : Cond.methodLink RX5 76 yX5_lacks ∈ tbG := tbG_t 537 (by decide +kernel) rfl
theorem lkX5_90 : Cond.methodLink RX5 90 yX5_isForm ∈ tbG := tbG_t 559 (by decide +kernel) rfl
theorem lkX5_93 : Cond.methodLink RX5 93 yX5_takeF ∈ tbG := tbG_t 563 (by decide +kernel) rfl
theorem lkX5_97 : Cond.methodLink RX5 97 yX5_takeG ∈ tbG := tbG_t 595 (by decide +kernel) rfl
theorem lkX5_102 : Cond.methodLink RX5 102 yX5_lacksOne ∈ tbG := tbG_t 555 (by decide +kernel) rfl
theorem lkX5_105 : Cond.methodLink RX5 105 yX5_valueF ∈ tbG := tbG_t 579 (by decide +kernel) rfl
theorem lkX5_110 : Cond.methodLink RX5 110 yX5_lacksTwo ∈ tbG := tbG_t 591 (by decide +kernel) rfl
theorem lkX5_113 : Cond.methodLink RX5 113 yX5_noughtH ∈ tbG := tbG_t 599 (by decide +kernel) rfl
theorem lkX5_116 : Cond.methodLink RX5 116 yX5_lay ∈ tbG := tbG_t 603 (by decide +kernel) rfl
theorem lkX5_119 : Cond.methodLink RX5 119 yX5_mixes ∈ tbG := tbG_t 611 (by decide +kernel) rfl
theorem lkX5_123 : Cond.methodLink RX5 123 yX5_over ∈ tbG := tbG_t 623 (by decide +kernel) rfl
theorem lkX5_126 : Cond.methodLink RX5 126 yX5_changed ∈ tbG := tbG_t 626 (by decide +kernel) rfl
theorem lkX5_130 : Cond.methodLink RX5 130 yX5_factorial ∈ tbG := tbG_t 629 (by decide +kernel) rfl
theorem lkX5_133 : Cond.methodLink RX5 133 yX5_turned ∈ tbG := tbG_t 632 (by decide +kernel) rfl
theorem lkX5_136 : Cond.methodLink RX5 136 yX5_isNoughtF ∈ tbG := tbG_t 639 (by decide +kernel) rfl
theorem lkX5_140 : Cond.methodLink RX5 140 yX5_isNoughtG ∈ tbG := tbG_t 643 (by decide +kernel) rfl
theorem lkX5_143 : Cond.methodLink RX5 143 yX5_lacksRoots ∈ tbG := tbG_t 651 (by decide +kernel) rfl
theorem lkX5_146 : Cond.methodLink RX5 146 yX5_isRoot ∈ tbG := tbG_t 655 (by decide +kernel) rfl
theorem lkX5_152 : Cond.methodLink RX5 152 yX5_eliminate ∈ tbG := tbG_t 671 (by decide +kernel) rfl
theorem lkX5_155 : Cond.methodLink RX5 155 yX5_raised ∈ tbG := tbG_t 679 (by decide +kernel) rfl
theorem lkX5_160 : Cond.methodLink RX5 160 yX5_leadsBy ∈ tbG := tbG_t 703 (by decide +kernel) rfl
theorem lkX5_164 : Cond.methodLink RX5 164 yX5_lacksLeads ∈ tbG := tbG_t 695 (by decide +kernel) rfl
theorem lkX5_167 : Cond.methodLink RX5 167 yX5_leadOf ∈ tbG := tbG_t 699 (by decide +kernel) rfl
theorem lkX5_170 : Cond.methodLink RX5 170 yX5_waysOf ∈ tbG := tbG_t 715 (by decide +kernel) rfl
theorem lkX5_177 : Cond.methodLink RX5 177 yX5_count ∈ tbG := tbG_t 729 (by decide +kernel) rfl
abbrev mX0_at : MD := (yX0_at, cX0_at, 3, some .int, 0, 0)
abbrev mX0_set : MD := (yX0_set, cX0_set, 4, none, 0, 0)
abbrev mX0_clear : MD := (yX0_clear, cX0_clear, 1, none, 1, 21)
abbrev mX0_layStairs : MD := (yX0_layStairs, cX0_layStairs, 7, none, 1, 23)
abbrev mX0_laySquare : MD := (yX0_laySquare, cX0_laySquare, 6, none, 1, 23)
abbrev mX0_layPowers : MD := (yX0_layPowers, cX0_layPowers, 8, none, 3, 63)
abbrev mX0_determinant : MD := (yX0_determinant, cX0_determinant, 2, some .int, 4, 96)
abbrev mX0_reduce : MD := (yX0_reduce, cX0_reduce, 7, some .int, 3, 70)
abbrev mX0_rowWith : MD := (yX0_rowWith, cX0_rowWith, 5, some .int, 1, 22)
abbrev mX0_bringUp : MD := (yX0_bringUp, cX0_bringUp, 6, none, 1, 23)
abbrev mX0_divideRow : MD := (yX0_divideRow, cX0_divideRow, 7, none, 2, 44)
abbrev mX0_clearPlace : MD := (yX0_clearPlace, cX0_clearPlace, 8, none, 1, 23)
abbrev mX1_reduced : MD := (yX1_reduced, cX1_reduced, 1, some .int, 1, 22)
abbrev mX1_power : MD := (yX1_power, cX1_power, 5, some .int, 0, 0)
abbrev mX1_inverse : MD := (yX1_inverse, cX1_inverse, 1, some .int, 1, 24)
abbrev mX1_factorial : MD := (yX1_factorial, cX1_factorial, 3, some .int, 0, 0)
abbrev mX1_choose : MD := (yX1_choose, cX1_choose, 4, some .int, 0, 0)
abbrev mX2_clear : MD := (yX2_clear, cX2_clear, 2, none, 0, 0)
abbrev mX2_multiply : MD := (yX2_multiply, cX2_multiply, 3, none, 0, 0)
abbrev mX2_addTimes : MD := (yX2_addTimes, cX2_addTimes, 4, none, 0, 0)
abbrev mX2_addProduct : MD := (yX2_addProduct, cX2_addProduct, 9, none, 0, 0)
abbrev mX2_timesLine : MD := (yX2_timesLine, cX2_timesLine, 5, none, 0, 0)
abbrev mX2_addPower : MD := (yX2_addPower, cX2_addPower, 6, none, 1, 23)
abbrev mX2_divideByChoices : MD := (yX2_divideByChoices, cX2_divideByChoices, 3, none, 2, 44)
abbrev mX2_changed : MD := (yX2_changed, cX2_changed, 7, none, 1, 22)
abbrev mX2_changeByX : MD := (yX2_changeByX, cX2_changeByX, 3, none, 0, 0)
abbrev mX2_changeByY : MD := (yX2_changeByY, cX2_changeByY, 3, none, 0, 0)
abbrev mX2_valueAt : MD := (yX2_valueAt, cX2_valueAt, 7, some .int, 0, 0)
abbrev mX2_ratio : MD := (yX2_ratio, cX2_ratio, 5, some .int, 2, 44)
abbrev mX2_valueAtPlace : MD := (yX2_valueAtPlace, cX2_valueAtPlace, 5, some .int, 0, 0)
abbrev mX2_strip : MD := (yX2_strip, cX2_strip, 4, some .int, 0, 0)
abbrev mX2_lower : MD := (yX2_lower, cX2_lower, 6, some .int, 2, 44)
abbrev mX3_isLost : MD := (yX3_isLost, cX3_isLost, 1, some .boolean, 0, 0)
abbrev mX3_isForm : MD := (yX3_isForm, cX3_isForm, 1, some .boolean, 0, 0)
abbrev mX3_isNought : MD := (yX3_isNought, cX3_isNought, 2, some .boolean, 3, 63)
abbrev mX3_top : MD := (yX3_top, cX3_top, 1, some .int, 0, 0)
abbrev mX3_number : MD := (yX3_number, cX3_number, 2, some .int, 2, 42)
abbrev mX3_holds : MD := (yX3_holds, cX3_holds, 3, some .boolean, 0, 0)
abbrev mX3_startsUnlike : MD := (yX3_startsUnlike, cX3_startsUnlike, 4, some .boolean, 3, 63)
abbrev mX3_forget : MD := (yX3_forget, cX3_forget, 1, none, 0, 0)
abbrev mX3_renew : MD := (yX3_renew, cX3_renew, 4, none, 0, 0)
abbrev mX3_store : MD := (yX3_store, cX3_store, 3, none, 1, 22)
abbrev mX3_become : MD := (yX3_become, cX3_become, 4, none, 2, 44)
abbrev mX3_addTo : MD := (yX3_addTo, cX3_addTo, 6, some .long, 3, 63)
abbrev mX4_sheet : MD := (yX4_sheet, cX4_sheet, 4, some .int, 1, 23)
abbrev mX4_lose : MD := (yX4_lose, cX4_lose, 4, some .int, 2, 43)
abbrev mX4_put : MD := (yX4_put, cX4_put, 6, some .int, 3, 67)
abbrev mX4_get : MD := (yX4_get, cX4_get, 4, some .int, 3, 67)
abbrev mX4_copy : MD := (yX4_copy, cX4_copy, 9, some .int, 2, 60)
abbrev mX4_term : MD := (yX4_term, cX4_term, 4, some .int, 3, 66)
abbrev mX4_degree : MD := (yX4_degree, cX4_degree, 3, some .int, 3, 66)
abbrev mX4_value : MD := (yX4_value, cX4_value, 6, some .int, 4, 86)
abbrev mX4_join : MD := (yX4_join, cX4_join, 8, some .int, 4, 89)
abbrev mX4_mix : MD := (yX4_mix, cX4_mix, 13, some .int, 4, 89)
abbrev mX4_change : MD := (yX4_change, cX4_change, 7, some .int, 4, 89)
abbrev mX4_overlap : MD := (yX4_overlap, cX4_overlap, 8, some .int, 4, 89)
abbrev mX4_alike : MD := (yX4_alike, cX4_alike, 6, some .int, 4, 86)
abbrev mX4_roots : MD := (yX4_roots, cX4_roots, 3, some .int, 5, 110)
abbrev mX4_root : MD := (yX4_root, cX4_root, 4, some .int, 5, 110)
abbrev mX4_common : MD := (yX4_common, cX4_common, 7, some .int, 5, 107)
abbrev mX4_result : MD := (yX4_result, cX4_result, 6, some .int, 5, 117)
abbrev mX4_powers : MD := (yX4_powers, cX4_powers, 7, some .int, 5, 120)
abbrev mX4_build : MD := (yX4_build, cX4_build, 8, some .int, 4, 89)
abbrev mX4_rank : MD := (yX4_rank, cX4_rank, 5, some .int, 4, 96)
abbrev mX4_leads : MD := (yX4_leads, cX4_leads, 9, some .int, 5, 110)
abbrev mX4_lead : MD := (yX4_lead, cX4_lead, 10, some .int, 5, 110)
abbrev mX4_staying : MD := (yX4_staying, cX4_staying, 7, some .int, 1, 26)
abbrev mX4_count : MD := (yX4_count, cX4_count, 2, some .int, 2, 43)
abbrev mX4_digest : MD := (yX4_digest, cX4_digest, 4, some .long, 4, 88)
abbrev mX4_noSheet : MD := (yX4_noSheet, cX4_noSheet, 1, some .boolean, 0, 0)
abbrev mX4_noKind : MD := (yX4_noKind, cX4_noKind, 1, some .boolean, 0, 0)
abbrev mX4_found : MD := (yX4_found, cX4_found, 2, some .int, 0, 0)
abbrev mX4_refuseSheets : MD := (yX4_refuseSheets, cX4_refuseSheets, 3, some .int, 1, 21)
abbrev mX4_refuseItem : MD := (yX4_refuseItem, cX4_refuseItem, 5, some .int, 2, 43)
abbrev mX4_refuseForms : MD := (yX4_refuseForms, cX4_refuseForms, 4, some .int, 2, 43)
abbrev mX4_refuseRoots : MD := (yX4_refuseRoots, cX4_refuseRoots, 4, some .int, 4, 84)
abbrev mX4_refuseLeads : MD := (yX4_refuseLeads, cX4_refuseLeads, 5, some .int, 3, 66)
abbrev mX4_load : MD := (yX4_load, cX4_load, 4, some .int, 3, 63)
abbrev mX4_keepForm : MD := (yX4_keepForm, cX4_keepForm, 3, some .int, 3, 67)
abbrev mX4_countSheets : MD := (yX4_countSheets, cX4_countSheets, 4, some .int, 1, 20)
abbrev mX4_canJoin : MD := (yX4_canJoin, cX4_canJoin, 3, some .boolean, 0, 0)
abbrev mX4_makeJoined : MD := (yX4_makeJoined, cX4_makeJoined, 4, none, 1, 28)
abbrev mX4_makeMixed : MD := (yX4_makeMixed, cX4_makeMixed, 7, none, 1, 24)
abbrev mX4_makeOverlap : MD := (yX4_makeOverlap, cX4_makeOverlap, 7, none, 2, 48)
abbrev mX4_findRoots : MD := (yX4_findRoots, cX4_findRoots, 5, some .int, 4, 86)
abbrev mX4_makeCommon : MD := (yX4_makeCommon, cX4_makeCommon, 9, some .int, 3, 69)
abbrev mX4_makePowers : MD := (yX4_makePowers, cX4_makePowers, 5, some .boolean, 4, 96)
abbrev mX4_tablesWithin : MD := (yX4_tablesWithin, cX4_tablesWithin, 2, some .int, 0, 0)
abbrev mX4_entry : MD := (yX4_entry, cX4_entry, 6, some .int, 0, 0)
abbrev mX4_codeOf : MD := (yX4_codeOf, cX4_codeOf, 4, some .int, 1, 25)
abbrev mX4_loadLeads : MD := (yX4_loadLeads, cX4_loadLeads, 5, some .int, 4, 86)
abbrev mX4_isLead : MD := (yX4_isLead, cX4_isLead, 11, some .boolean, 2, 42)
abbrev mX4_countWays : MD := (yX4_countWays, cX4_countWays, 7, none, 0, 0)
abbrev mX5_in : MD := (yX5_in, cX5_in, 6, some .boolean, 0, 0)
abbrev mX5_mod : MD := (yX5_mod, cX5_mod, 4, some .int, 0, 0)
abbrev mX5_times : MD := (yX5_times, cX5_times, 2, some .int, 1, 23)
abbrev mX5_turned : MD := (yX5_turned, cX5_turned, 4, some .int, 2, 44)
abbrev mX5_over : MD := (yX5_over, cX5_over, 4, some .int, 0, 0)
abbrev mX5_factorial : MD := (yX5_factorial, cX5_factorial, 3, some .int, 2, 44)
abbrev mX5_met : MD := (yX5_met, cX5_met, 2, some .int, 0, 0)
abbrev mX5_isSheet : MD := (yX5_isSheet, cX5_isSheet, 1, some .boolean, 1, 25)
abbrev mX5_sheet : MD := (yX5_sheet, cX5_sheet, 5, some .int, 2, 45)
abbrev mX5_lose : MD := (yX5_lose, cX5_lose, 2, some .int, 2, 45)
abbrev mX5_lacks : MD := (yX5_lacks, cX5_lacks, 4, some .int, 1, 25)
abbrev mX5_put : MD := (yX5_put, cX5_put, 6, some .int, 2, 48)
abbrev mX5_get : MD := (yX5_get, cX5_get, 4, some .int, 2, 48)
abbrev mX5_copy : MD := (yX5_copy, cX5_copy, 7, some .int, 2, 45)
abbrev mX5_isForm : MD := (yX5_isForm, cX5_isForm, 2, some .boolean, 1, 25)
abbrev mX5_takeF : MD := (yX5_takeF, cX5_takeF, 3, none, 1, 23)
abbrev mX5_takeG : MD := (yX5_takeG, cX5_takeG, 3, none, 1, 23)
abbrev mX5_lay : MD := (yX5_lay, cX5_lay, 3, some .int, 0, 0)
abbrev mX5_noughtH : MD := (yX5_noughtH, cX5_noughtH, 3, none, 0, 0)
abbrev mX5_lacksOne : MD := (yX5_lacksOne, cX5_lacksOne, 2, some .int, 2, 46)
abbrev mX5_lacksTwo : MD := (yX5_lacksTwo, cX5_lacksTwo, 3, some .int, 2, 46)
abbrev mX5_isNoughtF : MD := (yX5_isNoughtF, cX5_isNoughtF, 3, some .boolean, 0, 0)
abbrev mX5_isNoughtG : MD := (yX5_isNoughtG, cX5_isNoughtG, 3, some .boolean, 0, 0)
abbrev mX5_term : MD := (yX5_term, cX5_term, 4, some .int, 3, 67)
abbrev mX5_degree : MD := (yX5_degree, cX5_degree, 3, some .int, 3, 67)
abbrev mX5_valueF : MD := (yX5_valueF, cX5_valueF, 8, some .int, 2, 44)
abbrev mX5_value : MD := (yX5_value, cX5_value, 5, some .int, 3, 71)
abbrev mX5_join : MD := (yX5_join, cX5_join, 8, some .int, 3, 68)
abbrev mX5_mixes : MD := (yX5_mixes, cX5_mixes, 10, none, 1, 23)
abbrev mX5_mix : MD := (yX5_mix, cX5_mix, 9, some .int, 3, 67)
abbrev mX5_change : MD := (yX5_change, cX5_change, 6, some .int, 3, 67)
abbrev mX5_changed : MD := (yX5_changed, cX5_changed, 6, some .int, 2, 44)
abbrev mX5_overlap : MD := (yX5_overlap, cX5_overlap, 12, some .int, 3, 69)
abbrev mX5_alike : MD := (yX5_alike, cX5_alike, 7, some .int, 3, 68)
abbrev mX5_isRoot : MD := (yX5_isRoot, cX5_isRoot, 4, some .boolean, 1, 23)
abbrev mX5_lacksRoots : MD := (yX5_lacksRoots, cX5_lacksRoots, 3, some .int, 3, 67)
abbrev mX5_roots : MD := (yX5_roots, cX5_roots, 5, some .int, 4, 89)
abbrev mX5_root : MD := (yX5_root, cX5_root, 6, some .int, 4, 89)
abbrev mX5_common : MD := (yX5_common, cX5_common, 12, some .int, 3, 68)
abbrev mX5_eliminate : MD := (yX5_eliminate, cX5_eliminate, 10, some .int, 3, 67)
abbrev mX5_result : MD := (yX5_result, cX5_result, 8, some .int, 4, 96)
abbrev mX5_raised : MD := (yX5_raised, cX5_raised, 4, some .int, 2, 44)
abbrev mX5_powers : MD := (yX5_powers, cX5_powers, 10, some .int, 4, 96)
abbrev mX5_build : MD := (yX5_build, cX5_build, 9, some .int, 3, 67)
abbrev mX5_rank : MD := (yX5_rank, cX5_rank, 6, some .int, 4, 96)
abbrev mX5_leadsBy : MD := (yX5_leadsBy, cX5_leadsBy, 7, some .boolean, 2, 52)
abbrev mX5_lacksLeads : MD := (yX5_lacksLeads, cX5_lacksLeads, 4, some .int, 3, 68)
abbrev mX5_leadOf : MD := (yX5_leadOf, cX5_leadOf, 10, some .int, 3, 78)
abbrev mX5_leads : MD := (yX5_leads, cX5_leads, 5, some .int, 4, 107)
abbrev mX5_lead : MD := (yX5_lead, cX5_lead, 7, some .int, 4, 107)
abbrev mX5_waysOf : MD := (yX5_waysOf, cX5_waysOf, 7, some .int, 0, 0)
abbrev mX5_staying : MD := (yX5_staying, cX5_staying, 5, some .int, 1, 26)
abbrev mX5_count : MD := (yX5_count, cX5_count, 4, some .int, 2, 46)
abbrev mX5_digest : MD := (yX5_digest, cX5_digest, 5, some .long, 3, 69)
abbrev mJ9_floorMod_7cf53 : MD := (yJ9_floorMod_7cf53, cJ9_floorMod_7cf53, 3, some .int, 0, 0)
abbrev mJ9_max_7cf53 : MD := (yJ9_max_7cf53, cJ9_max_7cf53, 2, some .int, 0, 0)
abbrev mJ9_min_7cf53 : MD := (yJ9_min_7cf53, cJ9_min_7cf53, 2, some .int, 0, 0)
theorem kX0_at : MF mX0_at 2 := ⟨tbG_t 346 (by decide +kernel) rfl, tbG_t 2 (by decide +kernel) rfl, by decide +kernel, by decide +kernel, by decide +kernel⟩
theorem vX0_at : Cond.instanceMethod yX0_at ∈ tbG := tbG_t 344 (by decide +kernel) rfl
theorem zX0_at : Cond.selects yX0_at.cls yX0_at yX0_at ∈ tbG := tbG_t 345 (by decide +kernel) rfl
theorem nX0_at : plainName yX0_at.cls = true := by decide +kernel
theorem kX0_set : MF mX0_set 3 := ⟨tbG_t 330 (by decide +kernel) rfl, tbG_t 2 (by decide +kernel) rfl, by decide +kernel, by decide +kernel, by decide +kernel⟩
theorem vX0_set : Cond.instanceMethod yX0_set ∈ tbG := tbG_t 329 (by decide +kernel) rfl
theorem zX0_set : Cond.selects yX0_set.cls yX0_set yX0_set ∈ tbG := tbG_s 12 (by decide +kernel) rfl
theorem nX0_set : plainName yX0_set.cls = true := by decide +kernel
theorem kX0_clear : MF mX0_clear 0 := ⟨tbG_t 321 (by decide +kernel) rfl, tbG_t 2 (by decide +kernel) rfl, by decide +kernel, by decide +kernel, by decide +kernel⟩
theorem vX0_clear : Cond.instanceMethod yX0_clear ∈ tbG := tbG_t 319 (by decide +kernel) rfl
theorem zX0_clear : Cond.selects yX0_clear.cls yX0_clear yX0_clear ∈ tbG := tbG_t 320 (by decide +kernel) rfl
theorem nX0_clear : plainName yX0_clear.cls = true := by decide +kernel
theorem kX0_layStairs : MF mX0_layStairs 4 := ⟨tbG_t 326 (by decide +kernel) rfl, tbG_t 2 (by decide +kernel) rfl, by decide +kernel, by decide +kernel, by decide +kernel⟩
theorem vX0_layStairs : Cond.instanceMethod yX0_layStairs ∈ tbG := tbG_t 324 (by decide +kernel) rfl
theorem zX0_layStairs : Cond.selects yX0_layStairs.cls yX0_layStairs yX0_layStairs ∈ tbG := tbG_t 325 (by decide +kernel) rfl
theorem nX0_layStairs : plainName yX0_layStairs.cls = true := by decide +kernel
theorem kX0_laySquare : MF mX0_laySquare 3 := ⟨tbG_t 397 (by decide +kernel) rfl, tbG_t 2 (by decide +kernel) rfl, by decide +kernel, by decide +kernel, by decide +kernel⟩
theorem vX0_laySquare : Cond.instanceMethod yX0_laySquare ∈ tbG := tbG_t 395 (by decide +kernel) rfl
theorem zX0_laySquare : Cond.selects yX0_laySquare.cls yX0_laySquare yX0_laySquare ∈ tbG := tbG_t 396 (by decide +kernel) rfl
theorem nX0_laySquare : plainName yX0_laySquare.cls = true := by decide +kernel
theorem kX0_layPowers : MF mX0_layPowers 4 := ⟨tbG_t 379 (by decide +kernel) rfl, tbG_t 2 (by decide +kernel) rfl, by decide +kernel, by decide +kernel, by decide +kernel⟩
theorem vX0_layPowers : Cond.instanceMethod yX0_layPowers ∈ tbG := tbG_t 377 (by decide +kernel) rfl
theorem zX0_layPowers : Cond.selects yX0_layPowers.cls yX0_layPowers yX0_layPowers ∈ tbG := tbG_t 378 (by decide +kernel) rfl
theorem nX0_layPowers : plainName yX0_layPowers.cls = true := by decide +kernel
theorem kX0_determinant : MF mX0_determinant 1 := ⟨tbG_t 334 (by decide +kernel) rfl, tbG_t 2 (by decide +kernel) rfl, by decide +kernel, by decide +kernel, by decide +kernel⟩
theorem vX0_determinant : Cond.instanceMethod yX0_determinant ∈ tbG := tbG_t 332 (by decide +kernel) rfl
theorem zX0_determinant : Cond.selects yX0_determinant.cls yX0_determinant yX0_determinant ∈ tbG := tbG_t 333 (by decide +kernel) rfl
theorem nX0_determinant : plainName yX0_determinant.cls = true := by decide +kernel
theorem kX0_reduce : MF mX0_reduce 3 := ⟨tbG_t 338 (by decide +kernel) rfl, tbG_t 2 (by decide +kernel) rfl, by decide +kernel, by decide +kernel, by decide +kernel⟩
theorem vX0_reduce : Cond.instanceMethod yX0_reduce ∈ tbG := tbG_t 336 (by decide +kernel) rfl
theorem zX0_reduce : Cond.selects yX0_reduce.cls yX0_reduce yX0_reduce ∈ tbG := tbG_t 337 (by decide +kernel) rfl
theorem nX0_reduce : plainName yX0_reduce.cls = true := by decide +kernel
theorem kX0_rowWith : MF mX0_rowWith 3 := ⟨tbG_t 342 (by decide +kernel) rfl, tbG_t 2 (by decide +kernel) rfl, by decide +kernel, by decide +kernel, by decide +kernel⟩
theorem vX0_rowWith : Cond.instanceMethod yX0_rowWith ∈ tbG := tbG_t 341 (by decide +kernel) rfl
theorem zX0_rowWith : Cond.selects yX0_rowWith.cls yX0_rowWith yX0_rowWith ∈ tbG := tbG_s 13 (by decide +kernel) rfl
theorem nX0_rowWith : plainName yX0_rowWith.cls = true := by decide +kernel
theorem kX0_bringUp : MF mX0_bringUp 3 := ⟨tbG_t 350 (by decide +kernel) rfl, tbG_t 2 (by decide +kernel) rfl, by decide +kernel, by decide +kernel, by decide +kernel⟩
theorem vX0_bringUp : Cond.instanceMethod yX0_bringUp ∈ tbG := tbG_t 349 (by decide +kernel) rfl
theorem zX0_bringUp : Cond.selects yX0_bringUp.cls yX0_bringUp yX0_bringUp ∈ tbG := tbG_s 14 (by decide +kernel) rfl
theorem nX0_bringUp : plainName yX0_bringUp.cls = true := by decide +kernel
theorem kX0_divideRow : MF mX0_divideRow 3 := ⟨tbG_t 354 (by decide +kernel) rfl, tbG_t 2 (by decide +kernel) rfl, by decide +kernel, by decide +kernel, by decide +kernel⟩
theorem vX0_divideRow : Cond.instanceMethod yX0_divideRow ∈ tbG := tbG_t 353 (by decide +kernel) rfl
theorem zX0_divideRow : Cond.selects yX0_divideRow.cls yX0_divideRow yX0_divideRow ∈ tbG := tbG_s 15 (by decide +kernel) rfl
theorem nX0_divideRow : plainName yX0_divideRow.cls = true := by decide +kernel
theorem kX0_clearPlace : MF mX0_clearPlace 4 := ⟨tbG_t 359 (by decide +kernel) rfl, tbG_t 2 (by decide +kernel) rfl, by decide +kernel, by decide +kernel, by decide +kernel⟩
theorem vX0_clearPlace : Cond.instanceMethod yX0_clearPlace ∈ tbG := tbG_t 358 (by decide +kernel) rfl
theorem zX0_clearPlace : Cond.selects yX0_clearPlace.cls yX0_clearPlace yX0_clearPlace ∈ tbG := tbG_s 16 (by decide +kernel) rfl
theorem nX0_clearPlace : plainName yX0_clearPlace.cls = true := by decide +kernel
theorem kX1_reduced : MF mX1_reduced 1 := ⟨tbG_t 160 (by decide +kernel) rfl, tbG_t 6 (by decide +kernel) rfl, by decide +kernel, by decide +kernel, by decide +kernel⟩
theorem uX1_reduced : Cond.static yX1_reduced ∈ tbG := tbG_t 159 (by decide +kernel) rfl
theorem nX1_reduced : plainName yX1_reduced.cls = true := by decide +kernel
theorem kX1_power : MF mX1_power 2 := ⟨tbG_t 257 (by decide +kernel) rfl, tbG_t 6 (by decide +kernel) rfl, by decide +kernel, by decide +kernel, by decide +kernel⟩
theorem uX1_power : Cond.static yX1_power ∈ tbG := tbG_t 256 (by decide +kernel) rfl
theorem nX1_power : plainName yX1_power.cls = true := by decide +kernel
theorem kX1_inverse : MF mX1_inverse 1 := ⟨tbG_t 254 (by decide +kernel) rfl, tbG_t 6 (by decide +kernel) rfl, by decide +kernel, by decide +kernel, by decide +kernel⟩
theorem uX1_inverse : Cond.static yX1_inverse ∈ tbG := tbG_t 253 (by decide +kernel) rfl
theorem nX1_inverse : plainName yX1_inverse.cls = true := by decide +kernel
theorem kX1_factorial : MF mX1_factorial 1 := ⟨tbG_t 251 (by decide +kernel) rfl, tbG_t 6 (by decide +kernel) rfl, by decide +kernel, by decide +kernel, by decide +kernel⟩
theorem uX1_factorial : Cond.static yX1_factorial ∈ tbG := tbG_t 250 (by decide +kernel) rfl
theorem nX1_factorial : plainName yX1_factorial.cls = true := by decide +kernel
theorem kX1_choose : MF mX1_choose 2 := ⟨tbG_t 248 (by decide +kernel) rfl, tbG_t 6 (by decide +kernel) rfl, by decide +kernel, by decide +kernel, by decide +kernel⟩
theorem uX1_choose : Cond.static yX1_choose ∈ tbG := tbG_t 247 (by decide +kernel) rfl
theorem nX1_choose : plainName yX1_choose.cls = true := by decide +kernel
theorem kX2_clear : MF mX2_clear 1 := ⟨tbG_t 197 (by decide +kernel) rfl, tbG_t 8 (by decide +kernel) rfl, by decide +kernel, by decide +kernel, by decide +kernel⟩
theorem uX2_clear : Cond.static yX2_clear ∈ tbG := tbG_t 196 (by decide +kernel) rfl
theorem nX2_clear : plainName yX2_clear.cls = true := by decide +kernel
theorem kX2_multiply : MF mX2_multiply 2 := ⟨tbG_t 260 (by decide +kernel) rfl, tbG_t 8 (by decide +kernel) rfl, by decide +kernel, by decide +kernel, by decide +kernel⟩
theorem uX2_multiply : Cond.static yX2_multiply ∈ tbG := tbG_t 259 (by decide +kernel) rfl
theorem nX2_multiply : plainName yX2_multiply.cls = true := by decide +kernel
theorem kX2_addTimes : MF mX2_addTimes 3 := ⟨tbG_t 200 (by decide +kernel) rfl, tbG_t 8 (by decide +kernel) rfl, by decide +kernel, by decide +kernel, by decide +kernel⟩
theorem uX2_addTimes : Cond.static yX2_addTimes ∈ tbG := tbG_t 199 (by decide +kernel) rfl
theorem nX2_addTimes : plainName yX2_addTimes.cls = true := by decide +kernel
theorem kX2_addProduct : MF mX2_addProduct 6 := ⟨tbG_t 203 (by decide +kernel) rfl, tbG_t 8 (by decide +kernel) rfl, by decide +kernel, by decide +kernel, by decide +kernel⟩
theorem uX2_addProduct : Cond.static yX2_addProduct ∈ tbG := tbG_t 202 (by decide +kernel) rfl
theorem nX2_addProduct : plainName yX2_addProduct.cls = true := by decide +kernel
theorem kX2_timesLine : MF mX2_timesLine 4 := ⟨tbG_t 224 (by decide +kernel) rfl, tbG_t 8 (by decide +kernel) rfl, by decide +kernel, by decide +kernel, by decide +kernel⟩
theorem uX2_timesLine : Cond.static yX2_timesLine ∈ tbG := tbG_t 223 (by decide +kernel) rfl
theorem nX2_timesLine : plainName yX2_timesLine.cls = true := by decide +kernel
theorem kX2_addPower : MF mX2_addPower 4 := ⟨tbG_t 389 (by decide +kernel) rfl, tbG_t 8 (by decide +kernel) rfl, by decide +kernel, by decide +kernel, by decide +kernel⟩
theorem uX2_addPower : Cond.static yX2_addPower ∈ tbG := tbG_t 388 (by decide +kernel) rfl
theorem nX2_addPower : plainName yX2_addPower.cls = true := by decide +kernel
theorem kX2_divideByChoices : MF mX2_divideByChoices 2 := ⟨tbG_t 374 (by decide +kernel) rfl, tbG_t 8 (by decide +kernel) rfl, by decide +kernel, by decide +kernel, by decide +kernel⟩
theorem uX2_divideByChoices : Cond.static yX2_divideByChoices ∈ tbG := tbG_t 373 (by decide +kernel) rfl
theorem nX2_divideByChoices : plainName yX2_divideByChoices.cls = true := by decide +kernel
theorem kX2_changed : MF mX2_changed 5 := ⟨tbG_t 231 (by decide +kernel) rfl, tbG_t 8 (by decide +kernel) rfl, by decide +kernel, by decide +kernel, by decide +kernel⟩
theorem uX2_changed : Cond.static yX2_changed ∈ tbG := tbG_t 230 (by decide +kernel) rfl
theorem nX2_changed : plainName yX2_changed.cls = true := by decide +kernel
theorem kX2_changeByX : MF mX2_changeByX 2 := ⟨tbG_t 234 (by decide +kernel) rfl, tbG_t 8 (by decide +kernel) rfl, by decide +kernel, by decide +kernel, by decide +kernel⟩
theorem uX2_changeByX : Cond.static yX2_changeByX ∈ tbG := tbG_t 233 (by decide +kernel) rfl
theorem nX2_changeByX : plainName yX2_changeByX.cls = true := by decide +kernel
theorem kX2_changeByY : MF mX2_changeByY 2 := ⟨tbG_t 237 (by decide +kernel) rfl, tbG_t 8 (by decide +kernel) rfl, by decide +kernel, by decide +kernel, by decide +kernel⟩
theorem uX2_changeByY : Cond.static yX2_changeByY ∈ tbG := tbG_t 236 (by decide +kernel) rfl
theorem nX2_changeByY : plainName yX2_changeByY.cls = true := by decide +kernel
theorem kX2_valueAt : MF mX2_valueAt 4 := ⟨tbG_t 183 (by decide +kernel) rfl, tbG_t 8 (by decide +kernel) rfl, by decide +kernel, by decide +kernel, by decide +kernel⟩
theorem uX2_valueAt : Cond.static yX2_valueAt ∈ tbG := tbG_t 182 (by decide +kernel) rfl
theorem nX2_valueAt : plainName yX2_valueAt.cls = true := by decide +kernel
theorem kX2_ratio : MF mX2_ratio 3 := ⟨tbG_t 267 (by decide +kernel) rfl, tbG_t 8 (by decide +kernel) rfl, by decide +kernel, by decide +kernel, by decide +kernel⟩
theorem uX2_ratio : Cond.static yX2_ratio ∈ tbG := tbG_t 266 (by decide +kernel) rfl
theorem nX2_ratio : plainName yX2_ratio.cls = true := by decide +kernel
theorem kX2_valueAtPlace : MF mX2_valueAtPlace 3 := ⟨tbG_t 288 (by decide +kernel) rfl, tbG_t 8 (by decide +kernel) rfl, by decide +kernel, by decide +kernel, by decide +kernel⟩
theorem uX2_valueAtPlace : Cond.static yX2_valueAtPlace ∈ tbG := tbG_t 287 (by decide +kernel) rfl
theorem nX2_valueAtPlace : plainName yX2_valueAtPlace.cls = true := by decide +kernel
theorem kX2_strip : MF mX2_strip 2 := ⟨tbG_t 303 (by decide +kernel) rfl, tbG_t 8 (by decide +kernel) rfl, by decide +kernel, by decide +kernel, by decide +kernel⟩
theorem uX2_strip : Cond.static yX2_strip ∈ tbG := tbG_t 302 (by decide +kernel) rfl
theorem nX2_strip : plainName yX2_strip.cls = true := by decide +kernel
theorem kX2_lower : MF mX2_lower 4 := ⟨tbG_t 309 (by decide +kernel) rfl, tbG_t 8 (by decide +kernel) rfl, by decide +kernel, by decide +kernel, by decide +kernel⟩
theorem uX2_lower : Cond.static yX2_lower ∈ tbG := tbG_t 308 (by decide +kernel) rfl
theorem nX2_lower : plainName yX2_lower.cls = true := by decide +kernel
theorem kX3_isLost : MF mX3_isLost 0 := ⟨tbG_t 108 (by decide +kernel) rfl, tbG_t 3 (by decide +kernel) rfl, by decide +kernel, by decide +kernel, by decide +kernel⟩
theorem vX3_isLost : Cond.instanceMethod yX3_isLost ∈ tbG := tbG_t 106 (by decide +kernel) rfl
theorem zX3_isLost : Cond.selects yX3_isLost.cls yX3_isLost yX3_isLost ∈ tbG := tbG_t 107 (by decide +kernel) rfl
theorem nX3_isLost : plainName yX3_isLost.cls = true := by decide +kernel
theorem kX3_isForm : MF mX3_isForm 0 := ⟨tbG_t 153 (by decide +kernel) rfl, tbG_t 3 (by decide +kernel) rfl, by decide +kernel, by decide +kernel, by decide +kernel⟩
theorem vX3_isForm : Cond.instanceMethod yX3_isForm ∈ tbG := tbG_t 151 (by decide +kernel) rfl
theorem zX3_isForm : Cond.selects yX3_isForm.cls yX3_isForm yX3_isForm ∈ tbG := tbG_t 152 (by decide +kernel) rfl
theorem nX3_isForm : plainName yX3_isForm.cls = true := by decide +kernel
theorem kX3_isNought : MF mX3_isNought 0 := ⟨tbG_t 280 (by decide +kernel) rfl, tbG_t 3 (by decide +kernel) rfl, by decide +kernel, by decide +kernel, by decide +kernel⟩
theorem vX3_isNought : Cond.instanceMethod yX3_isNought ∈ tbG := tbG_t 278 (by decide +kernel) rfl
theorem zX3_isNought : Cond.selects yX3_isNought.cls yX3_isNought yX3_isNought ∈ tbG := tbG_t 279 (by decide +kernel) rfl
theorem nX3_isNought : plainName yX3_isNought.cls = true := by decide +kernel
theorem kX3_top : MF mX3_top 0 := ⟨tbG_t 171 (by decide +kernel) rfl, tbG_t 3 (by decide +kernel) rfl, by decide +kernel, by decide +kernel, by decide +kernel⟩
theorem vX3_top : Cond.instanceMethod yX3_top ∈ tbG := tbG_t 169 (by decide +kernel) rfl
theorem zX3_top : Cond.selects yX3_top.cls yX3_top yX3_top ∈ tbG := tbG_t 170 (by decide +kernel) rfl
theorem nX3_top : plainName yX3_top.cls = true := by decide +kernel
theorem kX3_number : MF mX3_number 1 := ⟨tbG_t 157 (by decide +kernel) rfl, tbG_t 3 (by decide +kernel) rfl, by decide +kernel, by decide +kernel, by decide +kernel⟩
theorem vX3_number : Cond.instanceMethod yX3_number ∈ tbG := tbG_t 155 (by decide +kernel) rfl
theorem zX3_number : Cond.selects yX3_number.cls yX3_number yX3_number ∈ tbG := tbG_t 156 (by decide +kernel) rfl
theorem nX3_number : plainName yX3_number.cls = true := by decide +kernel
theorem kX3_holds : MF mX3_holds 2 := ⟨tbG_t 124 (by decide +kernel) rfl, tbG_t 3 (by decide +kernel) rfl, by decide +kernel, by decide +kernel, by decide +kernel⟩
theorem vX3_holds : Cond.instanceMethod yX3_holds ∈ tbG := tbG_t 122 (by decide +kernel) rfl
theorem zX3_holds : Cond.selects yX3_holds.cls yX3_holds yX3_holds ∈ tbG := tbG_t 123 (by decide +kernel) rfl
theorem nX3_holds : plainName yX3_holds.cls = true := by decide +kernel
theorem kX3_startsUnlike : MF mX3_startsUnlike 1 := ⟨tbG_t 367 (by decide +kernel) rfl, tbG_t 3 (by decide +kernel) rfl, by decide +kernel, by decide +kernel, by decide +kernel⟩
theorem vX3_startsUnlike : Cond.instanceMethod yX3_startsUnlike ∈ tbG := tbG_t 365 (by decide +kernel) rfl
theorem zX3_startsUnlike : Cond.selects yX3_startsUnlike.cls yX3_startsUnlike yX3_startsUnlike ∈ tbG := tbG_t 366 (by decide +kernel) rfl
theorem nX3_startsUnlike : plainName yX3_startsUnlike.cls = true := by decide +kernel
theorem kX3_forget : MF mX3_forget 0 := ⟨tbG_t 112 (by decide +kernel) rfl, tbG_t 3 (by decide +kernel) rfl, by decide +kernel, by decide +kernel, by decide +kernel⟩
theorem vX3_forget : Cond.instanceMethod yX3_forget ∈ tbG := tbG_t 110 (by decide +kernel) rfl
theorem zX3_forget : Cond.selects yX3_forget.cls yX3_forget yX3_forget ∈ tbG := tbG_t 111 (by decide +kernel) rfl
theorem nX3_forget : plainName yX3_forget.cls = true := by decide +kernel
theorem kX3_renew : MF mX3_renew 2 := ⟨tbG_t 96 (by decide +kernel) rfl, tbG_t 3 (by decide +kernel) rfl, by decide +kernel, by decide +kernel, by decide +kernel⟩
theorem vX3_renew : Cond.instanceMethod yX3_renew ∈ tbG := tbG_t 94 (by decide +kernel) rfl
theorem zX3_renew : Cond.selects yX3_renew.cls yX3_renew yX3_renew ∈ tbG := tbG_t 95 (by decide +kernel) rfl
theorem nX3_renew : plainName yX3_renew.cls = true := by decide +kernel
theorem kX3_store : MF mX3_store 2 := ⟨tbG_t 128 (by decide +kernel) rfl, tbG_t 3 (by decide +kernel) rfl, by decide +kernel, by decide +kernel, by decide +kernel⟩
theorem vX3_store : Cond.instanceMethod yX3_store ∈ tbG := tbG_t 126 (by decide +kernel) rfl
theorem zX3_store : Cond.selects yX3_store.cls yX3_store yX3_store ∈ tbG := tbG_t 127 (by decide +kernel) rfl
theorem nX3_store : plainName yX3_store.cls = true := by decide +kernel
theorem kX3_become : MF mX3_become 2 := ⟨tbG_t 211 (by decide +kernel) rfl, tbG_t 3 (by decide +kernel) rfl, by decide +kernel, by decide +kernel, by decide +kernel⟩
theorem vX3_become : Cond.instanceMethod yX3_become ∈ tbG := tbG_t 209 (by decide +kernel) rfl
theorem zX3_become : Cond.selects yX3_become.cls yX3_become yX3_become ∈ tbG := tbG_t 210 (by decide +kernel) rfl
theorem nX3_become : plainName yX3_become.cls = true := by decide +kernel
theorem kX3_addTo : MF mX3_addTo 1 := ⟨tbG_t 452 (by decide +kernel) rfl, tbG_t 3 (by decide +kernel) rfl, by decide +kernel, by decide +kernel, by decide +kernel⟩
theorem vX3_addTo : Cond.instanceMethod yX3_addTo ∈ tbG := tbG_t 450 (by decide +kernel) rfl
theorem zX3_addTo : Cond.selects yX3_addTo.cls yX3_addTo yX3_addTo ∈ tbG := tbG_t 451 (by decide +kernel) rfl
theorem nX3_addTo : plainName yX3_addTo.cls = true := by decide +kernel
theorem kX4_sheet : MF mX4_sheet 3 := ⟨tbG_t 82 (by decide +kernel) rfl, tbG_t 1 (by decide +kernel) rfl, by decide +kernel, by decide +kernel, by decide +kernel⟩
theorem vX4_sheet : Cond.instanceMethod yX4_sheet ∈ tbG := tbG_t 80 (by decide +kernel) rfl
theorem zX4_sheet : Cond.selects yX4_sheet.cls yX4_sheet yX4_sheet ∈ tbG := tbG_t 81 (by decide +kernel) rfl
theorem nX4_sheet : plainName yX4_sheet.cls = true := by decide +kernel
theorem kX4_lose : MF mX4_lose 1 := ⟨tbG_t 100 (by decide +kernel) rfl, tbG_t 1 (by decide +kernel) rfl, by decide +kernel, by decide +kernel, by decide +kernel⟩
theorem vX4_lose : Cond.instanceMethod yX4_lose ∈ tbG := tbG_t 98 (by decide +kernel) rfl
theorem zX4_lose : Cond.selects yX4_lose.cls yX4_lose yX4_lose ∈ tbG := tbG_t 99 (by decide +kernel) rfl
theorem nX4_lose : plainName yX4_lose.cls = true := by decide +kernel
theorem kX4_put : MF mX4_put 4 := ⟨tbG_t 116 (by decide +kernel) rfl, tbG_t 1 (by decide +kernel) rfl, by decide +kernel, by decide +kernel, by decide +kernel⟩
theorem vX4_put : Cond.instanceMethod yX4_put ∈ tbG := tbG_t 114 (by decide +kernel) rfl
theorem zX4_put : Cond.selects yX4_put.cls yX4_put yX4_put ∈ tbG := tbG_t 115 (by decide +kernel) rfl
theorem nX4_put : plainName yX4_put.cls = true := by decide +kernel
theorem kX4_get : MF mX4_get 3 := ⟨tbG_t 133 (by decide +kernel) rfl, tbG_t 1 (by decide +kernel) rfl, by decide +kernel, by decide +kernel, by decide +kernel⟩
theorem vX4_get : Cond.instanceMethod yX4_get ∈ tbG := tbG_t 131 (by decide +kernel) rfl
theorem zX4_get : Cond.selects yX4_get.cls yX4_get yX4_get ∈ tbG := tbG_t 132 (by decide +kernel) rfl
theorem nX4_get : plainName yX4_get.cls = true := by decide +kernel
theorem kX4_copy : MF mX4_copy 5 := ⟨tbG_t 138 (by decide +kernel) rfl, tbG_t 1 (by decide +kernel) rfl, by decide +kernel, by decide +kernel, by decide +kernel⟩
theorem vX4_copy : Cond.instanceMethod yX4_copy ∈ tbG := tbG_t 136 (by decide +kernel) rfl
theorem zX4_copy : Cond.selects yX4_copy.cls yX4_copy yX4_copy ∈ tbG := tbG_t 137 (by decide +kernel) rfl
theorem nX4_copy : plainName yX4_copy.cls = true := by decide +kernel
theorem kX4_term : MF mX4_term 2 := ⟨tbG_t 145 (by decide +kernel) rfl, tbG_t 1 (by decide +kernel) rfl, by decide +kernel, by decide +kernel, by decide +kernel⟩
theorem vX4_term : Cond.instanceMethod yX4_term ∈ tbG := tbG_t 143 (by decide +kernel) rfl
theorem zX4_term : Cond.selects yX4_term.cls yX4_term yX4_term ∈ tbG := tbG_t 144 (by decide +kernel) rfl
theorem nX4_term : plainName yX4_term.cls = true := by decide +kernel
theorem kX4_degree : MF mX4_degree 1 := ⟨tbG_t 167 (by decide +kernel) rfl, tbG_t 1 (by decide +kernel) rfl, by decide +kernel, by decide +kernel, by decide +kernel⟩
theorem vX4_degree : Cond.instanceMethod yX4_degree ∈ tbG := tbG_t 165 (by decide +kernel) rfl
theorem zX4_degree : Cond.selects yX4_degree.cls yX4_degree yX4_degree ∈ tbG := tbG_t 166 (by decide +kernel) rfl
theorem nX4_degree : plainName yX4_degree.cls = true := by decide +kernel
theorem kX4_value : MF mX4_value 3 := ⟨tbG_t 175 (by decide +kernel) rfl, tbG_t 1 (by decide +kernel) rfl, by decide +kernel, by decide +kernel, by decide +kernel⟩
theorem vX4_value : Cond.instanceMethod yX4_value ∈ tbG := tbG_t 173 (by decide +kernel) rfl
theorem zX4_value : Cond.selects yX4_value.cls yX4_value yX4_value ∈ tbG := tbG_t 174 (by decide +kernel) rfl
theorem nX4_value : plainName yX4_value.cls = true := by decide +kernel
theorem kX4_join : MF mX4_join 4 := ⟨tbG_t 187 (by decide +kernel) rfl, tbG_t 1 (by decide +kernel) rfl, by decide +kernel, by decide +kernel, by decide +kernel⟩
theorem vX4_join : Cond.instanceMethod yX4_join ∈ tbG := tbG_t 185 (by decide +kernel) rfl
theorem zX4_join : Cond.selects yX4_join.cls yX4_join yX4_join ∈ tbG := tbG_t 186 (by decide +kernel) rfl
theorem nX4_join : plainName yX4_join.cls = true := by decide +kernel
theorem kX4_mix : MF mX4_mix 6 := ⟨tbG_t 217 (by decide +kernel) rfl, tbG_t 1 (by decide +kernel) rfl, by decide +kernel, by decide +kernel, by decide +kernel⟩
theorem vX4_mix : Cond.instanceMethod yX4_mix ∈ tbG := tbG_t 215 (by decide +kernel) rfl
theorem zX4_mix : Cond.selects yX4_mix.cls yX4_mix yX4_mix ∈ tbG := tbG_t 216 (by decide +kernel) rfl
theorem nX4_mix : plainName yX4_mix.cls = true := by decide +kernel
theorem kX4_change : MF mX4_change 3 := ⟨tbG_t 228 (by decide +kernel) rfl, tbG_t 1 (by decide +kernel) rfl, by decide +kernel, by decide +kernel, by decide +kernel⟩
theorem vX4_change : Cond.instanceMethod yX4_change ∈ tbG := tbG_t 226 (by decide +kernel) rfl
theorem zX4_change : Cond.selects yX4_change.cls yX4_change yX4_change ∈ tbG := tbG_t 227 (by decide +kernel) rfl
theorem nX4_change : plainName yX4_change.cls = true := by decide +kernel
theorem kX4_overlap : MF mX4_overlap 4 := ⟨tbG_t 241 (by decide +kernel) rfl, tbG_t 1 (by decide +kernel) rfl, by decide +kernel, by decide +kernel, by decide +kernel⟩
theorem vX4_overlap : Cond.instanceMethod yX4_overlap ∈ tbG := tbG_t 239 (by decide +kernel) rfl
theorem zX4_overlap : Cond.selects yX4_overlap.cls yX4_overlap yX4_overlap ∈ tbG := tbG_t 240 (by decide +kernel) rfl
theorem nX4_overlap : plainName yX4_overlap.cls = true := by decide +kernel
theorem kX4_alike : MF mX4_alike 2 := ⟨tbG_t 264 (by decide +kernel) rfl, tbG_t 1 (by decide +kernel) rfl, by decide +kernel, by decide +kernel, by decide +kernel⟩
theorem vX4_alike : Cond.instanceMethod yX4_alike ∈ tbG := tbG_t 262 (by decide +kernel) rfl
theorem zX4_alike : Cond.selects yX4_alike.cls yX4_alike yX4_alike ∈ tbG := tbG_t 263 (by decide +kernel) rfl
theorem nX4_alike : plainName yX4_alike.cls = true := by decide +kernel
theorem kX4_roots : MF mX4_roots 1 := ⟨tbG_t 272 (by decide +kernel) rfl, tbG_t 1 (by decide +kernel) rfl, by decide +kernel, by decide +kernel, by decide +kernel⟩
theorem vX4_roots : Cond.instanceMethod yX4_roots ∈ tbG := tbG_t 270 (by decide +kernel) rfl
theorem zX4_roots : Cond.selects yX4_roots.cls yX4_roots yX4_roots ∈ tbG := tbG_t 271 (by decide +kernel) rfl
theorem nX4_roots : plainName yX4_roots.cls = true := by decide +kernel
theorem kX4_root : MF mX4_root 2 := ⟨tbG_t 292 (by decide +kernel) rfl, tbG_t 1 (by decide +kernel) rfl, by decide +kernel, by decide +kernel, by decide +kernel⟩
theorem vX4_root : Cond.instanceMethod yX4_root ∈ tbG := tbG_t 290 (by decide +kernel) rfl
theorem zX4_root : Cond.selects yX4_root.cls yX4_root yX4_root ∈ tbG := tbG_t 291 (by decide +kernel) rfl
theorem nX4_root : plainName yX4_root.cls = true := by decide +kernel
theorem kX4_common : MF mX4_common 3 := ⟨tbG_t 296 (by decide +kernel) rfl, tbG_t 1 (by decide +kernel) rfl, by decide +kernel, by decide +kernel, by decide +kernel⟩
theorem vX4_common : Cond.instanceMethod yX4_common ∈ tbG := tbG_t 294 (by decide +kernel) rfl
theorem zX4_common : Cond.selects yX4_common.cls yX4_common yX4_common ∈ tbG := tbG_t 295 (by decide +kernel) rfl
theorem nX4_common : plainName yX4_common.cls = true := by decide +kernel
theorem kX4_result : MF mX4_result 2 := ⟨tbG_t 317 (by decide +kernel) rfl, tbG_t 1 (by decide +kernel) rfl, by decide +kernel, by decide +kernel, by decide +kernel⟩
theorem vX4_result : Cond.instanceMethod yX4_result ∈ tbG := tbG_t 315 (by decide +kernel) rfl
theorem zX4_result : Cond.selects yX4_result.cls yX4_result yX4_result ∈ tbG := tbG_t 316 (by decide +kernel) rfl
theorem nX4_result : plainName yX4_result.cls = true := by decide +kernel
theorem kX4_powers : MF mX4_powers 4 := ⟨tbG_t 363 (by decide +kernel) rfl, tbG_t 1 (by decide +kernel) rfl, by decide +kernel, by decide +kernel, by decide +kernel⟩
theorem vX4_powers : Cond.instanceMethod yX4_powers ∈ tbG := tbG_t 361 (by decide +kernel) rfl
theorem zX4_powers : Cond.selects yX4_powers.cls yX4_powers yX4_powers ∈ tbG := tbG_t 362 (by decide +kernel) rfl
theorem nX4_powers : plainName yX4_powers.cls = true := by decide +kernel
theorem kX4_build : MF mX4_build 5 := ⟨tbG_t 386 (by decide +kernel) rfl, tbG_t 1 (by decide +kernel) rfl, by decide +kernel, by decide +kernel, by decide +kernel⟩
theorem vX4_build : Cond.instanceMethod yX4_build ∈ tbG := tbG_t 384 (by decide +kernel) rfl
theorem zX4_build : Cond.selects yX4_build.cls yX4_build yX4_build ∈ tbG := tbG_t 385 (by decide +kernel) rfl
theorem nX4_build : plainName yX4_build.cls = true := by decide +kernel
theorem kX4_rank : MF mX4_rank 2 := ⟨tbG_t 393 (by decide +kernel) rfl, tbG_t 1 (by decide +kernel) rfl, by decide +kernel, by decide +kernel, by decide +kernel⟩
theorem vX4_rank : Cond.instanceMethod yX4_rank ∈ tbG := tbG_t 391 (by decide +kernel) rfl
theorem zX4_rank : Cond.selects yX4_rank.cls yX4_rank yX4_rank ∈ tbG := tbG_t 392 (by decide +kernel) rfl
theorem nX4_rank : plainName yX4_rank.cls = true := by decide +kernel
theorem kX4_leads : MF mX4_leads 3 := ⟨tbG_t 401 (by decide +kernel) rfl, tbG_t 1 (by decide +kernel) rfl, by decide +kernel, by decide +kernel, by decide +kernel⟩
theorem vX4_leads : Cond.instanceMethod yX4_leads ∈ tbG := tbG_t 399 (by decide +kernel) rfl
theorem zX4_leads : Cond.selects yX4_leads.cls yX4_leads yX4_leads ∈ tbG := tbG_t 400 (by decide +kernel) rfl
theorem nX4_leads : plainName yX4_leads.cls = true := by decide +kernel
theorem kX4_lead : MF mX4_lead 4 := ⟨tbG_t 423 (by decide +kernel) rfl, tbG_t 1 (by decide +kernel) rfl, by decide +kernel, by decide +kernel, by decide +kernel⟩
theorem vX4_lead : Cond.instanceMethod yX4_lead ∈ tbG := tbG_t 421 (by decide +kernel) rfl
theorem zX4_lead : Cond.selects yX4_lead.cls yX4_lead yX4_lead ∈ tbG := tbG_t 422 (by decide +kernel) rfl
theorem nX4_lead : plainName yX4_lead.cls = true := by decide +kernel
theorem kX4_staying : MF mX4_staying 3 := ⟨tbG_t 430 (by decide +kernel) rfl, tbG_t 1 (by decide +kernel) rfl, by decide +kernel, by decide +kernel, by decide +kernel⟩
theorem vX4_staying : Cond.instanceMethod yX4_staying ∈ tbG := tbG_t 428 (by decide +kernel) rfl
theorem zX4_staying : Cond.selects yX4_staying.cls yX4_staying yX4_staying ∈ tbG := tbG_t 429 (by decide +kernel) rfl
theorem nX4_staying : plainName yX4_staying.cls = true := by decide +kernel
theorem kX4_count : MF mX4_count 1 := ⟨tbG_t 438 (by decide +kernel) rfl, tbG_t 1 (by decide +kernel) rfl, by decide +kernel, by decide +kernel, by decide +kernel⟩
theorem vX4_count : Cond.instanceMethod yX4_count ∈ tbG := tbG_t 436 (by decide +kernel) rfl
theorem zX4_count : Cond.selects yX4_count.cls yX4_count yX4_count ∈ tbG := tbG_t 437 (by decide +kernel) rfl
theorem nX4_count : plainName yX4_count.cls = true := by decide +kernel
theorem kX4_digest : MF mX4_digest 0 := ⟨tbG_t 446 (by decide +kernel) rfl, tbG_t 1 (by decide +kernel) rfl, by decide +kernel, by decide +kernel, by decide +kernel⟩
theorem vX4_digest : Cond.instanceMethod yX4_digest ∈ tbG := tbG_t 444 (by decide +kernel) rfl
theorem zX4_digest : Cond.selects yX4_digest.cls yX4_digest yX4_digest ∈ tbG := tbG_t 445 (by decide +kernel) rfl
theorem nX4_digest : plainName yX4_digest.cls = true := by decide +kernel
theorem kX4_noSheet : MF mX4_noSheet 1 := ⟨tbG_t 85 (by decide +kernel) rfl, tbG_t 1 (by decide +kernel) rfl, by decide +kernel, by decide +kernel, by decide +kernel⟩
theorem uX4_noSheet : Cond.static yX4_noSheet ∈ tbG := tbG_t 84 (by decide +kernel) rfl
theorem nX4_noSheet : plainName yX4_noSheet.cls = true := by decide +kernel
theorem kX4_noKind : MF mX4_noKind 1 := ⟨tbG_t 88 (by decide +kernel) rfl, tbG_t 1 (by decide +kernel) rfl, by decide +kernel, by decide +kernel, by decide +kernel⟩
theorem uX4_noKind : Cond.static yX4_noKind ∈ tbG := tbG_t 87 (by decide +kernel) rfl
theorem nX4_noKind : plainName yX4_noKind.cls = true := by decide +kernel
theorem kX4_found : MF mX4_found 1 := ⟨tbG_t 92 (by decide +kernel) rfl, tbG_t 1 (by decide +kernel) rfl, by decide +kernel, by decide +kernel, by decide +kernel⟩
theorem vX4_found : Cond.instanceMethod yX4_found ∈ tbG := tbG_t 91 (by decide +kernel) rfl
theorem zX4_found : Cond.selects yX4_found.cls yX4_found yX4_found ∈ tbG := tbG_s 0 (by decide +kernel) rfl
theorem nX4_found : plainName yX4_found.cls = true := by decide +kernel
theorem kX4_refuseSheets : MF mX4_refuseSheets 2 := ⟨tbG_t 104 (by decide +kernel) rfl, tbG_t 1 (by decide +kernel) rfl, by decide +kernel, by decide +kernel, by decide +kernel⟩
theorem vX4_refuseSheets : Cond.instanceMethod yX4_refuseSheets ∈ tbG := tbG_t 103 (by decide +kernel) rfl
theorem zX4_refuseSheets : Cond.selects yX4_refuseSheets.cls yX4_refuseSheets yX4_refuseSheets ∈ tbG := tbG_s 1 (by decide +kernel) rfl
theorem nX4_refuseSheets : plainName yX4_refuseSheets.cls = true := by decide +kernel
theorem kX4_refuseItem : MF mX4_refuseItem 3 := ⟨tbG_t 120 (by decide +kernel) rfl, tbG_t 1 (by decide +kernel) rfl, by decide +kernel, by decide +kernel, by decide +kernel⟩
theorem vX4_refuseItem : Cond.instanceMethod yX4_refuseItem ∈ tbG := tbG_t 119 (by decide +kernel) rfl
theorem zX4_refuseItem : Cond.selects yX4_refuseItem.cls yX4_refuseItem yX4_refuseItem ∈ tbG := tbG_s 2 (by decide +kernel) rfl
theorem nX4_refuseItem : plainName yX4_refuseItem.cls = true := by decide +kernel
theorem kX4_refuseForms : MF mX4_refuseForms 2 := ⟨tbG_t 149 (by decide +kernel) rfl, tbG_t 1 (by decide +kernel) rfl, by decide +kernel, by decide +kernel, by decide +kernel⟩
theorem vX4_refuseForms : Cond.instanceMethod yX4_refuseForms ∈ tbG := tbG_t 148 (by decide +kernel) rfl
theorem zX4_refuseForms : Cond.selects yX4_refuseForms.cls yX4_refuseForms yX4_refuseForms ∈ tbG := tbG_s 3 (by decide +kernel) rfl
theorem nX4_refuseForms : plainName yX4_refuseForms.cls = true := by decide +kernel
theorem kX4_refuseRoots : MF mX4_refuseRoots 2 := ⟨tbG_t 276 (by decide +kernel) rfl, tbG_t 1 (by decide +kernel) rfl, by decide +kernel, by decide +kernel, by decide +kernel⟩
theorem vX4_refuseRoots : Cond.instanceMethod yX4_refuseRoots ∈ tbG := tbG_t 275 (by decide +kernel) rfl
theorem zX4_refuseRoots : Cond.selects yX4_refuseRoots.cls yX4_refuseRoots yX4_refuseRoots ∈ tbG := tbG_s 9 (by decide +kernel) rfl
theorem nX4_refuseRoots : plainName yX4_refuseRoots.cls = true := by decide +kernel
theorem kX4_refuseLeads : MF mX4_refuseLeads 3 := ⟨tbG_t 405 (by decide +kernel) rfl, tbG_t 1 (by decide +kernel) rfl, by decide +kernel, by decide +kernel, by decide +kernel⟩
theorem vX4_refuseLeads : Cond.instanceMethod yX4_refuseLeads ∈ tbG := tbG_t 404 (by decide +kernel) rfl
theorem zX4_refuseLeads : Cond.selects yX4_refuseLeads.cls yX4_refuseLeads yX4_refuseLeads ∈ tbG := tbG_s 18 (by decide +kernel) rfl
theorem nX4_refuseLeads : plainName yX4_refuseLeads.cls = true := by decide +kernel
theorem kX4_load : MF mX4_load 2 := ⟨tbG_t 179 (by decide +kernel) rfl, tbG_t 1 (by decide +kernel) rfl, by decide +kernel, by decide +kernel, by decide +kernel⟩
theorem vX4_load : Cond.instanceMethod yX4_load ∈ tbG := tbG_t 178 (by decide +kernel) rfl
theorem zX4_load : Cond.selects yX4_load.cls yX4_load yX4_load ∈ tbG := tbG_s 4 (by decide +kernel) rfl
theorem nX4_load : plainName yX4_load.cls = true := by decide +kernel
theorem kX4_keepForm : MF mX4_keepForm 2 := ⟨tbG_t 207 (by decide +kernel) rfl, tbG_t 1 (by decide +kernel) rfl, by decide +kernel, by decide +kernel, by decide +kernel⟩
theorem vX4_keepForm : Cond.instanceMethod yX4_keepForm ∈ tbG := tbG_t 206 (by decide +kernel) rfl
theorem zX4_keepForm : Cond.selects yX4_keepForm.cls yX4_keepForm yX4_keepForm ∈ tbG := tbG_s 6 (by decide +kernel) rfl
theorem nX4_keepForm : plainName yX4_keepForm.cls = true := by decide +kernel
theorem kX4_countSheets : MF mX4_countSheets 1 := ⟨tbG_t 442 (by decide +kernel) rfl, tbG_t 1 (by decide +kernel) rfl, by decide +kernel, by decide +kernel, by decide +kernel⟩
theorem vX4_countSheets : Cond.instanceMethod yX4_countSheets ∈ tbG := tbG_t 441 (by decide +kernel) rfl
theorem zX4_countSheets : Cond.selects yX4_countSheets.cls yX4_countSheets yX4_countSheets ∈ tbG := tbG_s 22 (by decide +kernel) rfl
theorem nX4_countSheets : plainName yX4_countSheets.cls = true := by decide +kernel
theorem kX4_canJoin : MF mX4_canJoin 3 := ⟨tbG_t 190 (by decide +kernel) rfl, tbG_t 1 (by decide +kernel) rfl, by decide +kernel, by decide +kernel, by decide +kernel⟩
theorem uX4_canJoin : Cond.static yX4_canJoin ∈ tbG := tbG_t 189 (by decide +kernel) rfl
theorem nX4_canJoin : plainName yX4_canJoin.cls = true := by decide +kernel
theorem kX4_makeJoined : MF mX4_makeJoined 3 := ⟨tbG_t 194 (by decide +kernel) rfl, tbG_t 1 (by decide +kernel) rfl, by decide +kernel, by decide +kernel, by decide +kernel⟩
theorem vX4_makeJoined : Cond.instanceMethod yX4_makeJoined ∈ tbG := tbG_t 193 (by decide +kernel) rfl
theorem zX4_makeJoined : Cond.selects yX4_makeJoined.cls yX4_makeJoined yX4_makeJoined ∈ tbG := tbG_s 5 (by decide +kernel) rfl
theorem nX4_makeJoined : plainName yX4_makeJoined.cls = true := by decide +kernel
theorem kX4_makeMixed : MF mX4_makeMixed 5 := ⟨tbG_t 221 (by decide +kernel) rfl, tbG_t 1 (by decide +kernel) rfl, by decide +kernel, by decide +kernel, by decide +kernel⟩
theorem vX4_makeMixed : Cond.instanceMethod yX4_makeMixed ∈ tbG := tbG_t 220 (by decide +kernel) rfl
theorem zX4_makeMixed : Cond.selects yX4_makeMixed.cls yX4_makeMixed yX4_makeMixed ∈ tbG := tbG_s 7 (by decide +kernel) rfl
theorem nX4_makeMixed : plainName yX4_makeMixed.cls = true := by decide +kernel
theorem kX4_makeOverlap : MF mX4_makeOverlap 3 := ⟨tbG_t 245 (by decide +kernel) rfl, tbG_t 1 (by decide +kernel) rfl, by decide +kernel, by decide +kernel, by decide +kernel⟩
theorem vX4_makeOverlap : Cond.instanceMethod yX4_makeOverlap ∈ tbG := tbG_t 244 (by decide +kernel) rfl
theorem zX4_makeOverlap : Cond.selects yX4_makeOverlap.cls yX4_makeOverlap yX4_makeOverlap ∈ tbG := tbG_s 8 (by decide +kernel) rfl
theorem nX4_makeOverlap : plainName yX4_makeOverlap.cls = true := by decide +kernel
theorem kX4_findRoots : MF mX4_findRoots 1 := ⟨tbG_t 285 (by decide +kernel) rfl, tbG_t 1 (by decide +kernel) rfl, by decide +kernel, by decide +kernel, by decide +kernel⟩
theorem vX4_findRoots : Cond.instanceMethod yX4_findRoots ∈ tbG := tbG_t 284 (by decide +kernel) rfl
theorem zX4_findRoots : Cond.selects yX4_findRoots.cls yX4_findRoots yX4_findRoots ∈ tbG := tbG_s 10 (by decide +kernel) rfl
theorem nX4_findRoots : plainName yX4_findRoots.cls = true := by decide +kernel
theorem kX4_makeCommon : MF mX4_makeCommon 2 := ⟨tbG_t 300 (by decide +kernel) rfl, tbG_t 1 (by decide +kernel) rfl, by decide +kernel, by decide +kernel, by decide +kernel⟩
theorem vX4_makeCommon : Cond.instanceMethod yX4_makeCommon ∈ tbG := tbG_t 299 (by decide +kernel) rfl
theorem zX4_makeCommon : Cond.selects yX4_makeCommon.cls yX4_makeCommon yX4_makeCommon ∈ tbG := tbG_s 11 (by decide +kernel) rfl
theorem nX4_makeCommon : plainName yX4_makeCommon.cls = true := by decide +kernel
theorem kX4_makePowers : MF mX4_makePowers 3 := ⟨tbG_t 371 (by decide +kernel) rfl, tbG_t 1 (by decide +kernel) rfl, by decide +kernel, by decide +kernel, by decide +kernel⟩
theorem vX4_makePowers : Cond.instanceMethod yX4_makePowers ∈ tbG := tbG_t 370 (by decide +kernel) rfl
theorem zX4_makePowers : Cond.selects yX4_makePowers.cls yX4_makePowers yX4_makePowers ∈ tbG := tbG_s 17 (by decide +kernel) rfl
theorem nX4_makePowers : plainName yX4_makePowers.cls = true := by decide +kernel
theorem kX4_tablesWithin : MF mX4_tablesWithin 1 := ⟨tbG_t 412 (by decide +kernel) rfl, tbG_t 1 (by decide +kernel) rfl, by decide +kernel, by decide +kernel, by decide +kernel⟩
theorem uX4_tablesWithin : Cond.static yX4_tablesWithin ∈ tbG := tbG_t 411 (by decide +kernel) rfl
theorem nX4_tablesWithin : plainName yX4_tablesWithin.cls = true := by decide +kernel
theorem kX4_entry : MF mX4_entry 3 := ⟨tbG_t 419 (by decide +kernel) rfl, tbG_t 1 (by decide +kernel) rfl, by decide +kernel, by decide +kernel, by decide +kernel⟩
theorem uX4_entry : Cond.static yX4_entry ∈ tbG := tbG_t 418 (by decide +kernel) rfl
theorem nX4_entry : plainName yX4_entry.cls = true := by decide +kernel
theorem kX4_codeOf : MF mX4_codeOf 2 := ⟨tbG_t 426 (by decide +kernel) rfl, tbG_t 1 (by decide +kernel) rfl, by decide +kernel, by decide +kernel, by decide +kernel⟩
theorem uX4_codeOf : Cond.static yX4_codeOf ∈ tbG := tbG_t 425 (by decide +kernel) rfl
theorem nX4_codeOf : plainName yX4_codeOf.cls = true := by decide +kernel
theorem kX4_loadLeads : MF mX4_loadLeads 2 := ⟨tbG_t 409 (by decide +kernel) rfl, tbG_t 1 (by decide +kernel) rfl, by decide +kernel, by decide +kernel, by decide +kernel⟩
theorem vX4_loadLeads : Cond.instanceMethod yX4_loadLeads ∈ tbG := tbG_t 408 (by decide +kernel) rfl
theorem zX4_loadLeads : Cond.selects yX4_loadLeads.cls yX4_loadLeads yX4_loadLeads ∈ tbG := tbG_s 19 (by decide +kernel) rfl
theorem nX4_loadLeads : plainName yX4_loadLeads.cls = true := by decide +kernel
theorem kX4_isLead : MF mX4_isLead 3 := ⟨tbG_t 416 (by decide +kernel) rfl, tbG_t 1 (by decide +kernel) rfl, by decide +kernel, by decide +kernel, by decide +kernel⟩
theorem vX4_isLead : Cond.instanceMethod yX4_isLead ∈ tbG := tbG_t 415 (by decide +kernel) rfl
theorem zX4_isLead : Cond.selects yX4_isLead.cls yX4_isLead yX4_isLead ∈ tbG := tbG_s 20 (by decide +kernel) rfl
theorem nX4_isLead : plainName yX4_isLead.cls = true := by decide +kernel
theorem kX4_countWays : MF mX4_countWays 3 := ⟨tbG_t 434 (by decide +kernel) rfl, tbG_t 1 (by decide +kernel) rfl, by decide +kernel, by decide +kernel, by decide +kernel⟩
theorem vX4_countWays : Cond.instanceMethod yX4_countWays ∈ tbG := tbG_t 433 (by decide +kernel) rfl
theorem zX4_countWays : Cond.selects yX4_countWays.cls yX4_countWays yX4_countWays ∈ tbG := tbG_s 21 (by decide +kernel) rfl
theorem nX4_countWays : plainName yX4_countWays.cls = true := by decide +kernel
theorem kX5_in : MF mX5_in 3 := ⟨tbG_t 523 (by decide +kernel) rfl, tbG_t 4 (by decide +kernel) rfl, by decide +kernel, by decide +kernel, by decide +kernel⟩
theorem uX5_in : Cond.static yX5_in ∈ tbG := tbG_t 522 (by decide +kernel) rfl
theorem nX5_in : plainName yX5_in.cls = true := by decide +kernel
theorem kX5_mod : MF mX5_mod 1 := ⟨tbG_t 569 (by decide +kernel) rfl, tbG_t 4 (by decide +kernel) rfl, by decide +kernel, by decide +kernel, by decide +kernel⟩
theorem uX5_mod : Cond.static yX5_mod ∈ tbG := tbG_t 568 (by decide +kernel) rfl
theorem nX5_mod : plainName yX5_mod.cls = true := by decide +kernel
theorem kX5_times : MF mX5_times 2 := ⟨tbG_t 585 (by decide +kernel) rfl, tbG_t 4 (by decide +kernel) rfl, by decide +kernel, by decide +kernel, by decide +kernel⟩
theorem uX5_times : Cond.static yX5_times ∈ tbG := tbG_t 584 (by decide +kernel) rfl
theorem nX5_times : plainName yX5_times.cls = true := by decide +kernel
theorem kX5_turned : MF mX5_turned 1 := ⟨tbG_t 634 (by decide +kernel) rfl, tbG_t 4 (by decide +kernel) rfl, by decide +kernel, by decide +kernel, by decide +kernel⟩
theorem uX5_turned : Cond.static yX5_turned ∈ tbG := tbG_t 633 (by decide +kernel) rfl
theorem nX5_turned : plainName yX5_turned.cls = true := by decide +kernel
theorem kX5_over : MF mX5_over 2 := ⟨tbG_t 625 (by decide +kernel) rfl, tbG_t 4 (by decide +kernel) rfl, by decide +kernel, by decide +kernel, by decide +kernel⟩
theorem uX5_over : Cond.static yX5_over ∈ tbG := tbG_t 624 (by decide +kernel) rfl
theorem nX5_over : plainName yX5_over.cls = true := by decide +kernel
theorem kX5_factorial : MF mX5_factorial 1 := ⟨tbG_t 631 (by decide +kernel) rfl, tbG_t 4 (by decide +kernel) rfl, by decide +kernel, by decide +kernel, by decide +kernel⟩
theorem uX5_factorial : Cond.static yX5_factorial ∈ tbG := tbG_t 630 (by decide +kernel) rfl
theorem nX5_factorial : plainName yX5_factorial.cls = true := by decide +kernel
theorem kX5_met : MF mX5_met 1 := ⟨tbG_t 528 (by decide +kernel) rfl, tbG_t 4 (by decide +kernel) rfl, by decide +kernel, by decide +kernel, by decide +kernel⟩
theorem vX5_met : Cond.instanceMethod yX5_met ∈ tbG := tbG_t 527 (by decide +kernel) rfl
theorem zX5_met : Cond.selects yX5_met.cls yX5_met yX5_met ∈ tbG := tbG_s 23 (by decide +kernel) rfl
theorem nX5_met : plainName yX5_met.cls = true := by decide +kernel
theorem kX5_isSheet : MF mX5_isSheet 1 := ⟨tbG_t 519 (by decide +kernel) rfl, tbG_t 4 (by decide +kernel) rfl, by decide +kernel, by decide +kernel, by decide +kernel⟩
theorem uX5_isSheet : Cond.static yX5_isSheet ∈ tbG := tbG_t 518 (by decide +kernel) rfl
theorem nX5_isSheet : plainName yX5_isSheet.cls = true := by decide +kernel
theorem kX5_sheet : MF mX5_sheet 3 := ⟨tbG_t 516 (by decide +kernel) rfl, tbG_t 4 (by decide +kernel) rfl, by decide +kernel, by decide +kernel, by decide +kernel⟩
theorem vX5_sheet : Cond.instanceMethod yX5_sheet ∈ tbG := tbG_t 514 (by decide +kernel) rfl
theorem zX5_sheet : Cond.selects yX5_sheet.cls yX5_sheet yX5_sheet ∈ tbG := tbG_t 515 (by decide +kernel) rfl
theorem nX5_sheet : plainName yX5_sheet.cls = true := by decide +kernel
theorem kX5_lose : MF mX5_lose 1 := ⟨tbG_t 532 (by decide +kernel) rfl, tbG_t 4 (by decide +kernel) rfl, by decide +kernel, by decide +kernel, by decide +kernel⟩
theorem vX5_lose : Cond.instanceMethod yX5_lose ∈ tbG := tbG_t 530 (by decide +kernel) rfl
theorem zX5_lose : Cond.selects yX5_lose.cls yX5_lose yX5_lose ∈ tbG := tbG_t 531 (by decide +kernel) rfl
theorem nX5_lose : plainName yX5_lose.cls = true := by decide +kernel
theorem kX5_lacks : MF mX5_lacks 3 := ⟨tbG_t 540 (by decide +kernel) rfl, tbG_t 4 (by decide +kernel) rfl, by decide +kernel, by decide +kernel, by decide +kernel⟩
theorem vX5_lacks : Cond.instanceMethod yX5_lacks ∈ tbG := tbG_t 539 (by decide +kernel) rfl
theorem zX5_lacks : Cond.selects yX5_lacks.cls yX5_lacks yX5_lacks ∈ tbG := tbG_s 24 (by decide +kernel) rfl
theorem nX5_lacks : plainName yX5_lacks.cls = true := by decide +kernel
theorem kX5_put : MF mX5_put 4 := ⟨tbG_t 536 (by decide +kernel) rfl, tbG_t 4 (by decide +kernel) rfl, by decide +kernel, by decide +kernel, by decide +kernel⟩
theorem vX5_put : Cond.instanceMethod yX5_put ∈ tbG := tbG_t 534 (by decide +kernel) rfl
theorem zX5_put : Cond.selects yX5_put.cls yX5_put yX5_put ∈ tbG := tbG_t 535 (by decide +kernel) rfl
theorem nX5_put : plainName yX5_put.cls = true := by decide +kernel
theorem kX5_get : MF mX5_get 3 := ⟨tbG_t 544 (by decide +kernel) rfl, tbG_t 4 (by decide +kernel) rfl, by decide +kernel, by decide +kernel, by decide +kernel⟩
theorem vX5_get : Cond.instanceMethod yX5_get ∈ tbG := tbG_t 542 (by decide +kernel) rfl
theorem zX5_get : Cond.selects yX5_get.cls yX5_get yX5_get ∈ tbG := tbG_t 543 (by decide +kernel) rfl
theorem nX5_get : plainName yX5_get.cls = true := by decide +kernel
theorem kX5_copy : MF mX5_copy 5 := ⟨tbG_t 549 (by decide +kernel) rfl, tbG_t 4 (by decide +kernel) rfl, by decide +kernel, by decide +kernel, by decide +kernel⟩
theorem vX5_copy : Cond.instanceMethod yX5_copy ∈ tbG := tbG_t 547 (by decide +kernel) rfl
theorem zX5_copy : Cond.selects yX5_copy.cls yX5_copy yX5_copy ∈ tbG := tbG_t 548 (by decide +kernel) rfl
theorem nX5_copy : plainName yX5_copy.cls = true := by decide +kernel
theorem kX5_isForm : MF mX5_isForm 1 := ⟨tbG_t 562 (by decide +kernel) rfl, tbG_t 4 (by decide +kernel) rfl, by decide +kernel, by decide +kernel, by decide +kernel⟩
theorem vX5_isForm : Cond.instanceMethod yX5_isForm ∈ tbG := tbG_t 561 (by decide +kernel) rfl
theorem zX5_isForm : Cond.selects yX5_isForm.cls yX5_isForm yX5_isForm ∈ tbG := tbG_s 26 (by decide +kernel) rfl
theorem nX5_isForm : plainName yX5_isForm.cls = true := by decide +kernel
theorem kX5_takeF : MF mX5_takeF 1 := ⟨tbG_t 566 (by decide +kernel) rfl, tbG_t 4 (by decide +kernel) rfl, by decide +kernel, by decide +kernel, by decide +kernel⟩
theorem vX5_takeF : Cond.instanceMethod yX5_takeF ∈ tbG := tbG_t 565 (by decide +kernel) rfl
theorem zX5_takeF : Cond.selects yX5_takeF.cls yX5_takeF yX5_takeF ∈ tbG := tbG_s 27 (by decide +kernel) rfl
theorem nX5_takeF : plainName yX5_takeF.cls = true := by decide +kernel
theorem kX5_takeG : MF mX5_takeG 1 := ⟨tbG_t 598 (by decide +kernel) rfl, tbG_t 4 (by decide +kernel) rfl, by decide +kernel, by decide +kernel, by decide +kernel⟩
theorem vX5_takeG : Cond.instanceMethod yX5_takeG ∈ tbG := tbG_t 597 (by decide +kernel) rfl
theorem zX5_takeG : Cond.selects yX5_takeG.cls yX5_takeG yX5_takeG ∈ tbG := tbG_s 30 (by decide +kernel) rfl
theorem nX5_takeG : plainName yX5_takeG.cls = true := by decide +kernel
theorem kX5_lay : MF mX5_lay 1 := ⟨tbG_t 606 (by decide +kernel) rfl, tbG_t 4 (by decide +kernel) rfl, by decide +kernel, by decide +kernel, by decide +kernel⟩
theorem vX5_lay : Cond.instanceMethod yX5_lay ∈ tbG := tbG_t 605 (by decide +kernel) rfl
theorem zX5_lay : Cond.selects yX5_lay.cls yX5_lay yX5_lay ∈ tbG := tbG_s 32 (by decide +kernel) rfl
theorem nX5_lay : plainName yX5_lay.cls = true := by decide +kernel
theorem kX5_noughtH : MF mX5_noughtH 1 := ⟨tbG_t 602 (by decide +kernel) rfl, tbG_t 4 (by decide +kernel) rfl, by decide +kernel, by decide +kernel, by decide +kernel⟩
theorem vX5_noughtH : Cond.instanceMethod yX5_noughtH ∈ tbG := tbG_t 601 (by decide +kernel) rfl
theorem zX5_noughtH : Cond.selects yX5_noughtH.cls yX5_noughtH yX5_noughtH ∈ tbG := tbG_s 31 (by decide +kernel) rfl
theorem nX5_noughtH : plainName yX5_noughtH.cls = true := by decide +kernel
theorem kX5_lacksOne : MF mX5_lacksOne 1 := ⟨tbG_t 558 (by decide +kernel) rfl, tbG_t 4 (by decide +kernel) rfl, by decide +kernel, by decide +kernel, by decide +kernel⟩
theorem vX5_lacksOne : Cond.instanceMethod yX5_lacksOne ∈ tbG := tbG_t 557 (by decide +kernel) rfl
theorem zX5_lacksOne : Cond.selects yX5_lacksOne.cls yX5_lacksOne yX5_lacksOne ∈ tbG := tbG_s 25 (by decide +kernel) rfl
theorem nX5_lacksOne : plainName yX5_lacksOne.cls = true := by decide +kernel
theorem kX5_lacksTwo : MF mX5_lacksTwo 2 := ⟨tbG_t 594 (by decide +kernel) rfl, tbG_t 4 (by decide +kernel) rfl, by decide +kernel, by decide +kernel, by decide +kernel⟩
theorem vX5_lacksTwo : Cond.instanceMethod yX5_lacksTwo ∈ tbG := tbG_t 593 (by decide +kernel) rfl
theorem zX5_lacksTwo : Cond.selects yX5_lacksTwo.cls yX5_lacksTwo yX5_lacksTwo ∈ tbG := tbG_s 29 (by decide +kernel) rfl
theorem nX5_lacksTwo : plainName yX5_lacksTwo.cls = true := by decide +kernel
theorem kX5_isNoughtF : MF mX5_isNoughtF 0 := ⟨tbG_t 642 (by decide +kernel) rfl, tbG_t 4 (by decide +kernel) rfl, by decide +kernel, by decide +kernel, by decide +kernel⟩
theorem vX5_isNoughtF : Cond.instanceMethod yX5_isNoughtF ∈ tbG := tbG_t 641 (by decide +kernel) rfl
theorem zX5_isNoughtF : Cond.selects yX5_isNoughtF.cls yX5_isNoughtF yX5_isNoughtF ∈ tbG := tbG_s 34 (by decide +kernel) rfl
theorem nX5_isNoughtF : plainName yX5_isNoughtF.cls = true := by decide +kernel
theorem kX5_isNoughtG : MF mX5_isNoughtG 0 := ⟨tbG_t 646 (by decide +kernel) rfl, tbG_t 4 (by decide +kernel) rfl, by decide +kernel, by decide +kernel, by decide +kernel⟩
theorem vX5_isNoughtG : Cond.instanceMethod yX5_isNoughtG ∈ tbG := tbG_t 645 (by decide +kernel) rfl
theorem zX5_isNoughtG : Cond.selects yX5_isNoughtG.cls yX5_isNoughtG yX5_isNoughtG ∈ tbG := tbG_s 35 (by decide +kernel) rfl
theorem nX5_isNoughtG : plainName yX5_isNoughtG.cls = true := by decide +kernel
theorem kX5_term : MF mX5_term 2 := ⟨tbG_t 553 (by decide +kernel) rfl, tbG_t 4 (by decide +kernel) rfl, by decide +kernel, by decide +kernel, by decide +kernel⟩
theorem vX5_term : Cond.instanceMethod yX5_term ∈ tbG := tbG_t 551 (by decide +kernel) rfl
theorem zX5_term : Cond.selects yX5_term.cls yX5_term yX5_term ∈ tbG := tbG_t 552 (by decide +kernel) rfl
theorem nX5_term : plainName yX5_term.cls = true := by decide +kernel
theorem kX5_degree : MF mX5_degree 1 := ⟨tbG_t 574 (by decide +kernel) rfl, tbG_t 4 (by decide +kernel) rfl, by decide +kernel, by decide +kernel, by decide +kernel⟩
theorem vX5_degree : Cond.instanceMethod yX5_degree ∈ tbG := tbG_t 572 (by decide +kernel) rfl
theorem zX5_degree : Cond.selects yX5_degree.cls yX5_degree yX5_degree ∈ tbG := tbG_t 573 (by decide +kernel) rfl
theorem nX5_degree : plainName yX5_degree.cls = true := by decide +kernel
theorem kX5_valueF : MF mX5_valueF 2 := ⟨tbG_t 582 (by decide +kernel) rfl, tbG_t 4 (by decide +kernel) rfl, by decide +kernel, by decide +kernel, by decide +kernel⟩
theorem vX5_valueF : Cond.instanceMethod yX5_valueF ∈ tbG := tbG_t 581 (by decide +kernel) rfl
theorem zX5_valueF : Cond.selects yX5_valueF.cls yX5_valueF yX5_valueF ∈ tbG := tbG_s 28 (by decide +kernel) rfl
theorem nX5_valueF : plainName yX5_valueF.cls = true := by decide +kernel
theorem kX5_value : MF mX5_value 3 := ⟨tbG_t 578 (by decide +kernel) rfl, tbG_t 4 (by decide +kernel) rfl, by decide +kernel, by decide +kernel, by decide +kernel⟩
theorem vX5_value : Cond.instanceMethod yX5_value ∈ tbG := tbG_t 576 (by decide +kernel) rfl
theorem zX5_value : Cond.selects yX5_value.cls yX5_value yX5_value ∈ tbG := tbG_t 577 (by decide +kernel) rfl
theorem nX5_value : plainName yX5_value.cls = true := by decide +kernel
theorem kX5_join : MF mX5_join 4 := ⟨tbG_t 589 (by decide +kernel) rfl, tbG_t 4 (by decide +kernel) rfl, by decide +kernel, by decide +kernel, by decide +kernel⟩
theorem vX5_join : Cond.instanceMethod yX5_join ∈ tbG := tbG_t 587 (by decide +kernel) rfl
theorem zX5_join : Cond.selects yX5_join.cls yX5_join yX5_join ∈ tbG := tbG_t 588 (by decide +kernel) rfl
theorem nX5_join : plainName yX5_join.cls = true := by decide +kernel
theorem kX5_mixes : MF mX5_mixes 4 := ⟨tbG_t 614 (by decide +kernel) rfl, tbG_t 4 (by decide +kernel) rfl, by decide +kernel, by decide +kernel, by decide +kernel⟩
theorem vX5_mixes : Cond.instanceMethod yX5_mixes ∈ tbG := tbG_t 613 (by decide +kernel) rfl
theorem zX5_mixes : Cond.selects yX5_mixes.cls yX5_mixes yX5_mixes ∈ tbG := tbG_s 33 (by decide +kernel) rfl
theorem nX5_mixes : plainName yX5_mixes.cls = true := by decide +kernel
theorem kX5_mix : MF mX5_mix 6 := ⟨tbG_t 610 (by decide +kernel) rfl, tbG_t 4 (by decide +kernel) rfl, by decide +kernel, by decide +kernel, by decide +kernel⟩
theorem vX5_mix : Cond.instanceMethod yX5_mix ∈ tbG := tbG_t 608 (by decide +kernel) rfl
theorem zX5_mix : Cond.selects yX5_mix.cls yX5_mix yX5_mix ∈ tbG := tbG_t 609 (by decide +kernel) rfl
theorem nX5_mix : plainName yX5_mix.cls = true := by decide +kernel
theorem kX5_change : MF mX5_change 3 := ⟨tbG_t 618 (by decide +kernel) rfl, tbG_t 4 (by decide +kernel) rfl, by decide +kernel, by decide +kernel, by decide +kernel⟩
theorem vX5_change : Cond.instanceMethod yX5_change ∈ tbG := tbG_t 616 (by decide +kernel) rfl
theorem zX5_change : Cond.selects yX5_change.cls yX5_change yX5_change ∈ tbG := tbG_t 617 (by decide +kernel) rfl
theorem nX5_change : plainName yX5_change.cls = true := by decide +kernel
theorem kX5_changed : MF mX5_changed 4 := ⟨tbG_t 628 (by decide +kernel) rfl, tbG_t 4 (by decide +kernel) rfl, by decide +kernel, by decide +kernel, by decide +kernel⟩
theorem uX5_changed : Cond.static yX5_changed ∈ tbG := tbG_t 627 (by decide +kernel) rfl
theorem nX5_changed : plainName yX5_changed.cls = true := by decide +kernel
theorem kX5_overlap : MF mX5_overlap 4 := ⟨tbG_t 622 (by decide +kernel) rfl, tbG_t 4 (by decide +kernel) rfl, by decide +kernel, by decide +kernel, by decide +kernel⟩
theorem vX5_overlap : Cond.instanceMethod yX5_overlap ∈ tbG := tbG_t 620 (by decide +kernel) rfl
theorem zX5_overlap : Cond.selects yX5_overlap.cls yX5_overlap yX5_overlap ∈ tbG := tbG_t 621 (by decide +kernel) rfl
theorem nX5_overlap : plainName yX5_overlap.cls = true := by decide +kernel
theorem kX5_alike : MF mX5_alike 2 := ⟨tbG_t 638 (by decide +kernel) rfl, tbG_t 4 (by decide +kernel) rfl, by decide +kernel, by decide +kernel, by decide +kernel⟩
theorem vX5_alike : Cond.instanceMethod yX5_alike ∈ tbG := tbG_t 636 (by decide +kernel) rfl
theorem zX5_alike : Cond.selects yX5_alike.cls yX5_alike yX5_alike ∈ tbG := tbG_t 637 (by decide +kernel) rfl
theorem nX5_alike : plainName yX5_alike.cls = true := by decide +kernel
theorem kX5_isRoot : MF mX5_isRoot 1 := ⟨tbG_t 658 (by decide +kernel) rfl, tbG_t 4 (by decide +kernel) rfl, by decide +kernel, by decide +kernel, by decide +kernel⟩
theorem vX5_isRoot : Cond.instanceMethod yX5_isRoot ∈ tbG := tbG_t 657 (by decide +kernel) rfl
theorem zX5_isRoot : Cond.selects yX5_isRoot.cls yX5_isRoot yX5_isRoot ∈ tbG := tbG_s 37 (by decide +kernel) rfl
theorem nX5_isRoot : plainName yX5_isRoot.cls = true := by decide +kernel
theorem kX5_lacksRoots : MF mX5_lacksRoots 1 := ⟨tbG_t 654 (by decide +kernel) rfl, tbG_t 4 (by decide +kernel) rfl, by decide +kernel, by decide +kernel, by decide +kernel⟩
theorem vX5_lacksRoots : Cond.instanceMethod yX5_lacksRoots ∈ tbG := tbG_t 653 (by decide +kernel) rfl
theorem zX5_lacksRoots : Cond.selects yX5_lacksRoots.cls yX5_lacksRoots yX5_lacksRoots ∈ tbG := tbG_s 36 (by decide +kernel) rfl
theorem nX5_lacksRoots : plainName yX5_lacksRoots.cls = true := by decide +kernel
theorem kX5_roots : MF mX5_roots 1 := ⟨tbG_t 650 (by decide +kernel) rfl, tbG_t 4 (by decide +kernel) rfl, by decide +kernel, by decide +kernel, by decide +kernel⟩
theorem vX5_roots : Cond.instanceMethod yX5_roots ∈ tbG := tbG_t 648 (by decide +kernel) rfl
theorem zX5_roots : Cond.selects yX5_roots.cls yX5_roots yX5_roots ∈ tbG := tbG_t 649 (by decide +kernel) rfl
theorem nX5_roots : plainName yX5_roots.cls = true := by decide +kernel
theorem kX5_root : MF mX5_root 2 := ⟨tbG_t 662 (by decide +kernel) rfl, tbG_t 4 (by decide +kernel) rfl, by decide +kernel, by decide +kernel, by decide +kernel⟩
theorem vX5_root : Cond.instanceMethod yX5_root ∈ tbG := tbG_t 660 (by decide +kernel) rfl
theorem zX5_root : Cond.selects yX5_root.cls yX5_root yX5_root ∈ tbG := tbG_t 661 (by decide +kernel) rfl
theorem nX5_root : plainName yX5_root.cls = true := by decide +kernel
theorem kX5_common : MF mX5_common 3 := ⟨tbG_t 666 (by decide +kernel) rfl, tbG_t 4 (by decide +kernel) rfl, by decide +kernel, by decide +kernel, by decide +kernel⟩
theorem vX5_common : Cond.instanceMethod yX5_common ∈ tbG := tbG_t 664 (by decide +kernel) rfl
theorem zX5_common : Cond.selects yX5_common.cls yX5_common yX5_common ∈ tbG := tbG_t 665 (by decide +kernel) rfl
theorem nX5_common : plainName yX5_common.cls = true := by decide +kernel
theorem kX5_eliminate : MF mX5_eliminate 2 := ⟨tbG_t 674 (by decide +kernel) rfl, tbG_t 4 (by decide +kernel) rfl, by decide +kernel, by decide +kernel, by decide +kernel⟩
theorem vX5_eliminate : Cond.instanceMethod yX5_eliminate ∈ tbG := tbG_t 673 (by decide +kernel) rfl
theorem zX5_eliminate : Cond.selects yX5_eliminate.cls yX5_eliminate yX5_eliminate ∈ tbG := tbG_s 38 (by decide +kernel) rfl
theorem nX5_eliminate : plainName yX5_eliminate.cls = true := by decide +kernel
theorem kX5_result : MF mX5_result 2 := ⟨tbG_t 670 (by decide +kernel) rfl, tbG_t 4 (by decide +kernel) rfl, by decide +kernel, by decide +kernel, by decide +kernel⟩
theorem vX5_result : Cond.instanceMethod yX5_result ∈ tbG := tbG_t 668 (by decide +kernel) rfl
theorem zX5_result : Cond.selects yX5_result.cls yX5_result yX5_result ∈ tbG := tbG_t 669 (by decide +kernel) rfl
theorem nX5_result : plainName yX5_result.cls = true := by decide +kernel
theorem kX5_raised : MF mX5_raised 2 := ⟨tbG_t 681 (by decide +kernel) rfl, tbG_t 4 (by decide +kernel) rfl, by decide +kernel, by decide +kernel, by decide +kernel⟩
theorem uX5_raised : Cond.static yX5_raised ∈ tbG := tbG_t 680 (by decide +kernel) rfl
theorem nX5_raised : plainName yX5_raised.cls = true := by decide +kernel
theorem kX5_powers : MF mX5_powers 4 := ⟨tbG_t 678 (by decide +kernel) rfl, tbG_t 4 (by decide +kernel) rfl, by decide +kernel, by decide +kernel, by decide +kernel⟩
theorem vX5_powers : Cond.instanceMethod yX5_powers ∈ tbG := tbG_t 676 (by decide +kernel) rfl
theorem zX5_powers : Cond.selects yX5_powers.cls yX5_powers yX5_powers ∈ tbG := tbG_t 677 (by decide +kernel) rfl
theorem nX5_powers : plainName yX5_powers.cls = true := by decide +kernel
theorem kX5_build : MF mX5_build 5 := ⟨tbG_t 685 (by decide +kernel) rfl, tbG_t 4 (by decide +kernel) rfl, by decide +kernel, by decide +kernel, by decide +kernel⟩
theorem vX5_build : Cond.instanceMethod yX5_build ∈ tbG := tbG_t 683 (by decide +kernel) rfl
theorem zX5_build : Cond.selects yX5_build.cls yX5_build yX5_build ∈ tbG := tbG_t 684 (by decide +kernel) rfl
theorem nX5_build : plainName yX5_build.cls = true := by decide +kernel
theorem kX5_rank : MF mX5_rank 2 := ⟨tbG_t 690 (by decide +kernel) rfl, tbG_t 4 (by decide +kernel) rfl, by decide +kernel, by decide +kernel, by decide +kernel⟩
theorem vX5_rank : Cond.instanceMethod yX5_rank ∈ tbG := tbG_t 688 (by decide +kernel) rfl
theorem zX5_rank : Cond.selects yX5_rank.cls yX5_rank yX5_rank ∈ tbG := tbG_t 689 (by decide +kernel) rfl
theorem nX5_rank : plainName yX5_rank.cls = true := by decide +kernel
theorem kX5_leadsBy : MF mX5_leadsBy 4 := ⟨tbG_t 706 (by decide +kernel) rfl, tbG_t 4 (by decide +kernel) rfl, by decide +kernel, by decide +kernel, by decide +kernel⟩
theorem vX5_leadsBy : Cond.instanceMethod yX5_leadsBy ∈ tbG := tbG_t 705 (by decide +kernel) rfl
theorem zX5_leadsBy : Cond.selects yX5_leadsBy.cls yX5_leadsBy yX5_leadsBy ∈ tbG := tbG_s 41 (by decide +kernel) rfl
theorem nX5_leadsBy : plainName yX5_leadsBy.cls = true := by decide +kernel
theorem kX5_lacksLeads : MF mX5_lacksLeads 2 := ⟨tbG_t 698 (by decide +kernel) rfl, tbG_t 4 (by decide +kernel) rfl, by decide +kernel, by decide +kernel, by decide +kernel⟩
theorem vX5_lacksLeads : Cond.instanceMethod yX5_lacksLeads ∈ tbG := tbG_t 697 (by decide +kernel) rfl
theorem zX5_lacksLeads : Cond.selects yX5_lacksLeads.cls yX5_lacksLeads yX5_lacksLeads ∈ tbG := tbG_s 39 (by decide +kernel) rfl
theorem nX5_lacksLeads : plainName yX5_lacksLeads.cls = true := by decide +kernel
theorem kX5_leadOf : MF mX5_leadOf 2 := ⟨tbG_t 702 (by decide +kernel) rfl, tbG_t 4 (by decide +kernel) rfl, by decide +kernel, by decide +kernel, by decide +kernel⟩
theorem vX5_leadOf : Cond.instanceMethod yX5_leadOf ∈ tbG := tbG_t 701 (by decide +kernel) rfl
theorem zX5_leadOf : Cond.selects yX5_leadOf.cls yX5_leadOf yX5_leadOf ∈ tbG := tbG_s 40 (by decide +kernel) rfl
theorem nX5_leadOf : plainName yX5_leadOf.cls = true := by decide +kernel
theorem kX5_leads : MF mX5_leads 3 := ⟨tbG_t 694 (by decide +kernel) rfl, tbG_t 4 (by decide +kernel) rfl, by decide +kernel, by decide +kernel, by decide +kernel⟩
theorem vX5_leads : Cond.instanceMethod yX5_leads ∈ tbG := tbG_t 692 (by decide +kernel) rfl
theorem zX5_leads : Cond.selects yX5_leads.cls yX5_leads yX5_leads ∈ tbG := tbG_t 693 (by decide +kernel) rfl
theorem nX5_leads : plainName yX5_leads.cls = true := by decide +kernel
theorem kX5_lead : MF mX5_lead 4 := ⟨tbG_t 710 (by decide +kernel) rfl, tbG_t 4 (by decide +kernel) rfl, by decide +kernel, by decide +kernel, by decide +kernel⟩
theorem vX5_lead : Cond.instanceMethod yX5_lead ∈ tbG := tbG_t 708 (by decide +kernel) rfl
theorem zX5_lead : Cond.selects yX5_lead.cls yX5_lead yX5_lead ∈ tbG := tbG_t 709 (by decide +kernel) rfl
theorem nX5_lead : plainName yX5_lead.cls = true := by decide +kernel
theorem kX5_waysOf : MF mX5_waysOf 3 := ⟨tbG_t 718 (by decide +kernel) rfl, tbG_t 4 (by decide +kernel) rfl, by decide +kernel, by decide +kernel, by decide +kernel⟩
theorem vX5_waysOf : Cond.instanceMethod yX5_waysOf ∈ tbG := tbG_t 717 (by decide +kernel) rfl
theorem zX5_waysOf : Cond.selects yX5_waysOf.cls yX5_waysOf yX5_waysOf ∈ tbG := tbG_s 42 (by decide +kernel) rfl
theorem nX5_waysOf : plainName yX5_waysOf.cls = true := by decide +kernel
theorem kX5_staying : MF mX5_staying 3 := ⟨tbG_t 714 (by decide +kernel) rfl, tbG_t 4 (by decide +kernel) rfl, by decide +kernel, by decide +kernel, by decide +kernel⟩
theorem vX5_staying : Cond.instanceMethod yX5_staying ∈ tbG := tbG_t 712 (by decide +kernel) rfl
theorem zX5_staying : Cond.selects yX5_staying.cls yX5_staying yX5_staying ∈ tbG := tbG_t 713 (by decide +kernel) rfl
theorem nX5_staying : plainName yX5_staying.cls = true := by decide +kernel
theorem kX5_count : MF mX5_count 1 := ⟨tbG_t 722 (by decide +kernel) rfl, tbG_t 4 (by decide +kernel) rfl, by decide +kernel, by decide +kernel, by decide +kernel⟩
theorem vX5_count : Cond.instanceMethod yX5_count ∈ tbG := tbG_t 720 (by decide +kernel) rfl
theorem zX5_count : Cond.selects yX5_count.cls yX5_count yX5_count ∈ tbG := tbG_t 721 (by decide +kernel) rfl
theorem nX5_count : plainName yX5_count.cls = true := by decide +kernel
theorem kX5_digest : MF mX5_digest 0 := ⟨tbG_t 726 (by decide +kernel) rfl, tbG_t 4 (by decide +kernel) rfl, by decide +kernel, by decide +kernel, by decide +kernel⟩
theorem vX5_digest : Cond.instanceMethod yX5_digest ∈ tbG := tbG_t 724 (by decide +kernel) rfl
theorem zX5_digest : Cond.selects yX5_digest.cls yX5_digest yX5_digest ∈ tbG := tbG_t 725 (by decide +kernel) rfl
theorem nX5_digest : plainName yX5_digest.cls = true := by decide +kernel
theorem kJ9_floorMod_7cf53 : MF mJ9_floorMod_7cf53 2 := ⟨tbG_t 163 (by decide +kernel) rfl, tbG_t 7 (by decide +kernel) rfl, by decide +kernel, by decide +kernel, by decide +kernel⟩
theorem uJ9_floorMod_7cf53 : Cond.static yJ9_floorMod_7cf53 ∈ tbG := tbG_t 162 (by decide +kernel) rfl
theorem nJ9_floorMod_7cf53 : plainName yJ9_floorMod_7cf53.cls = true := by decide +kernel
theorem kJ9_max_7cf53 : MF mJ9_max_7cf53 2 := ⟨tbG_t 313 (by decide +kernel) rfl, tbG_t 7 (by decide +kernel) rfl, by decide +kernel, by decide +kernel, by decide +kernel⟩
theorem uJ9_max_7cf53 : Cond.static yJ9_max_7cf53 ∈ tbG := tbG_t 312 (by decide +kernel) rfl
theorem nJ9_max_7cf53 : plainName yJ9_max_7cf53.cls = true := by decide +kernel
theorem kJ9_min_7cf53 : MF mJ9_min_7cf53 2 := ⟨tbG_t 306 (by decide +kernel) rfl, tbG_t 7 (by decide +kernel) rfl, by decide +kernel, by decide +kernel, by decide +kernel⟩
theorem uJ9_min_7cf53 : Cond.static yJ9_min_7cf53 ∈ tbG := tbG_t 305 (by decide +kernel) rfl
theorem nJ9_min_7cf53 : plainName yJ9_min_7cf53.cls = true := by decide +kernel
section FLD
variable {l : Launch} {D : va_G} {ad : Nat → Nat} {cI cR : ClassId} {M : MD} {R : RS} {pc idx : Nat} {loc : List (Nat × Value)} {stk : List Value} {h : HP}
theorem wC_0 : ((sdC l D ad cI cR).2.2.2 h)[0]? = some (ad 0, .inr (2, [.ref (ad 1), vi (h 0 1), .ref (ad 22), .ref (ad 23), .ref (ad 24), .ref (ad 25), .ref (ad 26), .ref (ad 27), .ref (ad 29)])) := wd_get (by decide)
theorem wC_27 : ((sdC l D ad cI cR).2.2.2 h)[27]? = some (ad 27, .inr (0, [.ref (ad 28), vi (h 27 1)])) := wd_get (by decide)
theorem wC_sh {a : Nat} (ha : isSh a = true) : ((sdC l D ad cI cR).2.2.2 h)[a]? = some (ad a, .inr (1, [.ref (ad (a + 10)), vi (h a 1), vi (h a 2)])) := by
  have h1 := sh_lt ha
  show (wd 30 ad (fun k => ceC ad cI cR (h k) k))[a]? = _
  rw [wd_get (by omega), ceC_sh ha]
theorem wM_0 : ((sdM l D ad cI).2.2.2 h)[0]? = some (ad 0, .inr (3, [.ref (ad 1), .ref (ad 2), .ref (ad 3), .ref (ad 4), vi (h 0 4), .ref (ad 5), vi (h 0 6), .ref (ad 6), vi (h 0 8), .ref (ad 7), vi (h 0 10), .ref (ad 8), .ref (ad 9), vi (h 0 13), .ref (ad 10), .ref (ad 11), .ref (ad 12)])) := wd_get (by decide)

theorem C_g4_0  (hlink : Cond.fieldLink M.1.cls idx (TX4 0).1 (TX4 0).2.1 (TX4 0).2.2.1 ∈ tbG) (hd : decode M.2.1 pc = .ok (.getfield idx, 3)) (kk : Rn (sdC l D ad cI cR) M R (pc + 3) loc (.ref (ad 1) :: stk) h) : Rn (sdC l D ad cI cR) M R pc loc (.ref (ad 0) :: stk) h := q_getf (S := sdC l D ad cI cR) (k := 0) (ci := 2) (j := 0) (wC_0) rfl inGX4 (by decide) hlink rfl hd kk
theorem C_g4_1  (hlink : Cond.fieldLink M.1.cls idx (TX4 1).1 (TX4 1).2.1 (TX4 1).2.2.1 ∈ tbG) (hd : decode M.2.1 pc = .ok (.getfield idx, 3)) (kk : Rn (sdC l D ad cI cR) M R (pc + 3) loc (vi (h 0 1) :: stk) h) : Rn (sdC l D ad cI cR) M R pc loc (.ref (ad 0) :: stk) h := q_getf (S := sdC l D ad cI cR) (k := 0) (ci := 2) (j := 1) (wC_0) rfl inGX4 (by decide) hlink rfl hd kk
theorem C_g4_2  (hlink : Cond.fieldLink M.1.cls idx (TX4 2).1 (TX4 2).2.1 (TX4 2).2.2.1 ∈ tbG) (hd : decode M.2.1 pc = .ok (.getfield idx, 3)) (kk : Rn (sdC l D ad cI cR) M R (pc + 3) loc (.ref (ad 22) :: stk) h) : Rn (sdC l D ad cI cR) M R pc loc (.ref (ad 0) :: stk) h := q_getf (S := sdC l D ad cI cR) (k := 0) (ci := 2) (j := 2) (wC_0) rfl inGX4 (by decide) hlink rfl hd kk
theorem C_g4_3  (hlink : Cond.fieldLink M.1.cls idx (TX4 3).1 (TX4 3).2.1 (TX4 3).2.2.1 ∈ tbG) (hd : decode M.2.1 pc = .ok (.getfield idx, 3)) (kk : Rn (sdC l D ad cI cR) M R (pc + 3) loc (.ref (ad 23) :: stk) h) : Rn (sdC l D ad cI cR) M R pc loc (.ref (ad 0) :: stk) h := q_getf (S := sdC l D ad cI cR) (k := 0) (ci := 2) (j := 3) (wC_0) rfl inGX4 (by decide) hlink rfl hd kk
theorem C_g4_4  (hlink : Cond.fieldLink M.1.cls idx (TX4 4).1 (TX4 4).2.1 (TX4 4).2.2.1 ∈ tbG) (hd : decode M.2.1 pc = .ok (.getfield idx, 3)) (kk : Rn (sdC l D ad cI cR) M R (pc + 3) loc (.ref (ad 24) :: stk) h) : Rn (sdC l D ad cI cR) M R pc loc (.ref (ad 0) :: stk) h := q_getf (S := sdC l D ad cI cR) (k := 0) (ci := 2) (j := 4) (wC_0) rfl inGX4 (by decide) hlink rfl hd kk
theorem C_g4_5  (hlink : Cond.fieldLink M.1.cls idx (TX4 5).1 (TX4 5).2.1 (TX4 5).2.2.1 ∈ tbG) (hd : decode M.2.1 pc = .ok (.getfield idx, 3)) (kk : Rn (sdC l D ad cI cR) M R (pc + 3) loc (.ref (ad 25) :: stk) h) : Rn (sdC l D ad cI cR) M R pc loc (.ref (ad 0) :: stk) h := q_getf (S := sdC l D ad cI cR) (k := 0) (ci := 2) (j := 5) (wC_0) rfl inGX4 (by decide) hlink rfl hd kk
theorem C_g4_6  (hlink : Cond.fieldLink M.1.cls idx (TX4 6).1 (TX4 6).2.1 (TX4 6).2.2.1 ∈ tbG) (hd : decode M.2.1 pc = .ok (.getfield idx, 3)) (kk : Rn (sdC l D ad cI cR) M R (pc + 3) loc (.ref (ad 26) :: stk) h) : Rn (sdC l D ad cI cR) M R pc loc (.ref (ad 0) :: stk) h := q_getf (S := sdC l D ad cI cR) (k := 0) (ci := 2) (j := 6) (wC_0) rfl inGX4 (by decide) hlink rfl hd kk
theorem C_g4_7  (hlink : Cond.fieldLink M.1.cls idx (TX4 7).1 (TX4 7).2.1 (TX4 7).2.2.1 ∈ tbG) (hd : decode M.2.1 pc = .ok (.getfield idx, 3)) (kk : Rn (sdC l D ad cI cR) M R (pc + 3) loc (.ref (ad 27) :: stk) h) : Rn (sdC l D ad cI cR) M R pc loc (.ref (ad 0) :: stk) h := q_getf (S := sdC l D ad cI cR) (k := 0) (ci := 2) (j := 7) (wC_0) rfl inGX4 (by decide) hlink rfl hd kk
theorem C_g4_8  (hlink : Cond.fieldLink M.1.cls idx (TX4 8).1 (TX4 8).2.1 (TX4 8).2.2.1 ∈ tbG) (hd : decode M.2.1 pc = .ok (.getfield idx, 3)) (kk : Rn (sdC l D ad cI cR) M R (pc + 3) loc (.ref (ad 29) :: stk) h) : Rn (sdC l D ad cI cR) M R pc loc (.ref (ad 0) :: stk) h := q_getf (S := sdC l D ad cI cR) (k := 0) (ci := 2) (j := 8) (wC_0) rfl inGX4 (by decide) hlink rfl hd kk
theorem C_g0_0  (hlink : Cond.fieldLink M.1.cls idx (TX0 0).1 (TX0 0).2.1 (TX0 0).2.2.1 ∈ tbG) (hd : decode M.2.1 pc = .ok (.getfield idx, 3)) (kk : Rn (sdC l D ad cI cR) M R (pc + 3) loc (.ref (ad 28) :: stk) h) : Rn (sdC l D ad cI cR) M R pc loc (.ref (ad 27) :: stk) h := q_getf (S := sdC l D ad cI cR) (k := 27) (ci := 0) (j := 0) (wC_27) rfl inGX0 (by decide) hlink rfl hd kk
theorem C_g0_1  (hlink : Cond.fieldLink M.1.cls idx (TX0 1).1 (TX0 1).2.1 (TX0 1).2.2.1 ∈ tbG) (hd : decode M.2.1 pc = .ok (.getfield idx, 3)) (kk : Rn (sdC l D ad cI cR) M R (pc + 3) loc (vi (h 27 1) :: stk) h) : Rn (sdC l D ad cI cR) M R pc loc (.ref (ad 27) :: stk) h := q_getf (S := sdC l D ad cI cR) (k := 27) (ci := 0) (j := 1) (wC_27) rfl inGX0 (by decide) hlink rfl hd kk
theorem C_g3_0 {a : Nat} (ha : isSh a = true) (hlink : Cond.fieldLink M.1.cls idx (TX3 0).1 (TX3 0).2.1 (TX3 0).2.2.1 ∈ tbG) (hd : decode M.2.1 pc = .ok (.getfield idx, 3)) (kk : Rn (sdC l D ad cI cR) M R (pc + 3) loc (.ref (ad (a + 10)) :: stk) h) : Rn (sdC l D ad cI cR) M R pc loc (.ref (ad a) :: stk) h := q_getf (S := sdC l D ad cI cR) (k := a) (ci := 1) (j := 0) (wC_sh ha) rfl inGX3 (by decide) hlink rfl hd kk
theorem C_g3_1 {a : Nat} (ha : isSh a = true) (hlink : Cond.fieldLink M.1.cls idx (TX3 1).1 (TX3 1).2.1 (TX3 1).2.2.1 ∈ tbG) (hd : decode M.2.1 pc = .ok (.getfield idx, 3)) (kk : Rn (sdC l D ad cI cR) M R (pc + 3) loc (vi (h a 1) :: stk) h) : Rn (sdC l D ad cI cR) M R pc loc (.ref (ad a) :: stk) h := q_getf (S := sdC l D ad cI cR) (k := a) (ci := 1) (j := 1) (wC_sh ha) rfl inGX3 (by decide) hlink rfl hd kk
theorem C_g3_2 {a : Nat} (ha : isSh a = true) (hlink : Cond.fieldLink M.1.cls idx (TX3 2).1 (TX3 2).2.1 (TX3 2).2.2.1 ∈ tbG) (hd : decode M.2.1 pc = .ok (.getfield idx, 3)) (kk : Rn (sdC l D ad cI cR) M R (pc + 3) loc (vi (h a 2) :: stk) h) : Rn (sdC l D ad cI cR) M R pc loc (.ref (ad a) :: stk) h := q_getf (S := sdC l D ad cI cR) (k := a) (ci := 1) (j := 2) (wC_sh ha) rfl inGX3 (by decide) hlink rfl hd kk
theorem M_g5_0  (hlink : Cond.fieldLink M.1.cls idx (TX5 0).1 (TX5 0).2.1 (TX5 0).2.2.1 ∈ tbG) (hd : decode M.2.1 pc = .ok (.getfield idx, 3)) (kk : Rn (sdM l D ad cI) M R (pc + 3) loc (.ref (ad 1) :: stk) h) : Rn (sdM l D ad cI) M R pc loc (.ref (ad 0) :: stk) h := q_getf (S := sdM l D ad cI) (k := 0) (ci := 3) (j := 0) (wM_0) rfl inGX5 (by decide) hlink rfl hd kk
theorem M_g5_1  (hlink : Cond.fieldLink M.1.cls idx (TX5 1).1 (TX5 1).2.1 (TX5 1).2.2.1 ∈ tbG) (hd : decode M.2.1 pc = .ok (.getfield idx, 3)) (kk : Rn (sdM l D ad cI) M R (pc + 3) loc (.ref (ad 2) :: stk) h) : Rn (sdM l D ad cI) M R pc loc (.ref (ad 0) :: stk) h := q_getf (S := sdM l D ad cI) (k := 0) (ci := 3) (j := 1) (wM_0) rfl inGX5 (by decide) hlink rfl hd kk
theorem M_g5_2  (hlink : Cond.fieldLink M.1.cls idx (TX5 2).1 (TX5 2).2.1 (TX5 2).2.2.1 ∈ tbG) (hd : decode M.2.1 pc = .ok (.getfield idx, 3)) (kk : Rn (sdM l D ad cI) M R (pc + 3) loc (.ref (ad 3) :: stk) h) : Rn (sdM l D ad cI) M R pc loc (.ref (ad 0) :: stk) h := q_getf (S := sdM l D ad cI) (k := 0) (ci := 3) (j := 2) (wM_0) rfl inGX5 (by decide) hlink rfl hd kk
theorem M_g5_3  (hlink : Cond.fieldLink M.1.cls idx (TX5 3).1 (TX5 3).2.1 (TX5 3).2.2.1 ∈ tbG) (hd : decode M.2.1 pc = .ok (.getfield idx, 3)) (kk : Rn (sdM l D ad cI) M R (pc + 3) loc (.ref (ad 4) :: stk) h) : Rn (sdM l D ad cI) M R pc loc (.ref (ad 0) :: stk) h := q_getf (S := sdM l D ad cI) (k := 0) (ci := 3) (j := 3) (wM_0) rfl inGX5 (by decide) hlink rfl hd kk
theorem M_g5_4  (hlink : Cond.fieldLink M.1.cls idx (TX5 4).1 (TX5 4).2.1 (TX5 4).2.2.1 ∈ tbG) (hd : decode M.2.1 pc = .ok (.getfield idx, 3)) (kk : Rn (sdM l D ad cI) M R (pc + 3) loc (vi (h 0 4) :: stk) h) : Rn (sdM l D ad cI) M R pc loc (.ref (ad 0) :: stk) h := q_getf (S := sdM l D ad cI) (k := 0) (ci := 3) (j := 4) (wM_0) rfl inGX5 (by decide) hlink rfl hd kk
theorem M_g5_5  (hlink : Cond.fieldLink M.1.cls idx (TX5 5).1 (TX5 5).2.1 (TX5 5).2.2.1 ∈ tbG) (hd : decode M.2.1 pc = .ok (.getfield idx, 3)) (kk : Rn (sdM l D ad cI) M R (pc + 3) loc (.ref (ad 5) :: stk) h) : Rn (sdM l D ad cI) M R pc loc (.ref (ad 0) :: stk) h := q_getf (S := sdM l D ad cI) (k := 0) (ci := 3) (j := 5) (wM_0) rfl inGX5 (by decide) hlink rfl hd kk
theorem M_g5_6  (hlink : Cond.fieldLink M.1.cls idx (TX5 6).1 (TX5 6).2.1 (TX5 6).2.2.1 ∈ tbG) (hd : decode M.2.1 pc = .ok (.getfield idx, 3)) (kk : Rn (sdM l D ad cI) M R (pc + 3) loc (vi (h 0 6) :: stk) h) : Rn (sdM l D ad cI) M R pc loc (.ref (ad 0) :: stk) h := q_getf (S := sdM l D ad cI) (k := 0) (ci := 3) (j := 6) (wM_0) rfl inGX5 (by decide) hlink rfl hd kk
theorem M_g5_7  (hlink : Cond.fieldLink M.1.cls idx (TX5 7).1 (TX5 7).2.1 (TX5 7).2.2.1 ∈ tbG) (hd : decode M.2.1 pc = .ok (.getfield idx, 3)) (kk : Rn (sdM l D ad cI) M R (pc + 3) loc (.ref (ad 6) :: stk) h) : Rn (sdM l D ad cI) M R pc loc (.ref (ad 0) :: stk) h := q_getf (S := sdM l D ad cI) (k := 0) (ci := 3) (j := 7) (wM_0) rfl inGX5 (by decide) hlink rfl hd kk
theorem M_g5_8  (hlink : Cond.fieldLink M.1.cls idx (TX5 8).1 (TX5 8).2.1 (TX5 8).2.2.1 ∈ tbG) (hd : decode M.2.1 pc = .ok (.getfield idx, 3)) (kk : Rn (sdM l D ad cI) M R (pc + 3) loc (vi (h 0 8) :: stk) h) : Rn (sdM l D ad cI) M R pc loc (.ref (ad 0) :: stk) h := q_getf (S := sdM l D ad cI) (k := 0) (ci := 3) (j := 8) (wM_0) rfl inGX5 (by decide) hlink rfl hd kk
theorem M_g5_9  (hlink : Cond.fieldLink M.1.cls idx (TX5 9).1 (TX5 9).2.1 (TX5 9).2.2.1 ∈ tbG) (hd : decode M.2.1 pc = .ok (.getfield idx, 3)) (kk : Rn (sdM l D ad cI) M R (pc + 3) loc (.ref (ad 7) :: stk) h) : Rn (sdM l D ad cI) M R pc loc (.ref (ad 0) :: stk) h := q_getf (S := sdM l D ad cI) (k := 0) (ci := 3) (j := 9) (wM_0) rfl inGX5 (by decide) hlink rfl hd kk
theorem M_g5_10  (hlink : Cond.fieldLink M.1.cls idx (TX5 10).1 (TX5 10).2.1 (TX5 10).2.2.1 ∈ tbG) (hd : decode M.2.1 pc = .ok (.getfield idx, 3)) (kk : Rn (sdM l D ad cI) M R (pc + 3) loc (vi (h 0 10) :: stk) h) : Rn (sdM l D ad cI) M R pc loc (.ref (ad 0) :: stk) h := q_getf (S := sdM l D ad cI) (k := 0) (ci := 3) (j := 10) (wM_0) rfl inGX5 (by decide) hlink rfl hd kk
theorem M_g5_11  (hlink : Cond.fieldLink M.1.cls idx (TX5 11).1 (TX5 11).2.1 (TX5 11).2.2.1 ∈ tbG) (hd : decode M.2.1 pc = .ok (.getfield idx, 3)) (kk : Rn (sdM l D ad cI) M R (pc + 3) loc (.ref (ad 8) :: stk) h) : Rn (sdM l D ad cI) M R pc loc (.ref (ad 0) :: stk) h := q_getf (S := sdM l D ad cI) (k := 0) (ci := 3) (j := 11) (wM_0) rfl inGX5 (by decide) hlink rfl hd kk
theorem M_g5_12  (hlink : Cond.fieldLink M.1.cls idx (TX5 12).1 (TX5 12).2.1 (TX5 12).2.2.1 ∈ tbG) (hd : decode M.2.1 pc = .ok (.getfield idx, 3)) (kk : Rn (sdM l D ad cI) M R (pc + 3) loc (.ref (ad 9) :: stk) h) : Rn (sdM l D ad cI) M R pc loc (.ref (ad 0) :: stk) h := q_getf (S := sdM l D ad cI) (k := 0) (ci := 3) (j := 12) (wM_0) rfl inGX5 (by decide) hlink rfl hd kk
theorem M_g5_13  (hlink : Cond.fieldLink M.1.cls idx (TX5 13).1 (TX5 13).2.1 (TX5 13).2.2.1 ∈ tbG) (hd : decode M.2.1 pc = .ok (.getfield idx, 3)) (kk : Rn (sdM l D ad cI) M R (pc + 3) loc (vi (h 0 13) :: stk) h) : Rn (sdM l D ad cI) M R pc loc (.ref (ad 0) :: stk) h := q_getf (S := sdM l D ad cI) (k := 0) (ci := 3) (j := 13) (wM_0) rfl inGX5 (by decide) hlink rfl hd kk
theorem M_g5_14  (hlink : Cond.fieldLink M.1.cls idx (TX5 14).1 (TX5 14).2.1 (TX5 14).2.2.1 ∈ tbG) (hd : decode M.2.1 pc = .ok (.getfield idx, 3)) (kk : Rn (sdM l D ad cI) M R (pc + 3) loc (.ref (ad 10) :: stk) h) : Rn (sdM l D ad cI) M R pc loc (.ref (ad 0) :: stk) h := q_getf (S := sdM l D ad cI) (k := 0) (ci := 3) (j := 14) (wM_0) rfl inGX5 (by decide) hlink rfl hd kk
theorem M_g5_15  (hlink : Cond.fieldLink M.1.cls idx (TX5 15).1 (TX5 15).2.1 (TX5 15).2.2.1 ∈ tbG) (hd : decode M.2.1 pc = .ok (.getfield idx, 3)) (kk : Rn (sdM l D ad cI) M R (pc + 3) loc (.ref (ad 11) :: stk) h) : Rn (sdM l D ad cI) M R pc loc (.ref (ad 0) :: stk) h := q_getf (S := sdM l D ad cI) (k := 0) (ci := 3) (j := 15) (wM_0) rfl inGX5 (by decide) hlink rfl hd kk
theorem M_g5_16  (hlink : Cond.fieldLink M.1.cls idx (TX5 16).1 (TX5 16).2.1 (TX5 16).2.2.1 ∈ tbG) (hd : decode M.2.1 pc = .ok (.getfield idx, 3)) (kk : Rn (sdM l D ad cI) M R (pc + 3) loc (.ref (ad 12) :: stk) h) : Rn (sdM l D ad cI) M R pc loc (.ref (ad 0) :: stk) h := q_getf (S := sdM l D ad cI) (k := 0) (ci := 3) (j := 16) (wM_0) rfl inGX5 (by decide) hlink rfl hd kk
theorem C_p4_1 {α : Type} {Z : α} {v : Int} {kf : HP → α}  (hf : pf h 0 1 v kf = Z) (hlink : Cond.fieldLink M.1.cls idx (TX4 1).1 (TX4 1).2.1 (TX4 1).2.2.1 ∈ tbG) (hd : decode M.2.1 pc = .ok (.putfield idx, 3)) (kk : ∀ h1 : HP, kf h1 = Z → Rn (sdC l D ad cI cR) M R (pc + 3) loc stk h1) : Rn (sdC l D ad cI cR) M R pc loc (vi v :: .ref (ad 0) :: stk) h :=
  q_putf (S := sdC l D ad cI cR) (k := 0) (ci := 2) (j := 1) (v := vi v) (ty := .int) (h1 := hs h 0 1 v) tyX4 tyX4_ok nmX4 (wC_0) rfl inGX4 (by decide) hlink rfl (by decide +kernel) rfl rfl (Nat.le_of_ble_eq_true rfl) (by
    show (wd 30 ad (fun k => ceC ad cI cR (h k) k)).set 0 _ = wd 30 ad (fun k => ceC ad cI cR ((hs h 0 1 v) k) k)
    exact wd_set (by rfl) (fun j hj => ceC_hs j hj)) hd (kk _ hf)
theorem C_p0_1 {α : Type} {Z : α} {v : Int} {kf : HP → α}  (hf : pf h 27 1 v kf = Z) (hlink : Cond.fieldLink M.1.cls idx (TX0 1).1 (TX0 1).2.1 (TX0 1).2.2.1 ∈ tbG) (hd : decode M.2.1 pc = .ok (.putfield idx, 3)) (kk : ∀ h1 : HP, kf h1 = Z → Rn (sdC l D ad cI cR) M R (pc + 3) loc stk h1) : Rn (sdC l D ad cI cR) M R pc loc (vi v :: .ref (ad 27) :: stk) h :=
  q_putf (S := sdC l D ad cI cR) (k := 27) (ci := 0) (j := 1) (v := vi v) (ty := .int) (h1 := hs h 27 1 v) tyX0 tyX0_ok nmX0 (wC_27) rfl inGX0 (by decide) hlink rfl (by decide +kernel) rfl rfl (Nat.le_of_ble_eq_true rfl) (by
    show (wd 30 ad (fun k => ceC ad cI cR (h k) k)).set 27 _ = wd 30 ad (fun k => ceC ad cI cR ((hs h 27 1 v) k) k)
    exact wd_set (by rfl) (fun j hj => ceC_hs j hj)) hd (kk _ hf)
theorem C_p3_1 {α : Type} {Z : α} {v : Int} {kf : HP → α} {a : Nat} (ha : isSh a = true) (hf : pf h a 1 v kf = Z) (hlink : Cond.fieldLink M.1.cls idx (TX3 1).1 (TX3 1).2.1 (TX3 1).2.2.1 ∈ tbG) (hd : decode M.2.1 pc = .ok (.putfield idx, 3)) (kk : ∀ h1 : HP, kf h1 = Z → Rn (sdC l D ad cI cR) M R (pc + 3) loc stk h1) : Rn (sdC l D ad cI cR) M R pc loc (vi v :: .ref (ad a) :: stk) h :=
  q_putf (S := sdC l D ad cI cR) (k := a) (ci := 1) (j := 1) (v := vi v) (ty := .int) (h1 := hs h a 1 v) tyX3 tyX3_ok nmX3 (wC_sh ha) rfl inGX3 (by decide) hlink rfl (by decide +kernel) rfl rfl (Nat.le_of_ble_eq_true rfl) (by
    show (wd 30 ad (fun k => ceC ad cI cR (h k) k)).set a _ = wd 30 ad (fun k => ceC ad cI cR ((hs h a 1 v) k) k)
    exact wd_set (by rw [hs_eq, ceC_sh ha]; rfl) (fun j hj => ceC_hs j hj)) hd (kk _ hf)
theorem C_p3_2 {α : Type} {Z : α} {v : Int} {kf : HP → α} {a : Nat} (ha : isSh a = true) (hf : pf h a 2 v kf = Z) (hlink : Cond.fieldLink M.1.cls idx (TX3 2).1 (TX3 2).2.1 (TX3 2).2.2.1 ∈ tbG) (hd : decode M.2.1 pc = .ok (.putfield idx, 3)) (kk : ∀ h1 : HP, kf h1 = Z → Rn (sdC l D ad cI cR) M R (pc + 3) loc stk h1) : Rn (sdC l D ad cI cR) M R pc loc (vi v :: .ref (ad a) :: stk) h :=
  q_putf (S := sdC l D ad cI cR) (k := a) (ci := 1) (j := 2) (v := vi v) (ty := .int) (h1 := hs h a 2 v) tyX3 tyX3_ok nmX3 (wC_sh ha) rfl inGX3 (by decide) hlink rfl (by decide +kernel) rfl rfl (Nat.le_of_ble_eq_true rfl) (by
    show (wd 30 ad (fun k => ceC ad cI cR (h k) k)).set a _ = wd 30 ad (fun k => ceC ad cI cR ((hs h a 2 v) k) k)
    exact wd_set (by rw [hs_eq, ceC_sh ha]; rfl) (fun j hj => ceC_hs j hj)) hd (kk _ hf)
theorem M_p5_4 {α : Type} {Z : α} {v : Int} {kf : HP → α}  (hf : pf h 0 4 v kf = Z) (hlink : Cond.fieldLink M.1.cls idx (TX5 4).1 (TX5 4).2.1 (TX5 4).2.2.1 ∈ tbG) (hd : decode M.2.1 pc = .ok (.putfield idx, 3)) (kk : ∀ h1 : HP, kf h1 = Z → Rn (sdM l D ad cI) M R (pc + 3) loc stk h1) : Rn (sdM l D ad cI) M R pc loc (vi v :: .ref (ad 0) :: stk) h :=
  q_putf (S := sdM l D ad cI) (k := 0) (ci := 3) (j := 4) (v := vi v) (ty := .int) (h1 := hs h 0 4 v) tyX5 tyX5_ok nmX5 (wM_0) rfl inGX5 (by decide) hlink rfl (by decide +kernel) rfl rfl (Nat.le_of_ble_eq_true rfl) (by
    show (wd 13 ad (fun k => ceM ad cI (h k) k)).set 0 _ = wd 13 ad (fun k => ceM ad cI ((hs h 0 4 v) k) k)
    exact wd_set (by rfl) (fun j hj => ceM_hs j hj)) hd (kk _ hf)
theorem M_p5_6 {α : Type} {Z : α} {v : Int} {kf : HP → α}  (hf : pf h 0 6 v kf = Z) (hlink : Cond.fieldLink M.1.cls idx (TX5 6).1 (TX5 6).2.1 (TX5 6).2.2.1 ∈ tbG) (hd : decode M.2.1 pc = .ok (.putfield idx, 3)) (kk : ∀ h1 : HP, kf h1 = Z → Rn (sdM l D ad cI) M R (pc + 3) loc stk h1) : Rn (sdM l D ad cI) M R pc loc (vi v :: .ref (ad 0) :: stk) h :=
  q_putf (S := sdM l D ad cI) (k := 0) (ci := 3) (j := 6) (v := vi v) (ty := .int) (h1 := hs h 0 6 v) tyX5 tyX5_ok nmX5 (wM_0) rfl inGX5 (by decide) hlink rfl (by decide +kernel) rfl rfl (Nat.le_of_ble_eq_true rfl) (by
    show (wd 13 ad (fun k => ceM ad cI (h k) k)).set 0 _ = wd 13 ad (fun k => ceM ad cI ((hs h 0 6 v) k) k)
    exact wd_set (by rfl) (fun j hj => ceM_hs j hj)) hd (kk _ hf)
theorem M_p5_8 {α : Type} {Z : α} {v : Int} {kf : HP → α}  (hf : pf h 0 8 v kf = Z) (hlink : Cond.fieldLink M.1.cls idx (TX5 8).1 (TX5 8).2.1 (TX5 8).2.2.1 ∈ tbG) (hd : decode M.2.1 pc = .ok (.putfield idx, 3)) (kk : ∀ h1 : HP, kf h1 = Z → Rn (sdM l D ad cI) M R (pc + 3) loc stk h1) : Rn (sdM l D ad cI) M R pc loc (vi v :: .ref (ad 0) :: stk) h :=
  q_putf (S := sdM l D ad cI) (k := 0) (ci := 3) (j := 8) (v := vi v) (ty := .int) (h1 := hs h 0 8 v) tyX5 tyX5_ok nmX5 (wM_0) rfl inGX5 (by decide) hlink rfl (by decide +kernel) rfl rfl (Nat.le_of_ble_eq_true rfl) (by
    show (wd 13 ad (fun k => ceM ad cI (h k) k)).set 0 _ = wd 13 ad (fun k => ceM ad cI ((hs h 0 8 v) k) k)
    exact wd_set (by rfl) (fun j hj => ceM_hs j hj)) hd (kk _ hf)
theorem M_p5_10 {α : Type} {Z : α} {v : Int} {kf : HP → α}  (hf : pf h 0 10 v kf = Z) (hlink : Cond.fieldLink M.1.cls idx (TX5 10).1 (TX5 10).2.1 (TX5 10).2.2.1 ∈ tbG) (hd : decode M.2.1 pc = .ok (.putfield idx, 3)) (kk : ∀ h1 : HP, kf h1 = Z → Rn (sdM l D ad cI) M R (pc + 3) loc stk h1) : Rn (sdM l D ad cI) M R pc loc (vi v :: .ref (ad 0) :: stk) h :=
  q_putf (S := sdM l D ad cI) (k := 0) (ci := 3) (j := 10) (v := vi v) (ty := .int) (h1 := hs h 0 10 v) tyX5 tyX5_ok nmX5 (wM_0) rfl inGX5 (by decide) hlink rfl (by decide +kernel) rfl rfl (Nat.le_of_ble_eq_true rfl) (by
    show (wd 13 ad (fun k => ceM ad cI (h k) k)).set 0 _ = wd 13 ad (fun k => ceM ad cI ((hs h 0 10 v) k) k)
    exact wd_set (by rfl) (fun j hj => ceM_hs j hj)) hd (kk _ hf)
theorem M_p5_13 {α : Type} {Z : α} {v : Int} {kf : HP → α}  (hf : pf h 0 13 v kf = Z) (hlink : Cond.fieldLink M.1.cls idx (TX5 13).1 (TX5 13).2.1 (TX5 13).2.2.1 ∈ tbG) (hd : decode M.2.1 pc = .ok (.putfield idx, 3)) (kk : ∀ h1 : HP, kf h1 = Z → Rn (sdM l D ad cI) M R (pc + 3) loc stk h1) : Rn (sdM l D ad cI) M R pc loc (vi v :: .ref (ad 0) :: stk) h :=
  q_putf (S := sdM l D ad cI) (k := 0) (ci := 3) (j := 13) (v := vi v) (ty := .int) (h1 := hs h 0 13 v) tyX5 tyX5_ok nmX5 (wM_0) rfl inGX5 (by decide) hlink rfl (by decide +kernel) rfl rfl (Nat.le_of_ble_eq_true rfl) (by
    show (wd 13 ad (fun k => ceM ad cI (h k) k)).set 0 _ = wd 13 ad (fun k => ceM ad cI ((hs h 0 13 v) k) k)
    exact wd_set (by rfl) (fun j hj => ceM_hs j hj)) hd (kk _ hf)
theorem C_cp {α : Type} {Z : α} {a t : Nat} {i j n : Int} {kf : HP → Option α} (ha : isSh a = true) (ht : isSh t = true) (hf : acp h (a + 10) i (t + 10) j n kf = some Z) (hlk : Cond.methodLink M.1.cls idx arraycopyName ∈ tbG) (hR : (Nat.ble 1 M.2.2.2.2.1 && Nat.ble ((stk.map fun v => v.category).sum + (nativeFrameWords "java/lang/System" "arraycopy" 5 + 11)) M.2.2.2.2.2) = true) (hd : decode M.2.1 pc = .ok (.invokestatic idx, 3)) (kk : ∀ h1 : HP, kf h1 = some Z → Rn (sdC l D ad cI cR) M R (pc + 3) loc stk h1) : Rn (sdC l D ad cI cR) M R pc loc (vi n :: vi j :: .ref (ad (t + 10)) :: vi i :: .ref (ad (a + 10)) :: stk) h := by
  unfold acp at hf
  split at hf
  · rename_i hi
    obtain ⟨i1, i2, i3, i4, i5⟩ := hi
    have ha2 := sh_arr ha
    have ht2 := sh_arr ht
    have la : lnC (a + 10) = 12 := by have := sh_lt ha; simp [lnC, ha2]; omega
    have lt2 : lnC (t + 10) = 12 := by have := sh_lt ht; simp [lnC, ht2]; omega
    rw [Bool.and_eq_true] at hR
    have nn : ∀ z : Int, 0 ≤ wi z → ¬ Int32.ofInt z < 0 := fun z hz q => by have := (wi_lt0 z).mp q; omega
    intro p e s m args below meth c H locs A ls C hP hD hS hv
    refine va_copyi C.1 C.2.1 (C.2.2.1.trans hv.1.symm) C.2.2.2.1 (q_hts C hlk) (q_hts C (tbG_t 141 (by decide +kernel) rfl)) (q_hts C (tbG_t 140 (by decide +kernel) rfl)) (q_hts C (tbG_t 5 (by decide +kernel) rfl)) C.2.2.2.2.2.2.2.2 hP hD hS (a + 10) (t + 10) 0 0 (n0 := 12) (n1 := 12) (f := fun j => Int32.ofInt (h (a + 10) j)) (g := fun j => Int32.ofInt (h (t + 10) j)) (by rw [wC_arr ha2, la]) (by rw [wC_arr ht2, lt2]) rfl rfl rfl (nn i i1) (nn j i2) (nn n i3) (by rw [wi_clamp, wi_clamp]; omega) (by rw [wi_clamp, wi_clamp]; omega) (fun _ _ => rfl) (Nat.le_of_ble_eq_true hR.1) (Nat.le_of_ble_eq_true hR.2) hd (fun H1 locs1 hP1 hD1 hS1 => ?_)
    have hset : ((sdC l D ad cI cR).2.2.2 h).set (t + 10) (ad (t + 10), .inl (cI, 12, .inl (va_cpy (fun j => Int32.ofInt (h (a + 10) j)) (fun j => Int32.ofInt (h (t + 10) j)) (wi i).toNat (wi j).toNat (wi n).toNat))) = (sdC l D ad cI cR).2.2.2 (hcp h (a + 10) (wi i).toNat (t + 10) (wi j).toNat (wi n).toNat) := by
      show (wd 30 ad (fun k => ceC ad cI cR (h k) k)).set (t + 10) _ = wd 30 ad (fun k => ceC ad cI cR ((hcp h (a + 10) (wi i).toNat (t + 10) (wi j).toNat (wi n).toNat) k) k)
      refine wd_set ?_ (fun b hb => ?_)
      · rw [ceC_arr ht2, lt2]
        have e : (va_cpy (fun j => Int32.ofInt (h (a + 10) j)) (fun j => Int32.ofInt (h (t + 10) j)) (wi i).toNat (wi j).toNat (wi n).toNat) = fun b => Int32.ofInt (hcp h (a + 10) (wi i).toNat (t + 10) (wi j).toNat (wi n).toNat (t + 10) b) := by
          funext b
          unfold va_cpy hcp
          by_cases q : (wi j).toNat ≤ b ∧ b < (wi j).toNat + (wi n).toNat
          · rw [if_pos q, if_pos ⟨rfl, q⟩]
          · rw [if_neg q, if_neg (fun z => q z.2)]
        rw [e]
      · have e : hcp h (a + 10) (wi i).toNat (t + 10) (wi j).toNat (wi n).toNat b = h b := by
          funext x
          unfold hcp
          rw [if_neg (fun z => hb z.1)]
        rw [e]
    exact kk _ hf p e s m args below meth c H1 locs1 A ls C (hset ▸ hP1) (hset ▸ hD1) hS1 hv
  · cases hf
end FLD
theorem lkX4_89 : Cond.methodLink RX4 89 arraycopyName ∈ tbG := tbG_t 139 (by decide +kernel) rfl
end
