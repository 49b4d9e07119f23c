section
-- ===== PART A: goes FIRST, ahead of the names: the tables' words, and 'selects' of the private methods out of them =====
/-- a private method of a class that the tables say can be made, by its rows of tables_1 -/
def lw_okq (q : MethodName × Nat) : Prop := (q.1.cls ≠ "java/lang/invoke/MethodHandle" ∧ q.1.cls ≠ "java/lang/invoke/VarHandle") ∧ Cond.instantiable q.1.cls q.2 ∈ tables_1 ∧ Cond.privateMethod q.1 ∈ tables_1 ∧ Cond.instanceMethod q.1 ∈ tables_1
theorem lw_p0 : lw_okq (⟨"WellKnots$Text", "endOfRow", "(III)I"⟩, 6) := ⟨⟨by decide +kernel, by decide +kernel⟩, List.mem_of_getElem? (i := 24) (by decide +kernel), List.mem_of_getElem? (i := 286) (by decide +kernel), List.mem_of_getElem? (i := 287) (by decide +kernel)⟩
theorem lw_p1 : lw_okq (⟨"WellKnots$Text", "readNumber", "(Z)V"⟩, 6) := ⟨⟨by decide +kernel, by decide +kernel⟩, List.mem_of_getElem? (i := 24) (by decide +kernel), List.mem_of_getElem? (i := 294) (by decide +kernel), List.mem_of_getElem? (i := 295) (by decide +kernel)⟩
theorem lw_p2 : lw_okq (⟨"WellKnots$Road", "tellItem", "(LWellKnots$Text;)Z"⟩, 12) := ⟨⟨by decide +kernel, by decide +kernel⟩, List.mem_of_getElem? (i := 50) (by decide +kernel), List.mem_of_getElem? (i := 305) (by decide +kernel), List.mem_of_getElem? (i := 306) (by decide +kernel)⟩
theorem lw_p3 : lw_okq (⟨"WellKnots$Road", "tellWell", "(LWellKnots$Text;)Z"⟩, 12) := ⟨⟨by decide +kernel, by decide +kernel⟩, List.mem_of_getElem? (i := 50) (by decide +kernel), List.mem_of_getElem? (i := 313) (by decide +kernel), List.mem_of_getElem? (i := 314) (by decide +kernel)⟩
theorem lw_p4 : lw_okq (⟨"WellKnots$Road", "hear", "(LWellKnots$Text;III)Z"⟩, 12) := ⟨⟨by decide +kernel, by decide +kernel⟩, List.mem_of_getElem? (i := 50) (by decide +kernel), List.mem_of_getElem? (i := 317) (by decide +kernel), List.mem_of_getElem? (i := 318) (by decide +kernel)⟩
theorem lw_p5 : lw_okq (⟨"WellKnots$Road", "tellStage", "(LWellKnots$Text;)Z"⟩, 12) := ⟨⟨by decide +kernel, by decide +kernel⟩, List.mem_of_getElem? (i := 50) (by decide +kernel), List.mem_of_getElem? (i := 324) (by decide +kernel), List.mem_of_getElem? (i := 325) (by decide +kernel)⟩
theorem lw_p6 : lw_okq (⟨"WellKnots$Road", "tellCaravan", "(LWellKnots$Text;)Z"⟩, 12) := ⟨⟨by decide +kernel, by decide +kernel⟩, List.mem_of_getElem? (i := 50) (by decide +kernel), List.mem_of_getElem? (i := 328) (by decide +kernel), List.mem_of_getElem? (i := 329) (by decide +kernel)⟩
theorem lw_p7 : lw_okq (⟨"WellKnots$Road", "tellKnots", "(LWellKnots$Text;)Z"⟩, 12) := ⟨⟨by decide +kernel, by decide +kernel⟩, List.mem_of_getElem? (i := 50) (by decide +kernel), List.mem_of_getElem? (i := 347) (by decide +kernel), List.mem_of_getElem? (i := 348) (by decide +kernel)⟩
theorem lw_p8 : lw_okq (⟨"WellKnots$Road", "tellDues", "(LWellKnots$Text;)Z"⟩, 12) := ⟨⟨by decide +kernel, by decide +kernel⟩, List.mem_of_getElem? (i := 50) (by decide +kernel), List.mem_of_getElem? (i := 358) (by decide +kernel), List.mem_of_getElem? (i := 359) (by decide +kernel)⟩
theorem lw_p9 : lw_okq (⟨"WellKnots", "canBorrow", "(II)Z"⟩, 12) := ⟨⟨by decide +kernel, by decide +kernel⟩, List.mem_of_getElem? (i := 16) (by decide +kernel), List.mem_of_getElem? (i := 544) (by decide +kernel), List.mem_of_getElem? (i := 545) (by decide +kernel)⟩
theorem lw_p10 : lw_okq (⟨"WellKnots", "borrow", "(II)I"⟩, 12) := ⟨⟨by decide +kernel, by decide +kernel⟩, List.mem_of_getElem? (i := 16) (by decide +kernel), List.mem_of_getElem? (i := 548) (by decide +kernel), List.mem_of_getElem? (i := 549) (by decide +kernel)⟩
theorem lw_p11 : lw_okq (⟨"WellKnots$Ring", "walk", "(LWellKnots$Moment;IIII)V"⟩, 4) := ⟨⟨by decide +kernel, by decide +kernel⟩, List.mem_of_getElem? (i := 147) (by decide +kernel), List.mem_of_getElem? (i := 568) (by decide +kernel), List.mem_of_getElem? (i := 569) (by decide +kernel)⟩
theorem lw_p12 : lw_okq (⟨"WellKnots$Ring", "offer", "(II)V"⟩, 4) := ⟨⟨by decide +kernel, by decide +kernel⟩, List.mem_of_getElem? (i := 147) (by decide +kernel), List.mem_of_getElem? (i := 574) (by decide +kernel), List.mem_of_getElem? (i := 575) (by decide +kernel)⟩
theorem lw_p13 : lw_okq (⟨"WellKnots$Road", "endsEachStage", "(I)Z"⟩, 12) := ⟨⟨by decide +kernel, by decide +kernel⟩, List.mem_of_getElem? (i := 50) (by decide +kernel), List.mem_of_getElem? (i := 636) (by decide +kernel), List.mem_of_getElem? (i := 637) (by decide +kernel)⟩
theorem lw_p14 : lw_okq (⟨"WellKnots$Way", "firstOnto", "(LWellKnots$Road;II)I"⟩, 5) := ⟨⟨by decide +kernel, by decide +kernel⟩, List.mem_of_getElem? (i := 168) (by decide +kernel), List.mem_of_getElem? (i := 654) (by decide +kernel), List.mem_of_getElem? (i := 655) (by decide +kernel)⟩
theorem lw_p15 : lw_okq (⟨"WellKnots$Way", "heatOver", "(LWellKnots$Road;II)I"⟩, 5) := ⟨⟨by decide +kernel, by decide +kernel⟩, List.mem_of_getElem? (i := 168) (by decide +kernel), List.mem_of_getElem? (i := 658) (by decide +kernel), List.mem_of_getElem? (i := 659) (by decide +kernel)⟩
def lw_privs_1 : List (MethodName × Nat) := [(⟨"WellKnots$Text", "endOfRow", "(III)I"⟩, 6), (⟨"WellKnots$Text", "readNumber", "(Z)V"⟩, 6), (⟨"WellKnots$Road", "tellItem", "(LWellKnots$Text;)Z"⟩, 12), (⟨"WellKnots$Road", "tellWell", "(LWellKnots$Text;)Z"⟩, 12), (⟨"WellKnots$Road", "hear", "(LWellKnots$Text;III)Z"⟩, 12), (⟨"WellKnots$Road", "tellStage", "(LWellKnots$Text;)Z"⟩, 12), (⟨"WellKnots$Road", "tellCaravan", "(LWellKnots$Text;)Z"⟩, 12), (⟨"WellKnots$Road", "tellKnots", "(LWellKnots$Text;)Z"⟩, 12), (⟨"WellKnots$Road", "tellDues", "(LWellKnots$Text;)Z"⟩, 12), (⟨"WellKnots", "canBorrow", "(II)Z"⟩, 12), (⟨"WellKnots", "borrow", "(II)I"⟩, 12), (⟨"WellKnots$Ring", "walk", "(LWellKnots$Moment;IIII)V"⟩, 4), (⟨"WellKnots$Ring", "offer", "(II)V"⟩, 4), (⟨"WellKnots$Road", "endsEachStage", "(I)Z"⟩, 12), (⟨"WellKnots$Way", "firstOnto", "(LWellKnots$Road;II)I"⟩, 5), (⟨"WellKnots$Way", "heatOver", "(LWellKnots$Road;II)I"⟩, 5)]
theorem lw_r1 : ∀ q ∈ lw_privs_1, lw_okq q := List.forall_mem_cons.mpr ⟨lw_p0, List.forall_mem_cons.mpr ⟨lw_p1, List.forall_mem_cons.mpr ⟨lw_p2, List.forall_mem_cons.mpr ⟨lw_p3, List.forall_mem_cons.mpr ⟨lw_p4, List.forall_mem_cons.mpr ⟨lw_p5, List.forall_mem_cons.mpr ⟨lw_p6, List.forall_mem_cons.mpr ⟨lw_p7, List.forall_mem_cons.mpr ⟨lw_p8, List.forall_mem_cons.mpr ⟨lw_p9, List.forall_mem_cons.mpr ⟨lw_p10, List.forall_mem_cons.mpr ⟨lw_p11, List.forall_mem_cons.mpr ⟨lw_p12, List.forall_mem_cons.mpr ⟨lw_p13, List.forall_mem_cons.mpr ⟨lw_p14, List.forall_mem_cons.mpr ⟨lw_p15, fun _ h => absurd h List.not_mem_nil⟩⟩⟩⟩⟩⟩⟩⟩⟩⟩⟩⟩⟩⟩⟩⟩
theorem lw_p16 : lw_okq (⟨"WellKnots$Way", "lengthen", "(LWellKnots$Road;)V"⟩, 5) := ⟨⟨by decide +kernel, by decide +kernel⟩, List.mem_of_getElem? (i := 168) (by decide +kernel), List.mem_of_getElem? (i := 666) (by decide +kernel), List.mem_of_getElem? (i := 667) (by decide +kernel)⟩
theorem lw_p17 : lw_okq (⟨"WellKnots", "markAsWell", "(I)I"⟩, 12) := ⟨⟨by decide +kernel, by decide +kernel⟩, List.mem_of_getElem? (i := 16) (by decide +kernel), List.mem_of_getElem? (i := 711) (by decide +kernel), List.mem_of_getElem? (i := 712) (by decide +kernel)⟩
theorem lw_p18 : lw_okq (⟨"WellKnots", "markAsKnot", "(I)I"⟩, 12) := ⟨⟨by decide +kernel, by decide +kernel⟩, List.mem_of_getElem? (i := 16) (by decide +kernel), List.mem_of_getElem? (i := 715) (by decide +kernel), List.mem_of_getElem? (i := 716) (by decide +kernel)⟩
theorem lw_p19 : lw_okq (⟨"WellKnots", "markAsDew", "(I)I"⟩, 12) := ⟨⟨by decide +kernel, by decide +kernel⟩, List.mem_of_getElem? (i := 16) (by decide +kernel), List.mem_of_getElem? (i := 724) (by decide +kernel), List.mem_of_getElem? (i := 725) (by decide +kernel)⟩
theorem lw_p20 : lw_okq (⟨"WellKnots", "markAsChild", "(I)I"⟩, 12) := ⟨⟨by decide +kernel, by decide +kernel⟩, List.mem_of_getElem? (i := 16) (by decide +kernel), List.mem_of_getElem? (i := 729) (by decide +kernel), List.mem_of_getElem? (i := 730) (by decide +kernel)⟩
theorem lw_p21 : lw_okq (⟨"WellKnots", "markAsCamel", "(I)I"⟩, 12) := ⟨⟨by decide +kernel, by decide +kernel⟩, List.mem_of_getElem? (i := 16) (by decide +kernel), List.mem_of_getElem? (i := 734) (by decide +kernel), List.mem_of_getElem? (i := 735) (by decide +kernel)⟩
theorem lw_p22 : lw_okq (⟨"WellKnots", "markAsMirage", "(I)I"⟩, 12) := ⟨⟨by decide +kernel, by decide +kernel⟩, List.mem_of_getElem? (i := 16) (by decide +kernel), List.mem_of_getElem? (i := 739) (by decide +kernel), List.mem_of_getElem? (i := 740) (by decide +kernel)⟩
theorem lw_p23 : lw_okq (⟨"WellKnots", "imageOf", "(I)LWellKnots$Ledger;"⟩, 12) := ⟨⟨by decide +kernel, by decide +kernel⟩, List.mem_of_getElem? (i := 16) (by decide +kernel), List.mem_of_getElem? (i := 748) (by decide +kernel), List.mem_of_getElem? (i := 749) (by decide +kernel)⟩
theorem lw_p24 : lw_okq (⟨"WellKnotsModel", "reads", "()Z"⟩, 21) := ⟨⟨by decide +kernel, by decide +kernel⟩, List.mem_of_getElem? (i := 769) (by decide +kernel), List.mem_of_getElem? (i := 775) (by decide +kernel), List.mem_of_getElem? (i := 776) (by decide +kernel)⟩
theorem lw_p25 : lw_okq (⟨"WellKnotsModel", "token", "()V"⟩, 21) := ⟨⟨by decide +kernel, by decide +kernel⟩, List.mem_of_getElem? (i := 769) (by decide +kernel), List.mem_of_getElem? (i := 779) (by decide +kernel), List.mem_of_getElem? (i := 780) (by decide +kernel)⟩
theorem lw_p26 : lw_okq (⟨"WellKnotsModel", "letterAt", "(I)I"⟩, 21) := ⟨⟨by decide +kernel, by decide +kernel⟩, List.mem_of_getElem? (i := 769) (by decide +kernel), List.mem_of_getElem? (i := 783) (by decide +kernel), List.mem_of_getElem? (i := 784) (by decide +kernel)⟩
theorem lw_p27 : lw_okq (⟨"WellKnotsModel", "readsItem", "()Z"⟩, 21) := ⟨⟨by decide +kernel, by decide +kernel⟩, List.mem_of_getElem? (i := 769) (by decide +kernel), List.mem_of_getElem? (i := 796) (by decide +kernel), List.mem_of_getElem? (i := 797) (by decide +kernel)⟩
theorem lw_p28 : lw_okq (⟨"WellKnotsModel", "number", "(II)Z"⟩, 21) := ⟨⟨by decide +kernel, by decide +kernel⟩, List.mem_of_getElem? (i := 769) (by decide +kernel), List.mem_of_getElem? (i := 800) (by decide +kernel), List.mem_of_getElem? (i := 801) (by decide +kernel)⟩
theorem lw_p29 : lw_okq (⟨"WellKnotsModel", "readsStage", "()Z"⟩, 21) := ⟨⟨by decide +kernel, by decide +kernel⟩, List.mem_of_getElem? (i := 769) (by decide +kernel), List.mem_of_getElem? (i := 804) (by decide +kernel), List.mem_of_getElem? (i := 805) (by decide +kernel)⟩
theorem lw_p30 : lw_okq (⟨"WellKnotsModel", "readsCaravan", "()Z"⟩, 21) := ⟨⟨by decide +kernel, by decide +kernel⟩, List.mem_of_getElem? (i := 769) (by decide +kernel), List.mem_of_getElem? (i := 808) (by decide +kernel), List.mem_of_getElem? (i := 809) (by decide +kernel)⟩
theorem lw_p31 : lw_okq (⟨"WellKnotsModel", "readsDebt", "(Z)Z"⟩, 21) := ⟨⟨by decide +kernel, by decide +kernel⟩, List.mem_of_getElem? (i := 769) (by decide +kernel), List.mem_of_getElem? (i := 812) (by decide +kernel), List.mem_of_getElem? (i := 813) (by decide +kernel)⟩
def lw_privs_2 : List (MethodName × Nat) := [(⟨"WellKnots$Way", "lengthen", "(LWellKnots$Road;)V"⟩, 5), (⟨"WellKnots", "markAsWell", "(I)I"⟩, 12), (⟨"WellKnots", "markAsKnot", "(I)I"⟩, 12), (⟨"WellKnots", "markAsDew", "(I)I"⟩, 12), (⟨"WellKnots", "markAsChild", "(I)I"⟩, 12), (⟨"WellKnots", "markAsCamel", "(I)I"⟩, 12), (⟨"WellKnots", "markAsMirage", "(I)I"⟩, 12), (⟨"WellKnots", "imageOf", "(I)LWellKnots$Ledger;"⟩, 12), (⟨"WellKnotsModel", "reads", "()Z"⟩, 21), (⟨"WellKnotsModel", "token", "()V"⟩, 21), (⟨"WellKnotsModel", "letterAt", "(I)I"⟩, 21), (⟨"WellKnotsModel", "readsItem", "()Z"⟩, 21), (⟨"WellKnotsModel", "number", "(II)Z"⟩, 21), (⟨"WellKnotsModel", "readsStage", "()Z"⟩, 21), (⟨"WellKnotsModel", "readsCaravan", "()Z"⟩, 21), (⟨"WellKnotsModel", "readsDebt", "(Z)Z"⟩, 21)]
theorem lw_r2 : ∀ q ∈ lw_privs_2, lw_okq q := List.forall_mem_cons.mpr ⟨lw_p16, List.forall_mem_cons.mpr ⟨lw_p17, List.forall_mem_cons.mpr ⟨lw_p18, List.forall_mem_cons.mpr ⟨lw_p19, List.forall_mem_cons.mpr ⟨lw_p20, List.forall_mem_cons.mpr ⟨lw_p21, List.forall_mem_cons.mpr ⟨lw_p22, List.forall_mem_cons.mpr ⟨lw_p23, List.forall_mem_cons.mpr ⟨lw_p24, List.forall_mem_cons.mpr ⟨lw_p25, List.forall_mem_cons.mpr ⟨lw_p26, List.forall_mem_cons.mpr ⟨lw_p27, List.forall_mem_cons.mpr ⟨lw_p28, List.forall_mem_cons.mpr ⟨lw_p29, List.forall_mem_cons.mpr ⟨lw_p30, List.forall_mem_cons.mpr ⟨lw_p31, fun _ h => absurd h List.not_mem_nil⟩⟩⟩⟩⟩⟩⟩⟩⟩⟩⟩⟩⟩⟩⟩⟩
theorem lw_p32 : lw_okq (⟨"WellKnotsModel", "begins", "()V"⟩, 21) := ⟨⟨by decide +kernel, by decide +kernel⟩, List.mem_of_getElem? (i := 769) (by decide +kernel), List.mem_of_getElem? (i := 816) (by decide +kernel), List.mem_of_getElem? (i := 817) (by decide +kernel)⟩
theorem lw_p33 : lw_okq (⟨"WellKnotsModel", "isStage", "(I)Z"⟩, 21) := ⟨⟨by decide +kernel, by decide +kernel⟩, List.mem_of_getElem? (i := 769) (by decide +kernel), List.mem_of_getElem? (i := 900) (by decide +kernel), List.mem_of_getElem? (i := 901) (by decide +kernel)⟩
theorem lw_p34 : lw_okq (⟨"WellKnotsModel", "isCaravan", "(I)Z"⟩, 21) := ⟨⟨by decide +kernel, by decide +kernel⟩, List.mem_of_getElem? (i := 769) (by decide +kernel), List.mem_of_getElem? (i := 908) (by decide +kernel), List.mem_of_getElem? (i := 909) (by decide +kernel)⟩
theorem lw_p35 : lw_okq (⟨"WellKnotsModel", "isAlive", "(I)Z"⟩, 21) := ⟨⟨by decide +kernel, by decide +kernel⟩, List.mem_of_getElem? (i := 769) (by decide +kernel), List.mem_of_getElem? (i := 912) (by decide +kernel), List.mem_of_getElem? (i := 913) (by decide +kernel)⟩
theorem lw_p36 : lw_okq (⟨"WellKnotsModel", "knotsOf", "(I)I"⟩, 21) := ⟨⟨by decide +kernel, by decide +kernel⟩, List.mem_of_getElem? (i := 769) (by decide +kernel), List.mem_of_getElem? (i := 919) (by decide +kernel), List.mem_of_getElem? (i := 920) (by decide +kernel)⟩
theorem lw_p37 : lw_okq (⟨"WellKnotsModel", "isWell", "(I)Z"⟩, 21) := ⟨⟨by decide +kernel, by decide +kernel⟩, List.mem_of_getElem? (i := 769) (by decide +kernel), List.mem_of_getElem? (i := 927) (by decide +kernel), List.mem_of_getElem? (i := 928) (by decide +kernel)⟩
theorem lw_p38 : lw_okq (⟨"WellKnotsModel", "knotsAt", "(I)I"⟩, 21) := ⟨⟨by decide +kernel, by decide +kernel⟩, List.mem_of_getElem? (i := 769) (by decide +kernel), List.mem_of_getElem? (i := 932) (by decide +kernel), List.mem_of_getElem? (i := 933) (by decide +kernel)⟩
theorem lw_p39 : lw_okq (⟨"WellKnotsModel", "duesOf", "(I)I"⟩, 21) := ⟨⟨by decide +kernel, by decide +kernel⟩, List.mem_of_getElem? (i := 769) (by decide +kernel), List.mem_of_getElem? (i := 936) (by decide +kernel), List.mem_of_getElem? (i := 937) (by decide +kernel)⟩
theorem lw_p40 : lw_okq (⟨"WellKnotsModel", "net", "(I)I"⟩, 21) := ⟨⟨by decide +kernel, by decide +kernel⟩, List.mem_of_getElem? (i := 769) (by decide +kernel), List.mem_of_getElem? (i := 940) (by decide +kernel), List.mem_of_getElem? (i := 941) (by decide +kernel)⟩
theorem lw_p41 : lw_okq (⟨"WellKnotsModel", "keeps", "()V"⟩, 21) := ⟨⟨by decide +kernel, by decide +kernel⟩, List.mem_of_getElem? (i := 769) (by decide +kernel), List.mem_of_getElem? (i := 956) (by decide +kernel), List.mem_of_getElem? (i := 957) (by decide +kernel)⟩
theorem lw_p42 : lw_okq (⟨"WellKnotsModel", "dies", "(I)V"⟩, 21) := ⟨⟨by decide +kernel, by decide +kernel⟩, List.mem_of_getElem? (i := 769) (by decide +kernel), List.mem_of_getElem? (i := 960) (by decide +kernel), List.mem_of_getElem? (i := 961) (by decide +kernel)⟩
theorem lw_p43 : lw_okq (⟨"WellKnotsModel", "paid", "(II)I"⟩, 21) := ⟨⟨by decide +kernel, by decide +kernel⟩, List.mem_of_getElem? (i := 769) (by decide +kernel), List.mem_of_getElem? (i := 964) (by decide +kernel), List.mem_of_getElem? (i := 965) (by decide +kernel)⟩
theorem lw_p44 : lw_okq (⟨"WellKnotsModel", "rings", "()V"⟩, 21) := ⟨⟨by decide +kernel, by decide +kernel⟩, List.mem_of_getElem? (i := 769) (by decide +kernel), List.mem_of_getElem? (i := 984) (by decide +kernel), List.mem_of_getElem? (i := 985) (by decide +kernel)⟩
theorem lw_p45 : lw_okq (⟨"WellKnotsModel", "mayWalk", "(II)Z"⟩, 21) := ⟨⟨by decide +kernel, by decide +kernel⟩, List.mem_of_getElem? (i := 769) (by decide +kernel), List.mem_of_getElem? (i := 988) (by decide +kernel), List.mem_of_getElem? (i := 989) (by decide +kernel)⟩
theorem lw_p46 : lw_okq (⟨"WellKnotsModel", "tries", "(I)V"⟩, 21) := ⟨⟨by decide +kernel, by decide +kernel⟩, List.mem_of_getElem? (i := 769) (by decide +kernel), List.mem_of_getElem? (i := 992) (by decide +kernel), List.mem_of_getElem? (i := 993) (by decide +kernel)⟩
theorem lw_p47 : lw_okq (⟨"WellKnotsModel", "strikeOf", "(I)I"⟩, 21) := ⟨⟨by decide +kernel, by decide +kernel⟩, List.mem_of_getElem? (i := 769) (by decide +kernel), List.mem_of_getElem? (i := 996) (by decide +kernel), List.mem_of_getElem? (i := 997) (by decide +kernel)⟩
def lw_privs_3 : List (MethodName × Nat) := [(⟨"WellKnotsModel", "begins", "()V"⟩, 21), (⟨"WellKnotsModel", "isStage", "(I)Z"⟩, 21), (⟨"WellKnotsModel", "isCaravan", "(I)Z"⟩, 21), (⟨"WellKnotsModel", "isAlive", "(I)Z"⟩, 21), (⟨"WellKnotsModel", "knotsOf", "(I)I"⟩, 21), (⟨"WellKnotsModel", "isWell", "(I)Z"⟩, 21), (⟨"WellKnotsModel", "knotsAt", "(I)I"⟩, 21), (⟨"WellKnotsModel", "duesOf", "(I)I"⟩, 21), (⟨"WellKnotsModel", "net", "(I)I"⟩, 21), (⟨"WellKnotsModel", "keeps", "()V"⟩, 21), (⟨"WellKnotsModel", "dies", "(I)V"⟩, 21), (⟨"WellKnotsModel", "paid", "(II)I"⟩, 21), (⟨"WellKnotsModel", "rings", "()V"⟩, 21), (⟨"WellKnotsModel", "mayWalk", "(II)Z"⟩, 21), (⟨"WellKnotsModel", "tries", "(I)V"⟩, 21), (⟨"WellKnotsModel", "strikeOf", "(I)I"⟩, 21)]
theorem lw_r3 : ∀ q ∈ lw_privs_3, lw_okq q := List.forall_mem_cons.mpr ⟨lw_p32, List.forall_mem_cons.mpr ⟨lw_p33, List.forall_mem_cons.mpr ⟨lw_p34, List.forall_mem_cons.mpr ⟨lw_p35, List.forall_mem_cons.mpr ⟨lw_p36, List.forall_mem_cons.mpr ⟨lw_p37, List.forall_mem_cons.mpr ⟨lw_p38, List.forall_mem_cons.mpr ⟨lw_p39, List.forall_mem_cons.mpr ⟨lw_p40, List.forall_mem_cons.mpr ⟨lw_p41, List.forall_mem_cons.mpr ⟨lw_p42, List.forall_mem_cons.mpr ⟨lw_p43, List.forall_mem_cons.mpr ⟨lw_p44, List.forall_mem_cons.mpr ⟨lw_p45, List.forall_mem_cons.mpr ⟨lw_p46, List.forall_mem_cons.mpr ⟨lw_p47, fun _ h => absurd h List.not_mem_nil⟩⟩⟩⟩⟩⟩⟩⟩⟩⟩⟩⟩⟩⟩⟩⟩
theorem lw_p48 : lw_okq (⟨"WellKnotsModel", "settle", "()I"⟩, 21) := ⟨⟨by decide +kernel, by decide +kernel⟩, List.mem_of_getElem? (i := 769) (by decide +kernel), List.mem_of_getElem? (i := 1008) (by decide +kernel), List.mem_of_getElem? (i := 1009) (by decide +kernel)⟩
theorem lw_p49 : lw_okq (⟨"WellKnotsModel", "netOf", "(I)I"⟩, 21) := ⟨⟨by decide +kernel, by decide +kernel⟩, List.mem_of_getElem? (i := 769) (by decide +kernel), List.mem_of_getElem? (i := 1012) (by decide +kernel), List.mem_of_getElem? (i := 1013) (by decide +kernel)⟩
theorem lw_p50 : lw_okq (⟨"WellKnotsModel", "salt", "()I"⟩, 21) := ⟨⟨by decide +kernel, by decide +kernel⟩, List.mem_of_getElem? (i := 769) (by decide +kernel), List.mem_of_getElem? (i := 1019) (by decide +kernel), List.mem_of_getElem? (i := 1020) (by decide +kernel)⟩
theorem lw_p51 : lw_okq (⟨"WellKnotsModel", "reckons", "(I)V"⟩, 21) := ⟨⟨by decide +kernel, by decide +kernel⟩, List.mem_of_getElem? (i := 769) (by decide +kernel), List.mem_of_getElem? (i := 1027) (by decide +kernel), List.mem_of_getElem? (i := 1028) (by decide +kernel)⟩
def lw_privs_4 : List (MethodName × Nat) := [(⟨"WellKnotsModel", "settle", "()I"⟩, 21), (⟨"WellKnotsModel", "netOf", "(I)I"⟩, 21), (⟨"WellKnotsModel", "salt", "()I"⟩, 21), (⟨"WellKnotsModel", "reckons", "(I)V"⟩, 21)]
theorem lw_r4 : ∀ q ∈ lw_privs_4, lw_okq q := List.forall_mem_cons.mpr ⟨lw_p48, List.forall_mem_cons.mpr ⟨lw_p49, List.forall_mem_cons.mpr ⟨lw_p50, List.forall_mem_cons.mpr ⟨lw_p51, fun _ h => absurd h List.not_mem_nil⟩⟩⟩⟩
def lw_privs : List (MethodName × Nat) := lw_privs_1 ++ (lw_privs_2 ++ (lw_privs_3 ++ (lw_privs_4)))
def lw_tbl : List Cond := k2_sels lw_privs ++ tables_1
theorem lw_privs_ok : ∀ q ∈ lw_privs, lw_okq q := by
  show ∀ q ∈ lw_privs_1 ++ (lw_privs_2 ++ (lw_privs_3 ++ (lw_privs_4))), lw_okq q
  exact List.forall_mem_append.mpr ⟨lw_r1, List.forall_mem_append.mpr ⟨lw_r2, List.forall_mem_append.mpr ⟨lw_r3, lw_r4⟩⟩⟩
end
section
def RX0 : String := "WellKnots$Hearsay"
def TX0 : u_T := fun k => match k with
  | 0 => ("WellKnots$Hearsay", "caravans", "[I", true)
  | 1 => ("WellKnots$Hearsay", "stones", "[I", true)
  | _ => ("WellKnots$Hearsay", "size", "I", false)
def tyX0 : Nat → FieldType := fun k => match k with
  | 0 => .array .int
  | 1 => .array .int
  | _ => .int
abbrev wsX00 : List Cond := u_ws RX0 TX0 3
theorem nmX0 : ∀ a, a < 3 → ∀ b, b < 3 → a ≠ b → (TX0 a).2.1 ≠ (TX0 b).2.1 := by decide +kernel
theorem tyX0_ok : ∀ k, k < 3 → parseFieldDescriptor (TX0 k).2.2.1 = some (tyX0 k) := by decide +kernel
abbrev cX0_init : ByteArray := prog_2_method_1_code
def yX0_init : MethodName := ⟨RX0, "<init>", "()V"⟩
abbrev cX0_append : ByteArray := prog_2_method_2_code
def yX0_append : MethodName := ⟨RX0, "append", "(II)Z"⟩
abbrev cX0_drop : ByteArray := prog_2_method_3_code
def yX0_drop : MethodName := ⟨RX0, "drop", "()I"⟩
abbrev cX0_sucked : ByteArray := prog_2_method_4_code
def yX0_sucked : MethodName := ⟨RX0, "sucked", "()I"⟩
abbrev cX0_liars : ByteArray := prog_2_method_5_code
def yX0_liars : MethodName := ⟨RX0, "liars", "()I"⟩
def RX1 : String := "WellKnots$Ledger"
def TX1 : u_T := fun k => match k with
  | 0 => ("WellKnots$Ledger", "now", "LWellKnots$Moment;", true)
  | 1 => ("WellKnots$Ledger", "past", "[I", true)
  | _ => ("WellKnots$Ledger", "undos", "I", false)
def tyX1 : Nat → FieldType := fun k => match k with
  | 0 => .object "WellKnots$Moment"
  | 1 => .array .int
  | _ => .int
abbrev wsX10 : List Cond := u_ws RX1 TX1 3
theorem nmX1 : ∀ a, a < 3 → ∀ b, b < 3 → a ≠ b → (TX1 a).2.1 ≠ (TX1 b).2.1 := by decide +kernel
theorem tyX1_ok : ∀ k, k < 3 → parseFieldDescriptor (TX1 k).2.2.1 = some (tyX1 k) := by decide +kernel
abbrev cX1_init : ByteArray := prog_3_method_1_code
def yX1_init : MethodName := ⟨RX1, "<init>", "()V"⟩
abbrev cX1_begin : ByteArray := prog_3_method_2_code
def yX1_begin : MethodName := ⟨RX1, "begin", "(LWellKnots$Moment;)V"⟩
abbrev cX1_remember : ByteArray := prog_3_method_3_code
def yX1_remember : MethodName := ⟨RX1, "remember", "()V"⟩
abbrev cX1_takeBack : ByteArray := prog_3_method_4_code
def yX1_takeBack : MethodName := ⟨RX1, "takeBack", "()Z"⟩
abbrev cX1_become : ByteArray := prog_3_method_5_code
def yX1_become : MethodName := ⟨RX1, "become", "(LWellKnots$Ledger;)V"⟩
def RX2 : String := "WellKnots$Moment"
def TX2 : u_T := fun k => match k with
  | _ => ("WellKnots$Moment", "row", "[I", true)
def tyX2 : Nat → FieldType := fun k => match k with
  | _ => .array .int
abbrev wsX20 : List Cond := u_ws RX2 TX2 1
theorem nmX2 : ∀ a, a < 1 → ∀ b, b < 1 → a ≠ b → (TX2 a).2.1 ≠ (TX2 b).2.1 := by decide +kernel
theorem tyX2_ok : ∀ k, k < 1 → parseFieldDescriptor (TX2 k).2.2.1 = some (tyX2 k) := by decide +kernel
abbrev cX2_init : ByteArray := prog_4_method_1_code
def yX2_init : MethodName := ⟨RX2, "<init>", "()V"⟩
abbrev cX2_wipe : ByteArray := prog_4_method_2_code
def yX2_wipe : MethodName := ⟨RX2, "wipe", "()V"⟩
abbrev cX2_become : ByteArray := prog_4_method_3_code
def yX2_become : MethodName := ⟨RX2, "become", "(LWellKnots$Moment;)V"⟩
abbrev cX2_writeTo : ByteArray := prog_4_method_4_code
def yX2_writeTo : MethodName := ⟨RX2, "writeTo", "([II)V"⟩
abbrev cX2_readFrom : ByteArray := prog_4_method_5_code
def yX2_readFrom : MethodName := ⟨RX2, "readFrom", "([II)V"⟩
abbrev cX2_sand : ByteArray := prog_4_method_6_code
def yX2_sand : MethodName := ⟨RX2, "sand", "()I"⟩
abbrev cX2_alive : ByteArray := prog_4_method_7_code
def yX2_alive : MethodName := ⟨RX2, "alive", "()I"⟩
abbrev cX2_isAlive : ByteArray := prog_4_method_8_code
def yX2_isAlive : MethodName := ⟨RX2, "isAlive", "(I)Z"⟩
abbrev cX2_wake : ByteArray := prog_4_method_9_code
def yX2_wake : MethodName := ⟨RX2, "wake", "(I)V"⟩
abbrev cX2_die : ByteArray := prog_4_method_10_code
def yX2_die : MethodName := ⟨RX2, "die", "(I)V"⟩
abbrev cX2_placeOf : ByteArray := prog_4_method_11_code
def yX2_placeOf : MethodName := ⟨RX2, "placeOf", "(I)I"⟩
abbrev cX2_setPlace : ByteArray := prog_4_method_12_code
def yX2_setPlace : MethodName := ⟨RX2, "setPlace", "(II)V"⟩
abbrev cX2_cupsOf : ByteArray := prog_4_method_13_code
def yX2_cupsOf : MethodName := ⟨RX2, "cupsOf", "(I)I"⟩
abbrev cX2_setCups : ByteArray := prog_4_method_14_code
def yX2_setCups : MethodName := ⟨RX2, "setCups", "(II)V"⟩
abbrev cX2_dryOf : ByteArray := prog_4_method_15_code
def yX2_dryOf : MethodName := ⟨RX2, "dryOf", "(I)I"⟩
abbrev cX2_setDry : ByteArray := prog_4_method_16_code
def yX2_setDry : MethodName := ⟨RX2, "setDry", "(II)V"⟩
abbrev cX2_knotsOf : ByteArray := prog_4_method_17_code
def yX2_knotsOf : MethodName := ⟨RX2, "knotsOf", "(II)I"⟩
abbrev cX2_setKnots : ByteArray := prog_4_method_18_code
def yX2_setKnots : MethodName := ⟨RX2, "setKnots", "(III)V"⟩
abbrev cX2_duesOf : ByteArray := prog_4_method_19_code
def yX2_duesOf : MethodName := ⟨RX2, "duesOf", "(II)I"⟩
abbrev cX2_setDues : ByteArray := prog_4_method_20_code
def yX2_setDues : MethodName := ⟨RX2, "setDues", "(III)V"⟩
abbrev cX2_knotsOfCaravan : ByteArray := prog_4_method_21_code
def yX2_knotsOfCaravan : MethodName := ⟨RX2, "knotsOfCaravan", "(I)I"⟩
abbrev cX2_knotsAtWell : ByteArray := prog_4_method_22_code
def yX2_knotsAtWell : MethodName := ⟨RX2, "knotsAtWell", "(I)I"⟩
abbrev cX2_allKnots : ByteArray := prog_4_method_23_code
def yX2_allKnots : MethodName := ⟨RX2, "allKnots", "()I"⟩
abbrev cX2_duesBy : ByteArray := prog_4_method_24_code
def yX2_duesBy : MethodName := ⟨RX2, "duesBy", "(I)I"⟩
abbrev cX2_duesTo : ByteArray := prog_4_method_25_code
def yX2_duesTo : MethodName := ⟨RX2, "duesTo", "(I)I"⟩
abbrev cX2_allDues : ByteArray := prog_4_method_26_code
def yX2_allDues : MethodName := ⟨RX2, "allDues", "()I"⟩
abbrev cX2_netOf : ByteArray := prog_4_method_27_code
def yX2_netOf : MethodName := ⟨RX2, "netOf", "(I)I"⟩
abbrev cX2_isCaravan : ByteArray := prog_4_method_28_code
def yX2_isCaravan : MethodName := ⟨RX2, "isCaravan", "(I)Z"⟩
abbrev cX2_isWell : ByteArray := prog_4_method_29_code
def yX2_isWell : MethodName := ⟨RX2, "isWell", "(I)Z"⟩
def RX3 : String := "WellKnots$Ring"
def TX3 : u_T := fun k => match k with
  | 0 => ("WellKnots$Ring", "ring", "[I", true)
  | 1 => ("WellKnots$Ring", "path", "[I", true)
  | 2 => ("WellKnots$Ring", "size", "I", false)
  | _ => ("WellKnots$Ring", "strike", "I", false)
def tyX3 : Nat → FieldType := fun k => match k with
  | 0 => .array .int
  | 1 => .array .int
  | 2 => .int
  | _ => .int
abbrev wsX30 : List Cond := u_ws RX3 TX3 4
theorem nmX3 : ∀ a, a < 4 → ∀ b, b < 4 → a ≠ b → (TX3 a).2.1 ≠ (TX3 b).2.1 := by decide +kernel
theorem tyX3_ok : ∀ k, k < 4 → parseFieldDescriptor (TX3 k).2.2.1 = some (tyX3 k) := by decide +kernel
abbrev cX3_init : ByteArray := prog_5_method_1_code
def yX3_init : MethodName := ⟨RX3, "<init>", "()V"⟩
abbrev cX3_wellAt : ByteArray := prog_5_method_2_code
def yX3_wellAt : MethodName := ⟨RX3, "wellAt", "(I)I"⟩
abbrev cX3_find : ByteArray := prog_5_method_3_code
def yX3_find : MethodName := ⟨RX3, "find", "(LWellKnots$Moment;I)V"⟩
abbrev cX3_walk : ByteArray := prog_5_method_4_code
def yX3_walk : MethodName := ⟨RX3, "walk", "(LWellKnots$Moment;IIII)V"⟩
abbrev cX3_offer : ByteArray := prog_5_method_5_code
def yX3_offer : MethodName := ⟨RX3, "offer", "(II)V"⟩
def RX4 : String := "WellKnots$Road"
def TX4 : u_T := fun k => match k with
  | 0 => ("WellKnots$Road", "wells", "I", false)
  | 1 => ("WellKnots$Road", "stages", "I", false)
  | 2 => ("WellKnots$Road", "caravans", "I", false)
  | 3 => ("WellKnots$Road", "refuses", "[Z", true)
  | 4 => ("WellKnots$Road", "firstEnds", "[I", true)
  | 5 => ("WellKnots$Road", "secondEnds", "[I", true)
  | 6 => ("WellKnots$Road", "heats", "[I", true)
  | 7 => ("WellKnots$Road", "nights", "[Z", true)
  | 8 => ("WellKnots$Road", "lenders", "[I", true)
  | 9 => ("WellKnots$Road", "bears", "[I", true)
  | 10 => ("WellKnots$Road", "start", "LWellKnots$Moment;", true)
  | _ => ("WellKnots$Road", "said", "[I", true)
def tyX4 : Nat → FieldType := fun k => match k with
  | 0 => .int
  | 1 => .int
  | 2 => .int
  | 3 => .array .boolean
  | 4 => .array .int
  | 5 => .array .int
  | 6 => .array .int
  | 7 => .array .boolean
  | 8 => .array .int
  | 9 => .array .int
  | 10 => .object "WellKnots$Moment"
  | _ => .array .int
abbrev wsX40 : List Cond := u_ws RX4 TX4 12
theorem nmX4 : ∀ a, a < 12 → ∀ b, b < 12 → a ≠ b → (TX4 a).2.1 ≠ (TX4 b).2.1 := by decide +kernel
theorem tyX4_ok : ∀ k, k < 12 → parseFieldDescriptor (TX4 k).2.2.1 = some (tyX4 k) := by decide +kernel
abbrev cX4_init : ByteArray := prog_6_method_1_code
def yX4_init : MethodName := ⟨RX4, "<init>", "()V"⟩
abbrev cX4_hasWell : ByteArray := prog_6_method_2_code
def yX4_hasWell : MethodName := ⟨RX4, "hasWell", "(I)Z"⟩
abbrev cX4_hasStage : ByteArray := prog_6_method_3_code
def yX4_hasStage : MethodName := ⟨RX4, "hasStage", "(I)Z"⟩
abbrev cX4_hasCaravan : ByteArray := prog_6_method_4_code
def yX4_hasCaravan : MethodName := ⟨RX4, "hasCaravan", "(I)Z"⟩
abbrev cX4_refusesNight : ByteArray := prog_6_method_5_code
def yX4_refusesNight : MethodName := ⟨RX4, "refusesNight", "(I)Z"⟩
abbrev cX4_firstEnd : ByteArray := prog_6_method_6_code
def yX4_firstEnd : MethodName := ⟨RX4, "firstEnd", "(I)I"⟩
abbrev cX4_secondEnd : ByteArray := prog_6_method_7_code
def yX4_secondEnd : MethodName := ⟨RX4, "secondEnd", "(I)I"⟩
abbrev cX4_heatOf : ByteArray := prog_6_method_8_code
def yX4_heatOf : MethodName := ⟨RX4, "heatOf", "(I)I"⟩
abbrev cX4_isByNight : ByteArray := prog_6_method_9_code
def yX4_isByNight : MethodName := ⟨RX4, "isByNight", "(I)Z"⟩
abbrev cX4_lenderOf : ByteArray := prog_6_method_10_code
def yX4_lenderOf : MethodName := ⟨RX4, "lenderOf", "(I)I"⟩
abbrev cX4_bearsOf : ByteArray := prog_6_method_11_code
def yX4_bearsOf : MethodName := ⟨RX4, "bearsOf", "(I)I"⟩
abbrev cX4_otherEnd : ByteArray := prog_6_method_12_code
def yX4_otherEnd : MethodName := ⟨RX4, "otherEnd", "(II)I"⟩
abbrev cX4_paidBy : ByteArray := prog_6_method_13_code
def yX4_paidBy : MethodName := ⟨RX4, "paidBy", "(II)I"⟩
abbrev cX4_stagesLentBy : ByteArray := prog_6_method_14_code
def yX4_stagesLentBy : MethodName := ⟨RX4, "stagesLentBy", "(I)I"⟩
abbrev cX4_salt : ByteArray := prog_6_method_15_code
def yX4_salt : MethodName := ⟨RX4, "salt", "()I"⟩
abbrev cX4_endsEachStage : ByteArray := prog_6_method_16_code
def yX4_endsEachStage : MethodName := ⟨RX4, "endsEachStage", "(I)Z"⟩
abbrev cX4_tellAll : ByteArray := prog_6_method_17_code
def yX4_tellAll : MethodName := ⟨RX4, "tellAll", "(LWellKnots$Text;)I"⟩
abbrev cX4_tellItem : ByteArray := prog_6_method_18_code
def yX4_tellItem : MethodName := ⟨RX4, "tellItem", "(LWellKnots$Text;)Z"⟩
abbrev cX4_tellWell : ByteArray := prog_6_method_19_code
def yX4_tellWell : MethodName := ⟨RX4, "tellWell", "(LWellKnots$Text;)Z"⟩
abbrev cX4_tellStage : ByteArray := prog_6_method_20_code
def yX4_tellStage : MethodName := ⟨RX4, "tellStage", "(LWellKnots$Text;)Z"⟩
abbrev cX4_tellCaravan : ByteArray := prog_6_method_21_code
def yX4_tellCaravan : MethodName := ⟨RX4, "tellCaravan", "(LWellKnots$Text;)Z"⟩
abbrev cX4_tellKnots : ByteArray := prog_6_method_22_code
def yX4_tellKnots : MethodName := ⟨RX4, "tellKnots", "(LWellKnots$Text;)Z"⟩
abbrev cX4_tellDues : ByteArray := prog_6_method_23_code
def yX4_tellDues : MethodName := ⟨RX4, "tellDues", "(LWellKnots$Text;)Z"⟩
abbrev cX4_hear : ByteArray := prog_6_method_24_code
def yX4_hear : MethodName := ⟨RX4, "hear", "(LWellKnots$Text;III)Z"⟩
abbrev cX4_hearStop : ByteArray := prog_6_method_25_code
def yX4_hearStop : MethodName := ⟨RX4, "hearStop", "(LWellKnots$Text;)Z"⟩
def RX5 : String := "WellKnots$Settling"
def TX5 : u_T := fun k => match k with
  | _ => ("WellKnots$Settling", "groups", "[I", true)
def tyX5 : Nat → FieldType := fun k => match k with
  | _ => .array .int
abbrev wsX50 : List Cond := u_ws RX5 TX5 1
theorem nmX5 : ∀ a, a < 1 → ∀ b, b < 1 → a ≠ b → (TX5 a).2.1 ≠ (TX5 b).2.1 := by decide +kernel
theorem tyX5_ok : ∀ k, k < 1 → parseFieldDescriptor (TX5 k).2.2.1 = some (tyX5 k) := by decide +kernel
abbrev cX5_init : ByteArray := prog_7_method_1_code
def yX5_init : MethodName := ⟨RX5, "<init>", "()V"⟩
abbrev cX5_fewestPayments : ByteArray := prog_7_method_2_code
def yX5_fewestPayments : MethodName := ⟨RX5, "fewestPayments", "(LWellKnots$Moment;I)I"⟩
def RX6 : String := "WellKnots$Text"
def TX6 : u_T := fun k => match k with
  | 0 => ("WellKnots$Text", "bytes", "[I", true)
  | 1 => ("WellKnots$Text", "length", "I", false)
  | 2 => ("WellKnots$Text", "next", "I", false)
  | 3 => ("WellKnots$Text", "kind", "I", false)
  | 4 => ("WellKnots$Text", "place", "I", false)
  | _ => ("WellKnots$Text", "value", "I", false)
def tyX6 : Nat → FieldType := fun k => match k with
  | 0 => .array .int
  | 1 => .int
  | 2 => .int
  | 3 => .int
  | 4 => .int
  | _ => .int
abbrev wsX60 : List Cond := u_ws RX6 TX6 6
theorem nmX6 : ∀ a, a < 6 → ∀ b, b < 6 → a ≠ b → (TX6 a).2.1 ≠ (TX6 b).2.1 := by decide +kernel
theorem tyX6_ok : ∀ k, k < 6 → parseFieldDescriptor (TX6 k).2.2.1 = some (tyX6 k) := by decide +kernel
abbrev cX6_init : ByteArray := prog_8_method_1_code
def yX6_init : MethodName := ⟨RX6, "<init>", "()V"⟩
abbrev cX6_append : ByteArray := prog_8_method_2_code
def yX6_append : MethodName := ⟨RX6, "append", "(I)Z"⟩
abbrev cX6_size : ByteArray := prog_8_method_3_code
def yX6_size : MethodName := ⟨RX6, "size", "()I"⟩
abbrev cX6_empty : ByteArray := prog_8_method_4_code
def yX6_empty : MethodName := ⟨RX6, "empty", "()I"⟩
abbrev cX6_rewind : ByteArray := prog_8_method_5_code
def yX6_rewind : MethodName := ⟨RX6, "rewind", "()V"⟩
abbrev cX6_tokenKind : ByteArray := prog_8_method_6_code
def yX6_tokenKind : MethodName := ⟨RX6, "tokenKind", "()I"⟩
abbrev cX6_tokenPlace : ByteArray := prog_8_method_7_code
def yX6_tokenPlace : MethodName := ⟨RX6, "tokenPlace", "()I"⟩
abbrev cX6_tokenValue : ByteArray := prog_8_method_8_code
def yX6_tokenValue : MethodName := ⟨RX6, "tokenValue", "()I"⟩
abbrev cX6_scan : ByteArray := prog_8_method_9_code
def yX6_scan : MethodName := ⟨RX6, "scan", "()V"⟩
abbrev cX6_readNumber : ByteArray := prog_8_method_10_code
def yX6_readNumber : MethodName := ⟨RX6, "readNumber", "(Z)V"⟩
abbrev cX6_endOfRow : ByteArray := prog_8_method_11_code
def yX6_endOfRow : MethodName := ⟨RX6, "endOfRow", "(III)I"⟩
def RX7 : String := "WellKnots$Way"
def TX7 : u_T := fun k => match k with
  | 0 => ("WellKnots$Way", "heats", "[I", true)
  | 1 => ("WellKnots$Way", "longer", "[I", true)
  | 2 => ("WellKnots$Way", "length", "I", false)
  | 3 => ("WellKnots$Way", "firstStage", "I", false)
  | _ => ("WellKnots$Way", "firstCups", "I", false)
def tyX7 : Nat → FieldType := fun k => match k with
  | 0 => .array .int
  | 1 => .array .int
  | 2 => .int
  | 3 => .int
  | _ => .int
abbrev wsX70 : List Cond := u_ws RX7 TX7 5
theorem nmX7 : ∀ a, a < 5 → ∀ b, b < 5 → a ≠ b → (TX7 a).2.1 ≠ (TX7 b).2.1 := by decide +kernel
theorem tyX7_ok : ∀ k, k < 5 → parseFieldDescriptor (TX7 k).2.2.1 = some (tyX7 k) := by decide +kernel
abbrev cX7_init : ByteArray := prog_9_method_1_code
def yX7_init : MethodName := ⟨RX7, "<init>", "()V"⟩
abbrev cX7_find : ByteArray := prog_9_method_2_code
def yX7_find : MethodName := ⟨RX7, "find", "(LWellKnots$Road;LWellKnots$Moment;II)V"⟩
abbrev cX7_firstOnto : ByteArray := prog_9_method_3_code
def yX7_firstOnto : MethodName := ⟨RX7, "firstOnto", "(LWellKnots$Road;II)I"⟩
abbrev cX7_lengthen : ByteArray := prog_9_method_4_code
def yX7_lengthen : MethodName := ⟨RX7, "lengthen", "(LWellKnots$Road;)V"⟩
abbrev cX7_heatOver : ByteArray := prog_9_method_5_code
def yX7_heatOver : MethodName := ⟨RX7, "heatOver", "(LWellKnots$Road;II)I"⟩
def RX8 : String := "WellKnots"
def TX8 : u_T := fun k => match k with
  | 0 => ("WellKnots", "text", "LWellKnots$Text;", true)
  | 1 => ("WellKnots", "told", "LWellKnots$Road;", false)
  | 2 => ("WellKnots", "draft", "LWellKnots$Road;", false)
  | 3 => ("WellKnots", "ledger", "LWellKnots$Ledger;", true)
  | 4 => ("WellKnots", "imageZero", "LWellKnots$Ledger;", true)
  | 5 => ("WellKnots", "imageOne", "LWellKnots$Ledger;", true)
  | 6 => ("WellKnots", "keptImages", "I", false)
  | 7 => ("WellKnots", "hearsay", "LWellKnots$Hearsay;", true)
  | 8 => ("WellKnots", "best", "LWellKnots$Ring;", true)
  | 9 => ("WellKnots", "way", "LWellKnots$Way;", true)
  | 10 => ("WellKnots", "settling", "LWellKnots$Settling;", true)
  | _ => ("WellKnots", "traced", "J", false)
def tyX8 : Nat → FieldType := fun k => match k with
  | 0 => .object "WellKnots$Text"
  | 1 => .object "WellKnots$Road"
  | 2 => .object "WellKnots$Road"
  | 3 => .object "WellKnots$Ledger"
  | 4 => .object "WellKnots$Ledger"
  | 5 => .object "WellKnots$Ledger"
  | 6 => .int
  | 7 => .object "WellKnots$Hearsay"
  | 8 => .object "WellKnots$Ring"
  | 9 => .object "WellKnots$Way"
  | 10 => .object "WellKnots$Settling"
  | _ => .long
abbrev wsX80 : List Cond := u_ws RX8 TX8 12
theorem nmX8 : ∀ a, a < 12 → ∀ b, b < 12 → a ≠ b → (TX8 a).2.1 ≠ (TX8 b).2.1 := by decide +kernel
theorem tyX8_ok : ∀ k, k < 12 → parseFieldDescriptor (TX8 k).2.2.1 = some (tyX8 k) := by decide +kernel
abbrev cX8_init : ByteArray := prog_1_method_1_code
def yX8_init : MethodName := ⟨RX8, "<init>", "()V"⟩
abbrev cX8_type : ByteArray := prog_1_method_2_code
def yX8_type : MethodName := ⟨RX8, "type", "(I)I"⟩
abbrev cX8_clear : ByteArray := prog_1_method_3_code
def yX8_clear : MethodName := ⟨RX8, "clear", "()I"⟩
abbrev cX8_road : ByteArray := prog_1_method_4_code
def yX8_road : MethodName := ⟨RX8, "road", "()I"⟩
abbrev cX8_stage : ByteArray := prog_1_method_5_code
def yX8_stage : MethodName := ⟨RX8, "stage", "(II)I"⟩
abbrev cX8_caravan : ByteArray := prog_1_method_6_code
def yX8_caravan : MethodName := ⟨RX8, "caravan", "(II)I"⟩
abbrev cX8_well : ByteArray := prog_1_method_7_code
def yX8_well : MethodName := ⟨RX8, "well", "(II)I"⟩
abbrev cX8_knots : ByteArray := prog_1_method_8_code
def yX8_knots : MethodName := ⟨RX8, "knots", "(II)I"⟩
abbrev cX8_dues : ByteArray := prog_1_method_9_code
def yX8_dues : MethodName := ⟨RX8, "dues", "(II)I"⟩
abbrev cX8_goes : ByteArray := prog_1_method_10_code
def yX8_goes : MethodName := ⟨RX8, "goes", "(III)I"⟩
abbrev cX8_drinks : ByteArray := prog_1_method_11_code
def yX8_drinks : MethodName := ⟨RX8, "drinks", "(II)I"⟩
abbrev cX8_fills : ByteArray := prog_1_method_12_code
def yX8_fills : MethodName := ⟨RX8, "fills", "(II)I"⟩
abbrev cX8_hands : ByteArray := prog_1_method_13_code
def yX8_hands : MethodName := ⟨RX8, "hands", "(IIII)I"⟩
abbrev cX8_strikes : ByteArray := prog_1_method_14_code
def yX8_strikes : MethodName := ⟨RX8, "strikes", "()I"⟩
abbrev cX8_undo : ByteArray := prog_1_method_15_code
def yX8_undo : MethodName := ⟨RX8, "undo", "()I"⟩
abbrev cX8_now : ByteArray := prog_1_method_16_code
def yX8_now : MethodName := ⟨RX8, "now", "(I)I"⟩
abbrev cX8_pass : ByteArray := prog_1_method_17_code
def yX8_pass : MethodName := ⟨RX8, "pass", "(III)I"⟩
abbrev cX8_ring : ByteArray := prog_1_method_18_code
def yX8_ring : MethodName := ⟨RX8, "ring", "(I)I"⟩
abbrev cX8_safe : ByteArray := prog_1_method_19_code
def yX8_safe : MethodName := ⟨RX8, "safe", "(IIIIII)I"⟩
abbrev cX8_hears : ByteArray := prog_1_method_20_code
def yX8_hears : MethodName := ⟨RX8, "hears", "(IIII)I"⟩
abbrev cX8_forget : ByteArray := prog_1_method_21_code
def yX8_forget : MethodName := ⟨RX8, "forget", "()I"⟩
abbrev cX8_stones : ByteArray := prog_1_method_22_code
def yX8_stones : MethodName := ⟨RX8, "stones", "(I)I"⟩
abbrev cX8_mark : ByteArray := prog_1_method_23_code
def yX8_mark : MethodName := ⟨RX8, "mark", "(II)I"⟩
abbrev cX8_keep : ByteArray := prog_1_method_24_code
def yX8_keep : MethodName := ⟨RX8, "keep", "(I)I"⟩
abbrev cX8_back : ByteArray := prog_1_method_25_code
def yX8_back : MethodName := ⟨RX8, "back", "(I)I"⟩
abbrev cX8_count : ByteArray := prog_1_method_26_code
def yX8_count : MethodName := ⟨RX8, "count", "(I)I"⟩
abbrev cX8_trace : ByteArray := prog_1_method_27_code
def yX8_trace : MethodName := ⟨RX8, "trace", "()J"⟩
abbrev cX8_within : ByteArray := prog_1_method_28_code
def yX8_within : MethodName := ⟨RX8, "within", "(III)Z"⟩
abbrev cX8_hasBit : ByteArray := prog_1_method_29_code
def yX8_hasBit : MethodName := ⟨RX8, "hasBit", "(II)Z"⟩
abbrev cX8_canBorrow : ByteArray := prog_1_method_30_code
def yX8_canBorrow : MethodName := ⟨RX8, "canBorrow", "(II)Z"⟩
abbrev cX8_borrow : ByteArray := prog_1_method_31_code
def yX8_borrow : MethodName := ⟨RX8, "borrow", "(II)I"⟩
abbrev cX8_chancesAlive : ByteArray := prog_1_method_32_code
def yX8_chancesAlive : MethodName := ⟨RX8, "chancesAlive", "(IIIII)I"⟩
abbrev cX8_markAsWell : ByteArray := prog_1_method_33_code
def yX8_markAsWell : MethodName := ⟨RX8, "markAsWell", "(I)I"⟩
abbrev cX8_markAsKnot : ByteArray := prog_1_method_34_code
def yX8_markAsKnot : MethodName := ⟨RX8, "markAsKnot", "(I)I"⟩
abbrev cX8_markAsDew : ByteArray := prog_1_method_35_code
def yX8_markAsDew : MethodName := ⟨RX8, "markAsDew", "(I)I"⟩
abbrev cX8_markAsChild : ByteArray := prog_1_method_36_code
def yX8_markAsChild : MethodName := ⟨RX8, "markAsChild", "(I)I"⟩
abbrev cX8_markAsCamel : ByteArray := prog_1_method_37_code
def yX8_markAsCamel : MethodName := ⟨RX8, "markAsCamel", "(I)I"⟩
abbrev cX8_markAsMirage : ByteArray := prog_1_method_38_code
def yX8_markAsMirage : MethodName := ⟨RX8, "markAsMirage", "(I)I"⟩
abbrev cX8_imageOf : ByteArray := prog_1_method_39_code
def yX8_imageOf : MethodName := ⟨RX8, "imageOf", "(I)LWellKnots$Ledger;"⟩
def RX9 : String := "WellKnotsModel"
def TX9 : u_T := fun k => match k with
  | 0 => ("WellKnotsModel", "trace", "J", false)
  | 1 => ("WellKnotsModel", "text", "[I", true)
  | 2 => ("WellKnotsModel", "typed", "I", false)
  | 3 => ("WellKnotsModel", "told", "[I", true)
  | 4 => ("WellKnotsModel", "draft", "[I", true)
  | 5 => ("WellKnotsModel", "begun", "[I", true)
  | 6 => ("WellKnotsModel", "s", "[I", true)
  | 7 => ("WellKnotsModel", "images", "[I", true)
  | 8 => ("WellKnotsModel", "kept", "[Z", true)
  | 9 => ("WellKnotsModel", "notes", "[I", true)
  | 10 => ("WellKnotsModel", "noted", "I", false)
  | 11 => ("WellKnotsModel", "at", "I", false)
  | 12 => ("WellKnotsModel", "sort", "I", false)
  | 13 => ("WellKnotsModel", "start", "I", false)
  | 14 => ("WellKnotsModel", "value", "I", false)
  | 15 => ("WellKnotsModel", "walk", "[I", true)
  | 16 => ("WellKnotsModel", "best", "[I", true)
  | 17 => ("WellKnotsModel", "bestMany", "I", false)
  | 18 => ("WellKnotsModel", "bestStrike", "I", false)
  | 19 => ("WellKnotsModel", "parts", "[I", true)
  | _ => ("WellKnotsModel", "heats", "[I", true)
def tyX9 : Nat → FieldType := fun k => match k with
  | 0 => .long
  | 1 => .array .int
  | 2 => .int
  | 3 => .array .int
  | 4 => .array .int
  | 5 => .array .int
  | 6 => .array .int
  | 7 => .array .int
  | 8 => .array .boolean
  | 9 => .array .int
  | 10 => .int
  | 11 => .int
  | 12 => .int
  | 13 => .int
  | 14 => .int
  | 15 => .array .int
  | 16 => .array .int
  | 17 => .int
  | 18 => .int
  | 19 => .array .int
  | _ => .array .int
abbrev wsX90 : List Cond := u_ws RX9 TX9 21
theorem nmX9 : ∀ a, a < 21 → ∀ b, b < 21 → a ≠ b → (TX9 a).2.1 ≠ (TX9 b).2.1 := by decide +kernel
theorem tyX9_ok : ∀ k, k < 21 → parseFieldDescriptor (TX9 k).2.2.1 = some (tyX9 k) := by decide +kernel
abbrev cX9_init : ByteArray := prog_11_method_1_code
def yX9_init : MethodName := ⟨RX9, "<init>", "()V"⟩
abbrev cX9_in : ByteArray := prog_11_method_3_code
def yX9_in : MethodName := ⟨RX9, "in", "(III)Z"⟩
abbrev cX9_has : ByteArray := prog_11_method_4_code
def yX9_has : MethodName := ⟨RX9, "has", "(II)Z"⟩
abbrev cX9_ones : ByteArray := prog_11_method_5_code
def yX9_ones : MethodName := ⟨RX9, "ones", "(I)I"⟩
abbrev cX9_isWell : ByteArray := prog_11_method_6_code
def yX9_isWell : MethodName := ⟨RX9, "isWell", "(I)Z"⟩
abbrev cX9_isStage : ByteArray := prog_11_method_7_code
def yX9_isStage : MethodName := ⟨RX9, "isStage", "(I)Z"⟩
abbrev cX9_isCaravan : ByteArray := prog_11_method_8_code
def yX9_isCaravan : MethodName := ⟨RX9, "isCaravan", "(I)Z"⟩
abbrev cX9_type : ByteArray := prog_11_method_9_code
def yX9_type : MethodName := ⟨RX9, "type", "(I)I"⟩
abbrev cX9_clear : ByteArray := prog_11_method_10_code
def yX9_clear : MethodName := ⟨RX9, "clear", "()I"⟩
abbrev cX9_letterAt : ByteArray := prog_11_method_11_code
def yX9_letterAt : MethodName := ⟨RX9, "letterAt", "(I)I"⟩
abbrev cX9_isLetter : ByteArray := prog_11_method_12_code
def yX9_isLetter : MethodName := ⟨RX9, "isLetter", "(I)Z"⟩
abbrev cX9_isDigit : ByteArray := prog_11_method_13_code
def yX9_isDigit : MethodName := ⟨RX9, "isDigit", "(I)Z"⟩
abbrev cX9_token : ByteArray := prog_11_method_14_code
def yX9_token : MethodName := ⟨RX9, "token", "()V"⟩
abbrev cX9_number : ByteArray := prog_11_method_15_code
def yX9_number : MethodName := ⟨RX9, "number", "(II)Z"⟩
abbrev cX9_readsStage : ByteArray := prog_11_method_16_code
def yX9_readsStage : MethodName := ⟨RX9, "readsStage", "()Z"⟩
abbrev cX9_readsCaravan : ByteArray := prog_11_method_17_code
def yX9_readsCaravan : MethodName := ⟨RX9, "readsCaravan", "()Z"⟩
abbrev cX9_readsDebt : ByteArray := prog_11_method_18_code
def yX9_readsDebt : MethodName := ⟨RX9, "readsDebt", "(Z)Z"⟩
abbrev cX9_readsItem : ByteArray := prog_11_method_19_code
def yX9_readsItem : MethodName := ⟨RX9, "readsItem", "()Z"⟩
abbrev cX9_reads : ByteArray := prog_11_method_20_code
def yX9_reads : MethodName := ⟨RX9, "reads", "()Z"⟩
abbrev cX9_begins : ByteArray := prog_11_method_21_code
def yX9_begins : MethodName := ⟨RX9, "begins", "()V"⟩
abbrev cX9_road : ByteArray := prog_11_method_22_code
def yX9_road : MethodName := ⟨RX9, "road", "()I"⟩
abbrev cX9_stage : ByteArray := prog_11_method_23_code
def yX9_stage : MethodName := ⟨RX9, "stage", "(II)I"⟩
abbrev cX9_isAlive : ByteArray := prog_11_method_24_code
def yX9_isAlive : MethodName := ⟨RX9, "isAlive", "(I)Z"⟩
abbrev cX9_knotsOf : ByteArray := prog_11_method_25_code
def yX9_knotsOf : MethodName := ⟨RX9, "knotsOf", "(I)I"⟩
abbrev cX9_caravan : ByteArray := prog_11_method_26_code
def yX9_caravan : MethodName := ⟨RX9, "caravan", "(II)I"⟩
abbrev cX9_knotsAt : ByteArray := prog_11_method_27_code
def yX9_knotsAt : MethodName := ⟨RX9, "knotsAt", "(I)I"⟩
abbrev cX9_duesOf : ByteArray := prog_11_method_28_code
def yX9_duesOf : MethodName := ⟨RX9, "duesOf", "(I)I"⟩
abbrev cX9_net : ByteArray := prog_11_method_29_code
def yX9_net : MethodName := ⟨RX9, "net", "(I)I"⟩
abbrev cX9_well : ByteArray := prog_11_method_30_code
def yX9_well : MethodName := ⟨RX9, "well", "(II)I"⟩
abbrev cX9_knots : ByteArray := prog_11_method_31_code
def yX9_knots : MethodName := ⟨RX9, "knots", "(II)I"⟩
abbrev cX9_dues : ByteArray := prog_11_method_32_code
def yX9_dues : MethodName := ⟨RX9, "dues", "(II)I"⟩
abbrev cX9_keeps : ByteArray := prog_11_method_33_code
def yX9_keeps : MethodName := ⟨RX9, "keeps", "()V"⟩
abbrev cX9_paid : ByteArray := prog_11_method_34_code
def yX9_paid : MethodName := ⟨RX9, "paid", "(II)I"⟩
abbrev cX9_dies : ByteArray := prog_11_method_35_code
def yX9_dies : MethodName := ⟨RX9, "dies", "(I)V"⟩
abbrev cX9_goes : ByteArray := prog_11_method_36_code
def yX9_goes : MethodName := ⟨RX9, "goes", "(III)I"⟩
abbrev cX9_drinks : ByteArray := prog_11_method_37_code
def yX9_drinks : MethodName := ⟨RX9, "drinks", "(II)I"⟩
abbrev cX9_fills : ByteArray := prog_11_method_38_code
def yX9_fills : MethodName := ⟨RX9, "fills", "(II)I"⟩
abbrev cX9_hands : ByteArray := prog_11_method_39_code
def yX9_hands : MethodName := ⟨RX9, "hands", "(IIII)I"⟩
abbrev cX9_strikeOf : ByteArray := prog_11_method_40_code
def yX9_strikeOf : MethodName := ⟨RX9, "strikeOf", "(I)I"⟩
abbrev cX9_tries : ByteArray := prog_11_method_41_code
def yX9_tries : MethodName := ⟨RX9, "tries", "(I)V"⟩
abbrev cX9_mayWalk : ByteArray := prog_11_method_42_code
def yX9_mayWalk : MethodName := ⟨RX9, "mayWalk", "(II)Z"⟩
abbrev cX9_rings : ByteArray := prog_11_method_43_code
def yX9_rings : MethodName := ⟨RX9, "rings", "()V"⟩
abbrev cX9_strikes : ByteArray := prog_11_method_44_code
def yX9_strikes : MethodName := ⟨RX9, "strikes", "()I"⟩
abbrev cX9_undo : ByteArray := prog_11_method_45_code
def yX9_undo : MethodName := ⟨RX9, "undo", "()I"⟩
abbrev cX9_netOf : ByteArray := prog_11_method_46_code
def yX9_netOf : MethodName := ⟨RX9, "netOf", "(I)I"⟩
abbrev cX9_settle : ByteArray := prog_11_method_47_code
def yX9_settle : MethodName := ⟨RX9, "settle", "()I"⟩
abbrev cX9_salt : ByteArray := prog_11_method_48_code
def yX9_salt : MethodName := ⟨RX9, "salt", "()I"⟩
abbrev cX9_now : ByteArray := prog_11_method_49_code
def yX9_now : MethodName := ⟨RX9, "now", "(I)I"⟩
abbrev cX9_reckons : ByteArray := prog_11_method_50_code
def yX9_reckons : MethodName := ⟨RX9, "reckons", "(I)V"⟩
abbrev cX9_pass : ByteArray := prog_11_method_51_code
def yX9_pass : MethodName := ⟨RX9, "pass", "(III)I"⟩
abbrev cX9_ring : ByteArray := prog_11_method_52_code
def yX9_ring : MethodName := ⟨RX9, "ring", "(I)I"⟩
abbrev cX9_safe : ByteArray := prog_11_method_53_code
def yX9_safe : MethodName := ⟨RX9, "safe", "(IIIIII)I"⟩
abbrev cX9_hears : ByteArray := prog_11_method_54_code
def yX9_hears : MethodName := ⟨RX9, "hears", "(IIII)I"⟩
abbrev cX9_forget : ByteArray := prog_11_method_55_code
def yX9_forget : MethodName := ⟨RX9, "forget", "()I"⟩
abbrev cX9_stones : ByteArray := prog_11_method_56_code
def yX9_stones : MethodName := ⟨RX9, "stones", "(I)I"⟩
abbrev cX9_mark : ByteArray := prog_11_method_57_code
def yX9_mark : MethodName := ⟨RX9, "mark", "(II)I"⟩
abbrev cX9_keep : ByteArray := prog_11_method_58_code
def yX9_keep : MethodName := ⟨RX9, "keep", "(I)I"⟩
abbrev cX9_back : ByteArray := prog_11_method_59_code
def yX9_back : MethodName := ⟨RX9, "back", "(I)I"⟩
abbrev cX9_count : ByteArray := prog_11_method_60_code
def yX9_count : MethodName := ⟨RX9, "count", "(I)I"⟩
abbrev cX9_trace : ByteArray := prog_11_method_61_code
def yX9_trace : MethodName := ⟨RX9, "trace", "()J"⟩
def RJ6 : String := "java/lang/Integer"
def TJ6 : u_T := fun k => match k with
  | _ => ("", "", "", false)
def tyJ6 : Nat → FieldType := fun k => match k with
  | _ => .int
abbrev wsJ60 : List Cond := u_ws RJ6 TJ6 0
theorem nmJ6 : ∀ a, a < 0 → ∀ b, b < 0 → a ≠ b → (TJ6 a).2.1 ≠ (TJ6 b).2.1 := by decide +kernel
theorem tyJ6_ok : ∀ k, k < 0 → parseFieldDescriptor (TJ6 k).2.2.1 = some (tyJ6 k) := by decide +kernel
abbrev cJ6_bitCount_0f7a4 : ByteArray := prog_12_method_49_code
def yJ6_bitCount_0f7a4 : MethodName := ⟨RJ6, "bitCount", "(I)I"⟩
def RJ9 : String := "java/lang/Math"
def TJ9 : u_T := fun k => match k with
  | _ => ("", "", "", false)
def tyJ9 : Nat → FieldType := fun k => match k with
  | _ => .int
abbrev wsJ90 : List Cond := u_ws RJ9 TJ9 0
theorem nmJ9 : ∀ a, a < 0 → ∀ b, b < 0 → a ≠ b → (TJ9 a).2.1 ≠ (TJ9 b).2.1 := by decide +kernel
theorem tyJ9_ok : ∀ k, k < 0 → parseFieldDescriptor (TJ9 k).2.2.1 = some (tyJ9 k) := by decide +kernel
abbrev cJ9_max_7cf53 : ByteArray := prog_13_method_65_code
def yJ9_max_7cf53 : MethodName := ⟨RJ9, "max", "(II)I"⟩
abbrev cJ9_min_7cf53 : ByteArray := prog_13_method_69_code
def yJ9_min_7cf53 : MethodName := ⟨RJ9, "min", "(II)I"⟩
def RJ10 : String := "java/lang/System"
def TJ10 : u_T := fun k => match k with
  | _ => ("", "", "", false)
def tyJ10 : Nat → FieldType := fun k => match k with
  | _ => .int
abbrev wsJ100 : List Cond := u_ws RJ10 TJ10 0
theorem nmJ10 : ∀ a, a < 0 → ∀ b, b < 0 → a ≠ b → (TJ10 a).2.1 ≠ (TJ10 b).2.1 := by decide +kernel
theorem tyJ10_ok : ∀ k, k < 0 → parseFieldDescriptor (TJ10 k).2.2.1 = some (tyJ10 k) := by decide +kernel
def RJ7 : String := "java/util/Arrays"
def TJ7 : u_T := fun k => match k with
  | _ => ("", "", "", false)
def tyJ7 : Nat → FieldType := fun k => match k with
  | _ => .int
abbrev wsJ70 : List Cond := u_ws RJ7 TJ7 0
theorem nmJ7 : ∀ a, a < 0 → ∀ b, b < 0 → a ≠ b → (TJ7 a).2.1 ≠ (TJ7 b).2.1 := by decide +kernel
theorem tyJ7_ok : ∀ k, k < 0 → parseFieldDescriptor (TJ7 k).2.2.1 = some (tyJ7 k) := by decide +kernel
abbrev cJ7_fill_53178 : ByteArray := prog_15_method_103_code
def yJ7_fill_53178 : MethodName := ⟨RJ7, "fill", "([II)V"⟩
def RL : String := "WellKnotsLaw"
abbrev cL_law : ByteArray := code
def yL_law : MethodName := ⟨RL, "law", "([I)Z"⟩
end
section
theorem dX0_init_0 : decode cX0_init 0 = .ok (.aload_n 0, 1) := by decide +kernel
theorem dX0_init_1 : decode cX0_init 1 = .ok (.invokespecial 3, 3) := by decide +kernel
theorem dX0_init_4 : decode cX0_init 4 = .ok (.aload_n 0, 1) := by decide +kernel
theorem dX0_init_5 : decode cX0_init 5 = .ok (.bipush 6, 2) := by decide +kernel
theorem dX0_init_7 : decode cX0_init 7 = .ok (.newarray .int, 2) := by decide +kernel
theorem dX0_init_9 : decode cX0_init 9 = .ok (.putfield 9, 3) := by decide +kernel
theorem dX0_init_12 : decode cX0_init 12 = .ok (.aload_n 0, 1) := by decide +kernel
theorem dX0_init_13 : decode cX0_init 13 = .ok (.bipush 6, 2) := by decide +kernel
theorem dX0_init_15 : decode cX0_init 15 = .ok (.newarray .int, 2) := by decide +kernel
theorem dX0_init_17 : decode cX0_init 17 = .ok (.putfield 15, 3) := by decide +kernel
theorem dX0_init_20 : decode cX0_init 20 = .ok (.return_, 1) := by decide +kernel
theorem dX0_append_0 : decode cX0_append 0 = .ok (.aload_n 0, 1) := by decide +kernel
theorem dX0_append_1 : decode cX0_append 1 = .ok (.getfield 18, 3) := by decide +kernel
theorem dX0_append_4 : decode cX0_append 4 = .ok (.bipush 6, 2) := by decide +kernel
theorem dX0_append_6 : decode cX0_append 6 = .ok (.if_icmp .lt 5, 3) := by decide +kernel
theorem dX0_append_9 : decode cX0_append 9 = .ok (.iconst 0, 1) := by decide +kernel
theorem dX0_append_10 : decode cX0_append 10 = .ok (.ireturn, 1) := by decide +kernel
theorem dX0_append_11 : decode cX0_append 11 = .ok (.aload_n 0, 1) := by decide +kernel
theorem dX0_append_12 : decode cX0_append 12 = .ok (.getfield 9, 3) := by decide +kernel
theorem dX0_append_15 : decode cX0_append 15 = .ok (.aload_n 0, 1) := by decide +kernel
theorem dX0_append_16 : decode cX0_append 16 = .ok (.getfield 18, 3) := by decide +kernel
theorem dX0_append_19 : decode cX0_append 19 = .ok (.iload_n 1, 1) := by decide +kernel
theorem dX0_append_20 : decode cX0_append 20 = .ok (.iastore, 1) := by decide +kernel
theorem dX0_append_21 : decode cX0_append 21 = .ok (.aload_n 0, 1) := by decide +kernel
theorem dX0_append_22 : decode cX0_append 22 = .ok (.getfield 15, 3) := by decide +kernel
theorem dX0_append_25 : decode cX0_append 25 = .ok (.aload_n 0, 1) := by decide +kernel
theorem dX0_append_26 : decode cX0_append 26 = .ok (.getfield 18, 3) := by decide +kernel
theorem dX0_append_29 : decode cX0_append 29 = .ok (.iload_n 2, 1) := by decide +kernel
theorem dX0_append_30 : decode cX0_append 30 = .ok (.iastore, 1) := by decide +kernel
theorem dX0_append_31 : decode cX0_append 31 = .ok (.aload_n 0, 1) := by decide +kernel
theorem dX0_append_32 : decode cX0_append 32 = .ok (.dup, 1) := by decide +kernel
theorem dX0_append_33 : decode cX0_append 33 = .ok (.getfield 18, 3) := by decide +kernel
theorem dX0_append_36 : decode cX0_append 36 = .ok (.iconst 1, 1) := by decide +kernel
theorem dX0_append_37 : decode cX0_append 37 = .ok (.iadd, 1) := by decide +kernel
theorem dX0_append_38 : decode cX0_append 38 = .ok (.putfield 18, 3) := by decide +kernel
theorem dX0_append_41 : decode cX0_append 41 = .ok (.iconst 1, 1) := by decide +kernel
theorem dX0_append_42 : decode cX0_append 42 = .ok (.ireturn, 1) := by decide +kernel
theorem dX0_drop_0 : decode cX0_drop 0 = .ok (.aload_n 0, 1) := by decide +kernel
theorem dX0_drop_1 : decode cX0_drop 1 = .ok (.getfield 18, 3) := by decide +kernel
theorem dX0_drop_4 : decode cX0_drop 4 = .ok (.istore_n 1, 1) := by decide +kernel
theorem dX0_drop_5 : decode cX0_drop 5 = .ok (.aload_n 0, 1) := by decide +kernel
theorem dX0_drop_6 : decode cX0_drop 6 = .ok (.iconst 0, 1) := by decide +kernel
theorem dX0_drop_7 : decode cX0_drop 7 = .ok (.putfield 18, 3) := by decide +kernel
theorem dX0_drop_10 : decode cX0_drop 10 = .ok (.iload_n 1, 1) := by decide +kernel
theorem dX0_drop_11 : decode cX0_drop 11 = .ok (.ireturn, 1) := by decide +kernel
theorem dX0_sucked_0 : decode cX0_sucked 0 = .ok (.iconst 0, 1) := by decide +kernel
theorem dX0_sucked_1 : decode cX0_sucked 1 = .ok (.istore_n 1, 1) := by decide +kernel
theorem dX0_sucked_2 : decode cX0_sucked 2 = .ok (.iconst 0, 1) := by decide +kernel
theorem dX0_sucked_3 : decode cX0_sucked 3 = .ok (.istore_n 2, 1) := by decide +kernel
theorem dX0_sucked_4 : decode cX0_sucked 4 = .ok (.iload_n 2, 1) := by decide +kernel
theorem dX0_sucked_5 : decode cX0_sucked 5 = .ok (.aload_n 0, 1) := by decide +kernel
theorem dX0_sucked_6 : decode cX0_sucked 6 = .ok (.getfield 18, 3) := by decide +kernel
theorem dX0_sucked_9 : decode cX0_sucked 9 = .ok (.if_icmp .ge 40, 3) := by decide +kernel
theorem dX0_sucked_12 : decode cX0_sucked 12 = .ok (.iload_n 2, 1) := by decide +kernel
theorem dX0_sucked_13 : decode cX0_sucked 13 = .ok (.bipush 6, 2) := by decide +kernel
theorem dX0_sucked_15 : decode cX0_sucked 15 = .ok (.if_icmp .ge 34, 3) := by decide +kernel
theorem dX0_sucked_18 : decode cX0_sucked 18 = .ok (.aload_n 0, 1) := by decide +kernel
theorem dX0_sucked_19 : decode cX0_sucked 19 = .ok (.getfield 15, 3) := by decide +kernel
theorem dX0_sucked_22 : decode cX0_sucked 22 = .ok (.iload_n 2, 1) := by decide +kernel
theorem dX0_sucked_23 : decode cX0_sucked 23 = .ok (.iaload, 1) := by decide +kernel
theorem dX0_sucked_24 : decode cX0_sucked 24 = .ok (.iconst 1, 1) := by decide +kernel
theorem dX0_sucked_25 : decode cX0_sucked 25 = .ok (.iconst 3, 1) := by decide +kernel
theorem dX0_sucked_26 : decode cX0_sucked 26 = .ok (.invokestatic 22, 3) := by decide +kernel
theorem dX0_sucked_29 : decode cX0_sucked 29 = .ok (.ifCond .eq 14, 3) := by decide +kernel
theorem dX0_sucked_32 : decode cX0_sucked 32 = .ok (.iload_n 1, 1) := by decide +kernel
theorem dX0_sucked_33 : decode cX0_sucked 33 = .ok (.iconst 1, 1) := by decide +kernel
theorem dX0_sucked_34 : decode cX0_sucked 34 = .ok (.aload_n 0, 1) := by decide +kernel
theorem dX0_sucked_35 : decode cX0_sucked 35 = .ok (.getfield 9, 3) := by decide +kernel
theorem dX0_sucked_38 : decode cX0_sucked 38 = .ok (.iload_n 2, 1) := by decide +kernel
theorem dX0_sucked_39 : decode cX0_sucked 39 = .ok (.iaload, 1) := by decide +kernel
theorem dX0_sucked_40 : decode cX0_sucked 40 = .ok (.ishl, 1) := by decide +kernel
theorem dX0_sucked_41 : decode cX0_sucked 41 = .ok (.ior, 1) := by decide +kernel
theorem dX0_sucked_42 : decode cX0_sucked 42 = .ok (.istore_n 1, 1) := by decide +kernel
theorem dX0_sucked_43 : decode cX0_sucked 43 = .ok (.iinc 2 1, 3) := by decide +kernel
theorem dX0_sucked_46 : decode cX0_sucked 46 = .ok (.goto (-42), 3) := by decide +kernel
theorem dX0_sucked_49 : decode cX0_sucked 49 = .ok (.iload_n 1, 1) := by decide +kernel
theorem dX0_sucked_50 : decode cX0_sucked 50 = .ok (.ireturn, 1) := by decide +kernel
theorem dX0_liars_0 : decode cX0_liars 0 = .ok (.iconst 0, 1) := by decide +kernel
theorem dX0_liars_1 : decode cX0_liars 1 = .ok (.istore_n 1, 1) := by decide +kernel
theorem dX0_liars_2 : decode cX0_liars 2 = .ok (.iconst 0, 1) := by decide +kernel
theorem dX0_liars_3 : decode cX0_liars 3 = .ok (.istore_n 2, 1) := by decide +kernel
theorem dX0_liars_4 : decode cX0_liars 4 = .ok (.iload_n 2, 1) := by decide +kernel
theorem dX0_liars_5 : decode cX0_liars 5 = .ok (.aload_n 0, 1) := by decide +kernel
theorem dX0_liars_6 : decode cX0_liars 6 = .ok (.getfield 18, 3) := by decide +kernel
theorem dX0_liars_9 : decode cX0_liars 9 = .ok (.if_icmp .ge 40, 3) := by decide +kernel
theorem dX0_liars_12 : decode cX0_liars 12 = .ok (.iload_n 2, 1) := by decide +kernel
theorem dX0_liars_13 : decode cX0_liars 13 = .ok (.bipush 6, 2) := by decide +kernel
theorem dX0_liars_15 : decode cX0_liars 15 = .ok (.if_icmp .ge 34, 3) := by decide +kernel
theorem dX0_liars_18 : decode cX0_liars 18 = .ok (.aload_n 0, 1) := by decide +kernel
theorem dX0_liars_19 : decode cX0_liars 19 = .ok (.getfield 15, 3) := by decide +kernel
theorem dX0_liars_22 : decode cX0_liars 22 = .ok (.iload_n 2, 1) := by decide +kernel
theorem dX0_liars_23 : decode cX0_liars 23 = .ok (.iaload, 1) := by decide +kernel
theorem dX0_liars_24 : decode cX0_liars 24 = .ok (.iconst 0, 1) := by decide +kernel
theorem dX0_liars_25 : decode cX0_liars 25 = .ok (.iconst 3, 1) := by decide +kernel
theorem dX0_liars_26 : decode cX0_liars 26 = .ok (.invokestatic 22, 3) := by decide +kernel
theorem dX0_liars_29 : decode cX0_liars 29 = .ok (.ifCond .ne 14, 3) := by decide +kernel
theorem dX0_liars_32 : decode cX0_liars 32 = .ok (.iload_n 1, 1) := by decide +kernel
theorem dX0_liars_33 : decode cX0_liars 33 = .ok (.iconst 1, 1) := by decide +kernel
theorem dX0_liars_34 : decode cX0_liars 34 = .ok (.aload_n 0, 1) := by decide +kernel
theorem dX0_liars_35 : decode cX0_liars 35 = .ok (.getfield 9, 3) := by decide +kernel
theorem dX0_liars_38 : decode cX0_liars 38 = .ok (.iload_n 2, 1) := by decide +kernel
theorem dX0_liars_39 : decode cX0_liars 39 = .ok (.iaload, 1) := by decide +kernel
theorem dX0_liars_40 : decode cX0_liars 40 = .ok (.ishl, 1) := by decide +kernel
theorem dX0_liars_41 : decode cX0_liars 41 = .ok (.ior, 1) := by decide +kernel
theorem dX0_liars_42 : decode cX0_liars 42 = .ok (.istore_n 1, 1) := by decide +kernel
theorem dX0_liars_43 : decode cX0_liars 43 = .ok (.iinc 2 1, 3) := by decide +kernel
theorem dX0_liars_46 : decode cX0_liars 46 = .ok (.goto (-42), 3) := by decide +kernel
theorem dX0_liars_49 : decode cX0_liars 49 = .ok (.iload_n 1, 1) := by decide +kernel
theorem dX0_liars_50 : decode cX0_liars 50 = .ok (.ireturn, 1) := by decide +kernel
theorem dX1_init_0 : decode cX1_init 0 = .ok (.aload_n 0, 1) := by decide +kernel
theorem dX1_init_1 : decode cX1_init 1 = .ok (.invokespecial 3, 3) := by decide +kernel
theorem dX1_init_4 : decode cX1_init 4 = .ok (.aload_n 0, 1) := by decide +kernel
theorem dX1_init_5 : decode cX1_init 5 = .ok (.new 9, 3) := by decide +kernel
theorem dX1_init_8 : decode cX1_init 8 = .ok (.dup, 1) := by decide +kernel
theorem dX1_init_9 : decode cX1_init 9 = .ok (.invokespecial 11, 3) := by decide +kernel
theorem dX1_init_12 : decode cX1_init 12 = .ok (.putfield 12, 3) := by decide +kernel
theorem dX1_init_15 : decode cX1_init 15 = .ok (.aload_n 0, 1) := by decide +kernel
theorem dX1_init_16 : decode cX1_init 16 = .ok (.sipush 740, 3) := by decide +kernel
theorem dX1_init_19 : decode cX1_init 19 = .ok (.newarray .int, 2) := by decide +kernel
theorem dX1_init_21 : decode cX1_init 21 = .ok (.putfield 18, 3) := by decide +kernel
theorem dX1_init_24 : decode cX1_init 24 = .ok (.return_, 1) := by decide +kernel
theorem dX1_begin_0 : decode cX1_begin 0 = .ok (.aload_n 0, 1) := by decide +kernel
theorem dX1_begin_1 : decode cX1_begin 1 = .ok (.getfield 12, 3) := by decide +kernel
theorem dX1_begin_4 : decode cX1_begin 4 = .ok (.aload_n 1, 1) := by decide +kernel
theorem dX1_begin_5 : decode cX1_begin 5 = .ok (.invokevirtual 22, 3) := by decide +kernel
theorem dX1_begin_8 : decode cX1_begin 8 = .ok (.aload_n 0, 1) := by decide +kernel
theorem dX1_begin_9 : decode cX1_begin 9 = .ok (.iconst 0, 1) := by decide +kernel
theorem dX1_begin_10 : decode cX1_begin 10 = .ok (.putfield 26, 3) := by decide +kernel
theorem dX1_begin_13 : decode cX1_begin 13 = .ok (.return_, 1) := by decide +kernel
theorem dX1_remember_0 : decode cX1_remember 0 = .ok (.aload_n 0, 1) := by decide +kernel
theorem dX1_remember_1 : decode cX1_remember 1 = .ok (.getfield 26, 3) := by decide +kernel
theorem dX1_remember_4 : decode cX1_remember 4 = .ok (.bipush 10, 2) := by decide +kernel
theorem dX1_remember_6 : decode cX1_remember 6 = .ok (.if_icmp .lt 26, 3) := by decide +kernel
theorem dX1_remember_9 : decode cX1_remember 9 = .ok (.aload_n 0, 1) := by decide +kernel
theorem dX1_remember_10 : decode cX1_remember 10 = .ok (.getfield 18, 3) := by decide +kernel
theorem dX1_remember_13 : decode cX1_remember 13 = .ok (.bipush 74, 2) := by decide +kernel
theorem dX1_remember_15 : decode cX1_remember 15 = .ok (.aload_n 0, 1) := by decide +kernel
theorem dX1_remember_16 : decode cX1_remember 16 = .ok (.getfield 18, 3) := by decide +kernel
theorem dX1_remember_19 : decode cX1_remember 19 = .ok (.iconst 0, 1) := by decide +kernel
theorem dX1_remember_20 : decode cX1_remember 20 = .ok (.sipush 666, 3) := by decide +kernel
theorem dX1_remember_23 : decode cX1_remember 23 = .ok (.invokestatic 30, 3) := by decide +kernel
theorem dX1_remember_26 : decode cX1_remember 26 = .ok (.aload_n 0, 1) := by decide +kernel
theorem dX1_remember_27 : decode cX1_remember 27 = .ok (.bipush 9, 2) := by decide +kernel
theorem dX1_remember_29 : decode cX1_remember 29 = .ok (.putfield 26, 3) := by decide +kernel
theorem dX1_remember_32 : decode cX1_remember 32 = .ok (.aload_n 0, 1) := by decide +kernel
theorem dX1_remember_33 : decode cX1_remember 33 = .ok (.getfield 12, 3) := by decide +kernel
theorem dX1_remember_36 : decode cX1_remember 36 = .ok (.aload_n 0, 1) := by decide +kernel
theorem dX1_remember_37 : decode cX1_remember 37 = .ok (.getfield 18, 3) := by decide +kernel
theorem dX1_remember_40 : decode cX1_remember 40 = .ok (.aload_n 0, 1) := by decide +kernel
theorem dX1_remember_41 : decode cX1_remember 41 = .ok (.getfield 26, 3) := by decide +kernel
theorem dX1_remember_44 : decode cX1_remember 44 = .ok (.invokevirtual 36, 3) := by decide +kernel
theorem dX1_remember_47 : decode cX1_remember 47 = .ok (.aload_n 0, 1) := by decide +kernel
theorem dX1_remember_48 : decode cX1_remember 48 = .ok (.dup, 1) := by decide +kernel
theorem dX1_remember_49 : decode cX1_remember 49 = .ok (.getfield 26, 3) := by decide +kernel
theorem dX1_remember_52 : decode cX1_remember 52 = .ok (.iconst 1, 1) := by decide +kernel
theorem dX1_remember_53 : decode cX1_remember 53 = .ok (.iadd, 1) := by decide +kernel
theorem dX1_remember_54 : decode cX1_remember 54 = .ok (.putfield 26, 3) := by decide +kernel
theorem dX1_remember_57 : decode cX1_remember 57 = .ok (.return_, 1) := by decide +kernel
theorem dX1_takeBack_0 : decode cX1_takeBack 0 = .ok (.aload_n 0, 1) := by decide +kernel
theorem dX1_takeBack_1 : decode cX1_takeBack 1 = .ok (.getfield 26, 3) := by decide +kernel
theorem dX1_takeBack_4 : decode cX1_takeBack 4 = .ok (.ifCond .gt 5, 3) := by decide +kernel
theorem dX1_takeBack_7 : decode cX1_takeBack 7 = .ok (.iconst 0, 1) := by decide +kernel
theorem dX1_takeBack_8 : decode cX1_takeBack 8 = .ok (.ireturn, 1) := by decide +kernel
theorem dX1_takeBack_9 : decode cX1_takeBack 9 = .ok (.aload_n 0, 1) := by decide +kernel
theorem dX1_takeBack_10 : decode cX1_takeBack 10 = .ok (.dup, 1) := by decide +kernel
theorem dX1_takeBack_11 : decode cX1_takeBack 11 = .ok (.getfield 26, 3) := by decide +kernel
theorem dX1_takeBack_14 : decode cX1_takeBack 14 = .ok (.iconst 1, 1) := by decide +kernel
theorem dX1_takeBack_15 : decode cX1_takeBack 15 = .ok (.isub, 1) := by decide +kernel
theorem dX1_takeBack_16 : decode cX1_takeBack 16 = .ok (.putfield 26, 3) := by decide +kernel
theorem dX1_takeBack_19 : decode cX1_takeBack 19 = .ok (.aload_n 0, 1) := by decide +kernel
theorem dX1_takeBack_20 : decode cX1_takeBack 20 = .ok (.getfield 12, 3) := by decide +kernel
theorem dX1_takeBack_23 : decode cX1_takeBack 23 = .ok (.aload_n 0, 1) := by decide +kernel
theorem dX1_takeBack_24 : decode cX1_takeBack 24 = .ok (.getfield 18, 3) := by decide +kernel
theorem dX1_takeBack_27 : decode cX1_takeBack 27 = .ok (.aload_n 0, 1) := by decide +kernel
theorem dX1_takeBack_28 : decode cX1_takeBack 28 = .ok (.getfield 26, 3) := by decide +kernel
theorem dX1_takeBack_31 : decode cX1_takeBack 31 = .ok (.invokevirtual 40, 3) := by decide +kernel
theorem dX1_takeBack_34 : decode cX1_takeBack 34 = .ok (.iconst 1, 1) := by decide +kernel
theorem dX1_takeBack_35 : decode cX1_takeBack 35 = .ok (.ireturn, 1) := by decide +kernel
theorem dX1_become_0 : decode cX1_become 0 = .ok (.aload_n 0, 1) := by decide +kernel
theorem dX1_become_1 : decode cX1_become 1 = .ok (.getfield 12, 3) := by decide +kernel
theorem dX1_become_4 : decode cX1_become 4 = .ok (.aload_n 1, 1) := by decide +kernel
theorem dX1_become_5 : decode cX1_become 5 = .ok (.getfield 12, 3) := by decide +kernel
theorem dX1_become_8 : decode cX1_become 8 = .ok (.invokevirtual 22, 3) := by decide +kernel
theorem dX1_become_11 : decode cX1_become 11 = .ok (.aload_n 1, 1) := by decide +kernel
theorem dX1_become_12 : decode cX1_become 12 = .ok (.getfield 18, 3) := by decide +kernel
theorem dX1_become_15 : decode cX1_become 15 = .ok (.iconst 0, 1) := by decide +kernel
theorem dX1_become_16 : decode cX1_become 16 = .ok (.aload_n 0, 1) := by decide +kernel
theorem dX1_become_17 : decode cX1_become 17 = .ok (.getfield 18, 3) := by decide +kernel
theorem dX1_become_20 : decode cX1_become 20 = .ok (.iconst 0, 1) := by decide +kernel
theorem dX1_become_21 : decode cX1_become 21 = .ok (.aload_n 0, 1) := by decide +kernel
theorem dX1_become_22 : decode cX1_become 22 = .ok (.getfield 18, 3) := by decide +kernel
theorem dX1_become_25 : decode cX1_become 25 = .ok (.arraylength, 1) := by decide +kernel
theorem dX1_become_26 : decode cX1_become 26 = .ok (.invokestatic 30, 3) := by decide +kernel
theorem dX1_become_29 : decode cX1_become 29 = .ok (.aload_n 0, 1) := by decide +kernel
theorem dX1_become_30 : decode cX1_become 30 = .ok (.aload_n 1, 1) := by decide +kernel
theorem dX1_become_31 : decode cX1_become 31 = .ok (.getfield 26, 3) := by decide +kernel
theorem dX1_become_34 : decode cX1_become 34 = .ok (.putfield 26, 3) := by decide +kernel
theorem dX1_become_37 : decode cX1_become 37 = .ok (.return_, 1) := by decide +kernel
theorem dX2_init_0 : decode cX2_init 0 = .ok (.aload_n 0, 1) := by decide +kernel
theorem dX2_init_1 : decode cX2_init 1 = .ok (.invokespecial 5, 3) := by decide +kernel
theorem dX2_init_4 : decode cX2_init 4 = .ok (.aload_n 0, 1) := by decide +kernel
theorem dX2_init_5 : decode cX2_init 5 = .ok (.bipush 74, 2) := by decide +kernel
theorem dX2_init_7 : decode cX2_init 7 = .ok (.newarray .int, 2) := by decide +kernel
theorem dX2_init_9 : decode cX2_init 9 = .ok (.putfield 11, 3) := by decide +kernel
theorem dX2_init_12 : decode cX2_init 12 = .ok (.return_, 1) := by decide +kernel
theorem dX2_wipe_0 : decode cX2_wipe 0 = .ok (.aload_n 0, 1) := by decide +kernel
theorem dX2_wipe_1 : decode cX2_wipe 1 = .ok (.getfield 11, 3) := by decide +kernel
theorem dX2_wipe_4 : decode cX2_wipe 4 = .ok (.iconst 0, 1) := by decide +kernel
theorem dX2_wipe_5 : decode cX2_wipe 5 = .ok (.invokestatic 15, 3) := by decide +kernel
theorem dX2_wipe_8 : decode cX2_wipe 8 = .ok (.return_, 1) := by decide +kernel
theorem dX2_become_0 : decode cX2_become 0 = .ok (.aload_n 1, 1) := by decide +kernel
theorem dX2_become_1 : decode cX2_become 1 = .ok (.getfield 11, 3) := by decide +kernel
theorem dX2_become_4 : decode cX2_become 4 = .ok (.iconst 0, 1) := by decide +kernel
theorem dX2_become_5 : decode cX2_become 5 = .ok (.aload_n 0, 1) := by decide +kernel
theorem dX2_become_6 : decode cX2_become 6 = .ok (.getfield 11, 3) := by decide +kernel
theorem dX2_become_9 : decode cX2_become 9 = .ok (.iconst 0, 1) := by decide +kernel
theorem dX2_become_10 : decode cX2_become 10 = .ok (.bipush 74, 2) := by decide +kernel
theorem dX2_become_12 : decode cX2_become 12 = .ok (.invokestatic 21, 3) := by decide +kernel
theorem dX2_become_15 : decode cX2_become 15 = .ok (.return_, 1) := by decide +kernel
theorem dX2_writeTo_0 : decode cX2_writeTo 0 = .ok (.iload_n 2, 1) := by decide +kernel
theorem dX2_writeTo_1 : decode cX2_writeTo 1 = .ok (.ifCond .lt 29, 3) := by decide +kernel
theorem dX2_writeTo_4 : decode cX2_writeTo 4 = .ok (.iload_n 2, 1) := by decide +kernel
theorem dX2_writeTo_5 : decode cX2_writeTo 5 = .ok (.iconst 1, 1) := by decide +kernel
theorem dX2_writeTo_6 : decode cX2_writeTo 6 = .ok (.iadd, 1) := by decide +kernel
theorem dX2_writeTo_7 : decode cX2_writeTo 7 = .ok (.bipush 74, 2) := by decide +kernel
theorem dX2_writeTo_9 : decode cX2_writeTo 9 = .ok (.imul, 1) := by decide +kernel
theorem dX2_writeTo_10 : decode cX2_writeTo 10 = .ok (.aload_n 1, 1) := by decide +kernel
theorem dX2_writeTo_11 : decode cX2_writeTo 11 = .ok (.arraylength, 1) := by decide +kernel
theorem dX2_writeTo_12 : decode cX2_writeTo 12 = .ok (.if_icmp .gt 18, 3) := by decide +kernel
theorem dX2_writeTo_15 : decode cX2_writeTo 15 = .ok (.aload_n 0, 1) := by decide +kernel
theorem dX2_writeTo_16 : decode cX2_writeTo 16 = .ok (.getfield 11, 3) := by decide +kernel
theorem dX2_writeTo_19 : decode cX2_writeTo 19 = .ok (.iconst 0, 1) := by decide +kernel
theorem dX2_writeTo_20 : decode cX2_writeTo 20 = .ok (.aload_n 1, 1) := by decide +kernel
theorem dX2_writeTo_21 : decode cX2_writeTo 21 = .ok (.iload_n 2, 1) := by decide +kernel
theorem dX2_writeTo_22 : decode cX2_writeTo 22 = .ok (.bipush 74, 2) := by decide +kernel
theorem dX2_writeTo_24 : decode cX2_writeTo 24 = .ok (.imul, 1) := by decide +kernel
theorem dX2_writeTo_25 : decode cX2_writeTo 25 = .ok (.bipush 74, 2) := by decide +kernel
theorem dX2_writeTo_27 : decode cX2_writeTo 27 = .ok (.invokestatic 21, 3) := by decide +kernel
theorem dX2_writeTo_30 : decode cX2_writeTo 30 = .ok (.return_, 1) := by decide +kernel
theorem dX2_readFrom_0 : decode cX2_readFrom 0 = .ok (.iload_n 2, 1) := by decide +kernel
theorem dX2_readFrom_1 : decode cX2_readFrom 1 = .ok (.ifCond .lt 29, 3) := by decide +kernel
theorem dX2_readFrom_4 : decode cX2_readFrom 4 = .ok (.iload_n 2, 1) := by decide +kernel
theorem dX2_readFrom_5 : decode cX2_readFrom 5 = .ok (.iconst 1, 1) := by decide +kernel
theorem dX2_readFrom_6 : decode cX2_readFrom 6 = .ok (.iadd, 1) := by decide +kernel
theorem dX2_readFrom_7 : decode cX2_readFrom 7 = .ok (.bipush 74, 2) := by decide +kernel
theorem dX2_readFrom_9 : decode cX2_readFrom 9 = .ok (.imul, 1) := by decide +kernel
theorem dX2_readFrom_10 : decode cX2_readFrom 10 = .ok (.aload_n 1, 1) := by decide +kernel
theorem dX2_readFrom_11 : decode cX2_readFrom 11 = .ok (.arraylength, 1) := by decide +kernel
theorem dX2_readFrom_12 : decode cX2_readFrom 12 = .ok (.if_icmp .gt 18, 3) := by decide +kernel
theorem dX2_readFrom_15 : decode cX2_readFrom 15 = .ok (.aload_n 1, 1) := by decide +kernel
theorem dX2_readFrom_16 : decode cX2_readFrom 16 = .ok (.iload_n 2, 1) := by decide +kernel
theorem dX2_readFrom_17 : decode cX2_readFrom 17 = .ok (.bipush 74, 2) := by decide +kernel
theorem dX2_readFrom_19 : decode cX2_readFrom 19 = .ok (.imul, 1) := by decide +kernel
theorem dX2_readFrom_20 : decode cX2_readFrom 20 = .ok (.aload_n 0, 1) := by decide +kernel
theorem dX2_readFrom_21 : decode cX2_readFrom 21 = .ok (.getfield 11, 3) := by decide +kernel
theorem dX2_readFrom_24 : decode cX2_readFrom 24 = .ok (.iconst 0, 1) := by decide +kernel
theorem dX2_readFrom_25 : decode cX2_readFrom 25 = .ok (.bipush 74, 2) := by decide +kernel
theorem dX2_readFrom_27 : decode cX2_readFrom 27 = .ok (.invokestatic 21, 3) := by decide +kernel
theorem dX2_readFrom_30 : decode cX2_readFrom 30 = .ok (.return_, 1) := by decide +kernel
theorem dX2_sand_0 : decode cX2_sand 0 = .ok (.aload_n 0, 1) := by decide +kernel
theorem dX2_sand_1 : decode cX2_sand 1 = .ok (.getfield 11, 3) := by decide +kernel
theorem dX2_sand_4 : decode cX2_sand 4 = .ok (.iconst 0, 1) := by decide +kernel
theorem dX2_sand_5 : decode cX2_sand 5 = .ok (.iaload, 1) := by decide +kernel
theorem dX2_sand_6 : decode cX2_sand 6 = .ok (.ireturn, 1) := by decide +kernel
theorem dX2_alive_0 : decode cX2_alive 0 = .ok (.aload_n 0, 1) := by decide +kernel
theorem dX2_alive_1 : decode cX2_alive 1 = .ok (.getfield 11, 3) := by decide +kernel
theorem dX2_alive_4 : decode cX2_alive 4 = .ok (.iconst 1, 1) := by decide +kernel
theorem dX2_alive_5 : decode cX2_alive 5 = .ok (.iaload, 1) := by decide +kernel
theorem dX2_alive_6 : decode cX2_alive 6 = .ok (.ireturn, 1) := by decide +kernel
theorem dX2_isAlive_0 : decode cX2_isAlive 0 = .ok (.iload_n 1, 1) := by decide +kernel
theorem dX2_isAlive_1 : decode cX2_isAlive 1 = .ok (.invokestatic 27, 3) := by decide +kernel
theorem dX2_isAlive_4 : decode cX2_isAlive 4 = .ok (.ifCond .eq 20, 3) := by decide +kernel
theorem dX2_isAlive_7 : decode cX2_isAlive 7 = .ok (.aload_n 0, 1) := by decide +kernel
theorem dX2_isAlive_8 : decode cX2_isAlive 8 = .ok (.getfield 11, 3) := by decide +kernel
theorem dX2_isAlive_11 : decode cX2_isAlive 11 = .ok (.iconst 1, 1) := by decide +kernel
theorem dX2_isAlive_12 : decode cX2_isAlive 12 = .ok (.iaload, 1) := by decide +kernel
theorem dX2_isAlive_13 : decode cX2_isAlive 13 = .ok (.iload_n 1, 1) := by decide +kernel
theorem dX2_isAlive_14 : decode cX2_isAlive 14 = .ok (.invokestatic 31, 3) := by decide +kernel
theorem dX2_isAlive_17 : decode cX2_isAlive 17 = .ok (.ifCond .eq 7, 3) := by decide +kernel
theorem dX2_isAlive_20 : decode cX2_isAlive 20 = .ok (.iconst 1, 1) := by decide +kernel
theorem dX2_isAlive_21 : decode cX2_isAlive 21 = .ok (.goto 4, 3) := by decide +kernel
theorem dX2_isAlive_24 : decode cX2_isAlive 24 = .ok (.iconst 0, 1) := by decide +kernel
theorem dX2_isAlive_25 : decode cX2_isAlive 25 = .ok (.ireturn, 1) := by decide +kernel
theorem dX2_wake_0 : decode cX2_wake 0 = .ok (.iload_n 1, 1) := by decide +kernel
theorem dX2_wake_1 : decode cX2_wake 1 = .ok (.invokestatic 27, 3) := by decide +kernel
theorem dX2_wake_4 : decode cX2_wake 4 = .ok (.ifCond .eq 15, 3) := by decide +kernel
theorem dX2_wake_7 : decode cX2_wake 7 = .ok (.aload_n 0, 1) := by decide +kernel
theorem dX2_wake_8 : decode cX2_wake 8 = .ok (.getfield 11, 3) := by decide +kernel
theorem dX2_wake_11 : decode cX2_wake 11 = .ok (.iconst 1, 1) := by decide +kernel
theorem dX2_wake_12 : decode cX2_wake 12 = .ok (.dup2, 1) := by decide +kernel
theorem dX2_wake_13 : decode cX2_wake 13 = .ok (.iaload, 1) := by decide +kernel
theorem dX2_wake_14 : decode cX2_wake 14 = .ok (.iconst 1, 1) := by decide +kernel
theorem dX2_wake_15 : decode cX2_wake 15 = .ok (.iload_n 1, 1) := by decide +kernel
theorem dX2_wake_16 : decode cX2_wake 16 = .ok (.ishl, 1) := by decide +kernel
theorem dX2_wake_17 : decode cX2_wake 17 = .ok (.ior, 1) := by decide +kernel
theorem dX2_wake_18 : decode cX2_wake 18 = .ok (.iastore, 1) := by decide +kernel
theorem dX2_wake_19 : decode cX2_wake 19 = .ok (.return_, 1) := by decide +kernel
theorem dX2_die_0 : decode cX2_die 0 = .ok (.iload_n 1, 1) := by decide +kernel
theorem dX2_die_1 : decode cX2_die 1 = .ok (.invokestatic 27, 3) := by decide +kernel
theorem dX2_die_4 : decode cX2_die 4 = .ok (.ifCond .ne 4, 3) := by decide +kernel
theorem dX2_die_7 : decode cX2_die 7 = .ok (.return_, 1) := by decide +kernel
theorem dX2_die_8 : decode cX2_die 8 = .ok (.aload_n 0, 1) := by decide +kernel
theorem dX2_die_9 : decode cX2_die 9 = .ok (.getfield 11, 3) := by decide +kernel
theorem dX2_die_12 : decode cX2_die 12 = .ok (.iconst 1, 1) := by decide +kernel
theorem dX2_die_13 : decode cX2_die 13 = .ok (.dup2, 1) := by decide +kernel
theorem dX2_die_14 : decode cX2_die 14 = .ok (.iaload, 1) := by decide +kernel
theorem dX2_die_15 : decode cX2_die 15 = .ok (.iconst 1, 1) := by decide +kernel
theorem dX2_die_16 : decode cX2_die 16 = .ok (.iload_n 1, 1) := by decide +kernel
theorem dX2_die_17 : decode cX2_die 17 = .ok (.ishl, 1) := by decide +kernel
theorem dX2_die_18 : decode cX2_die 18 = .ok (.iconst (-1), 1) := by decide +kernel
theorem dX2_die_19 : decode cX2_die 19 = .ok (.ixor, 1) := by decide +kernel
theorem dX2_die_20 : decode cX2_die 20 = .ok (.iand, 1) := by decide +kernel
theorem dX2_die_21 : decode cX2_die 21 = .ok (.iastore, 1) := by decide +kernel
theorem dX2_die_22 : decode cX2_die 22 = .ok (.aload_n 0, 1) := by decide +kernel
theorem dX2_die_23 : decode cX2_die 23 = .ok (.getfield 11, 3) := by decide +kernel
theorem dX2_die_26 : decode cX2_die 26 = .ok (.iconst 0, 1) := by decide +kernel
theorem dX2_die_27 : decode cX2_die 27 = .ok (.sipush 9999, 3) := by decide +kernel
theorem dX2_die_30 : decode cX2_die 30 = .ok (.aload_n 0, 1) := by decide +kernel
theorem dX2_die_31 : decode cX2_die 31 = .ok (.getfield 11, 3) := by decide +kernel
theorem dX2_die_34 : decode cX2_die 34 = .ok (.iconst 0, 1) := by decide +kernel
theorem dX2_die_35 : decode cX2_die 35 = .ok (.iaload, 1) := by decide +kernel
theorem dX2_die_36 : decode cX2_die 36 = .ok (.aload_n 0, 1) := by decide +kernel
theorem dX2_die_37 : decode cX2_die 37 = .ok (.iload_n 1, 1) := by decide +kernel
theorem dX2_die_38 : decode cX2_die 38 = .ok (.invokevirtual 35, 3) := by decide +kernel
theorem dX2_die_41 : decode cX2_die 41 = .ok (.iadd, 1) := by decide +kernel
theorem dX2_die_42 : decode cX2_die 42 = .ok (.invokestatic 39, 3) := by decide +kernel
theorem dX2_die_45 : decode cX2_die 45 = .ok (.iastore, 1) := by decide +kernel
theorem dX2_die_46 : decode cX2_die 46 = .ok (.iconst 0, 1) := by decide +kernel
theorem dX2_die_47 : decode cX2_die 47 = .ok (.istore_n 2, 1) := by decide +kernel
theorem dX2_die_48 : decode cX2_die 48 = .ok (.iload_n 2, 1) := by decide +kernel
theorem dX2_die_49 : decode cX2_die 49 = .ok (.bipush 6, 2) := by decide +kernel
theorem dX2_die_51 : decode cX2_die 51 = .ok (.if_icmp .ge 16, 3) := by decide +kernel
theorem dX2_die_54 : decode cX2_die 54 = .ok (.aload_n 0, 1) := by decide +kernel
theorem dX2_die_55 : decode cX2_die 55 = .ok (.iload_n 1, 1) := by decide +kernel
theorem dX2_die_56 : decode cX2_die 56 = .ok (.iload_n 2, 1) := by decide +kernel
theorem dX2_die_57 : decode cX2_die 57 = .ok (.iconst 0, 1) := by decide +kernel
theorem dX2_die_58 : decode cX2_die 58 = .ok (.invokevirtual 45, 3) := by decide +kernel
theorem dX2_die_61 : decode cX2_die 61 = .ok (.iinc 2 1, 3) := by decide +kernel
theorem dX2_die_64 : decode cX2_die 64 = .ok (.goto (-16), 3) := by decide +kernel
theorem dX2_die_67 : decode cX2_die 67 = .ok (.return_, 1) := by decide +kernel
theorem dX2_placeOf_0 : decode cX2_placeOf 0 = .ok (.iload_n 1, 1) := by decide +kernel
theorem dX2_placeOf_1 : decode cX2_placeOf 1 = .ok (.invokestatic 27, 3) := by decide +kernel
theorem dX2_placeOf_4 : decode cX2_placeOf 4 = .ok (.ifCond .eq 14, 3) := by decide +kernel
theorem dX2_placeOf_7 : decode cX2_placeOf 7 = .ok (.aload_n 0, 1) := by decide +kernel
theorem dX2_placeOf_8 : decode cX2_placeOf 8 = .ok (.getfield 11, 3) := by decide +kernel
theorem dX2_placeOf_11 : decode cX2_placeOf 11 = .ok (.iconst 2, 1) := by decide +kernel
theorem dX2_placeOf_12 : decode cX2_placeOf 12 = .ok (.iload_n 1, 1) := by decide +kernel
theorem dX2_placeOf_13 : decode cX2_placeOf 13 = .ok (.iadd, 1) := by decide +kernel
theorem dX2_placeOf_14 : decode cX2_placeOf 14 = .ok (.iaload, 1) := by decide +kernel
theorem dX2_placeOf_15 : decode cX2_placeOf 15 = .ok (.goto 5, 3) := by decide +kernel
theorem dX2_placeOf_18 : decode cX2_placeOf 18 = .ok (.bipush (-9), 2) := by decide +kernel
theorem dX2_placeOf_20 : decode cX2_placeOf 20 = .ok (.ireturn, 1) := by decide +kernel
theorem dX2_setPlace_0 : decode cX2_setPlace 0 = .ok (.iload_n 1, 1) := by decide +kernel
theorem dX2_setPlace_1 : decode cX2_setPlace 1 = .ok (.invokestatic 27, 3) := by decide +kernel
theorem dX2_setPlace_4 : decode cX2_setPlace 4 = .ok (.ifCond .eq 12, 3) := by decide +kernel
theorem dX2_setPlace_7 : decode cX2_setPlace 7 = .ok (.aload_n 0, 1) := by decide +kernel
theorem dX2_setPlace_8 : decode cX2_setPlace 8 = .ok (.getfield 11, 3) := by decide +kernel
theorem dX2_setPlace_11 : decode cX2_setPlace 11 = .ok (.iconst 2, 1) := by decide +kernel
theorem dX2_setPlace_12 : decode cX2_setPlace 12 = .ok (.iload_n 1, 1) := by decide +kernel
theorem dX2_setPlace_13 : decode cX2_setPlace 13 = .ok (.iadd, 1) := by decide +kernel
theorem dX2_setPlace_14 : decode cX2_setPlace 14 = .ok (.iload_n 2, 1) := by decide +kernel
theorem dX2_setPlace_15 : decode cX2_setPlace 15 = .ok (.iastore, 1) := by decide +kernel
theorem dX2_setPlace_16 : decode cX2_setPlace 16 = .ok (.return_, 1) := by decide +kernel
theorem dX2_cupsOf_0 : decode cX2_cupsOf 0 = .ok (.iload_n 1, 1) := by decide +kernel
theorem dX2_cupsOf_1 : decode cX2_cupsOf 1 = .ok (.invokestatic 27, 3) := by decide +kernel
theorem dX2_cupsOf_4 : decode cX2_cupsOf 4 = .ok (.ifCond .eq 15, 3) := by decide +kernel
theorem dX2_cupsOf_7 : decode cX2_cupsOf 7 = .ok (.aload_n 0, 1) := by decide +kernel
theorem dX2_cupsOf_8 : decode cX2_cupsOf 8 = .ok (.getfield 11, 3) := by decide +kernel
theorem dX2_cupsOf_11 : decode cX2_cupsOf 11 = .ok (.bipush 6, 2) := by decide +kernel
theorem dX2_cupsOf_13 : decode cX2_cupsOf 13 = .ok (.iload_n 1, 1) := by decide +kernel
theorem dX2_cupsOf_14 : decode cX2_cupsOf 14 = .ok (.iadd, 1) := by decide +kernel
theorem dX2_cupsOf_15 : decode cX2_cupsOf 15 = .ok (.iaload, 1) := by decide +kernel
theorem dX2_cupsOf_16 : decode cX2_cupsOf 16 = .ok (.goto 4, 3) := by decide +kernel
theorem dX2_cupsOf_19 : decode cX2_cupsOf 19 = .ok (.iconst 0, 1) := by decide +kernel
theorem dX2_cupsOf_20 : decode cX2_cupsOf 20 = .ok (.ireturn, 1) := by decide +kernel
theorem dX2_setCups_0 : decode cX2_setCups 0 = .ok (.iload_n 1, 1) := by decide +kernel
theorem dX2_setCups_1 : decode cX2_setCups 1 = .ok (.invokestatic 27, 3) := by decide +kernel
theorem dX2_setCups_4 : decode cX2_setCups 4 = .ok (.ifCond .eq 13, 3) := by decide +kernel
theorem dX2_setCups_7 : decode cX2_setCups 7 = .ok (.aload_n 0, 1) := by decide +kernel
theorem dX2_setCups_8 : decode cX2_setCups 8 = .ok (.getfield 11, 3) := by decide +kernel
theorem dX2_setCups_11 : decode cX2_setCups 11 = .ok (.bipush 6, 2) := by decide +kernel
theorem dX2_setCups_13 : decode cX2_setCups 13 = .ok (.iload_n 1, 1) := by decide +kernel
theorem dX2_setCups_14 : decode cX2_setCups 14 = .ok (.iadd, 1) := by decide +kernel
theorem dX2_setCups_15 : decode cX2_setCups 15 = .ok (.iload_n 2, 1) := by decide +kernel
theorem dX2_setCups_16 : decode cX2_setCups 16 = .ok (.iastore, 1) := by decide +kernel
theorem dX2_setCups_17 : decode cX2_setCups 17 = .ok (.return_, 1) := by decide +kernel
theorem dX2_dryOf_0 : decode cX2_dryOf 0 = .ok (.iload_n 1, 1) := by decide +kernel
theorem dX2_dryOf_1 : decode cX2_dryOf 1 = .ok (.invokestatic 27, 3) := by decide +kernel
theorem dX2_dryOf_4 : decode cX2_dryOf 4 = .ok (.ifCond .eq 15, 3) := by decide +kernel
theorem dX2_dryOf_7 : decode cX2_dryOf 7 = .ok (.aload_n 0, 1) := by decide +kernel
theorem dX2_dryOf_8 : decode cX2_dryOf 8 = .ok (.getfield 11, 3) := by decide +kernel
theorem dX2_dryOf_11 : decode cX2_dryOf 11 = .ok (.bipush 10, 2) := by decide +kernel
theorem dX2_dryOf_13 : decode cX2_dryOf 13 = .ok (.iload_n 1, 1) := by decide +kernel
theorem dX2_dryOf_14 : decode cX2_dryOf 14 = .ok (.iadd, 1) := by decide +kernel
theorem dX2_dryOf_15 : decode cX2_dryOf 15 = .ok (.iaload, 1) := by decide +kernel
theorem dX2_dryOf_16 : decode cX2_dryOf 16 = .ok (.goto 4, 3) := by decide +kernel
theorem dX2_dryOf_19 : decode cX2_dryOf 19 = .ok (.iconst 0, 1) := by decide +kernel
theorem dX2_dryOf_20 : decode cX2_dryOf 20 = .ok (.ireturn, 1) := by decide +kernel
theorem dX2_setDry_0 : decode cX2_setDry 0 = .ok (.iload_n 1, 1) := by decide +kernel
theorem dX2_setDry_1 : decode cX2_setDry 1 = .ok (.invokestatic 27, 3) := by decide +kernel
theorem dX2_setDry_4 : decode cX2_setDry 4 = .ok (.ifCond .eq 13, 3) := by decide +kernel
theorem dX2_setDry_7 : decode cX2_setDry 7 = .ok (.aload_n 0, 1) := by decide +kernel
theorem dX2_setDry_8 : decode cX2_setDry 8 = .ok (.getfield 11, 3) := by decide +kernel
theorem dX2_setDry_11 : decode cX2_setDry 11 = .ok (.bipush 10, 2) := by decide +kernel
theorem dX2_setDry_13 : decode cX2_setDry 13 = .ok (.iload_n 1, 1) := by decide +kernel
theorem dX2_setDry_14 : decode cX2_setDry 14 = .ok (.iadd, 1) := by decide +kernel
theorem dX2_setDry_15 : decode cX2_setDry 15 = .ok (.iload_n 2, 1) := by decide +kernel
theorem dX2_setDry_16 : decode cX2_setDry 16 = .ok (.iastore, 1) := by decide +kernel
theorem dX2_setDry_17 : decode cX2_setDry 17 = .ok (.return_, 1) := by decide +kernel
theorem dX2_knotsOf_0 : decode cX2_knotsOf 0 = .ok (.iload_n 1, 1) := by decide +kernel
theorem dX2_knotsOf_1 : decode cX2_knotsOf 1 = .ok (.invokestatic 27, 3) := by decide +kernel
theorem dX2_knotsOf_4 : decode cX2_knotsOf 4 = .ok (.ifCond .eq 27, 3) := by decide +kernel
theorem dX2_knotsOf_7 : decode cX2_knotsOf 7 = .ok (.iload_n 2, 1) := by decide +kernel
theorem dX2_knotsOf_8 : decode cX2_knotsOf 8 = .ok (.invokestatic 49, 3) := by decide +kernel
theorem dX2_knotsOf_11 : decode cX2_knotsOf 11 = .ok (.ifCond .eq 20, 3) := by decide +kernel
theorem dX2_knotsOf_14 : decode cX2_knotsOf 14 = .ok (.aload_n 0, 1) := by decide +kernel
theorem dX2_knotsOf_15 : decode cX2_knotsOf 15 = .ok (.getfield 11, 3) := by decide +kernel
theorem dX2_knotsOf_18 : decode cX2_knotsOf 18 = .ok (.bipush 14, 2) := by decide +kernel
theorem dX2_knotsOf_20 : decode cX2_knotsOf 20 = .ok (.iload_n 1, 1) := by decide +kernel
theorem dX2_knotsOf_21 : decode cX2_knotsOf 21 = .ok (.bipush 6, 2) := by decide +kernel
theorem dX2_knotsOf_23 : decode cX2_knotsOf 23 = .ok (.imul, 1) := by decide +kernel
theorem dX2_knotsOf_24 : decode cX2_knotsOf 24 = .ok (.iadd, 1) := by decide +kernel
theorem dX2_knotsOf_25 : decode cX2_knotsOf 25 = .ok (.iload_n 2, 1) := by decide +kernel
theorem dX2_knotsOf_26 : decode cX2_knotsOf 26 = .ok (.iadd, 1) := by decide +kernel
theorem dX2_knotsOf_27 : decode cX2_knotsOf 27 = .ok (.iaload, 1) := by decide +kernel
theorem dX2_knotsOf_28 : decode cX2_knotsOf 28 = .ok (.goto 4, 3) := by decide +kernel
theorem dX2_knotsOf_31 : decode cX2_knotsOf 31 = .ok (.iconst 0, 1) := by decide +kernel
theorem dX2_knotsOf_32 : decode cX2_knotsOf 32 = .ok (.ireturn, 1) := by decide +kernel
theorem dX2_setKnots_0 : decode cX2_setKnots 0 = .ok (.iload_n 1, 1) := by decide +kernel
theorem dX2_setKnots_1 : decode cX2_setKnots 1 = .ok (.invokestatic 27, 3) := by decide +kernel
theorem dX2_setKnots_4 : decode cX2_setKnots 4 = .ok (.ifCond .eq 25, 3) := by decide +kernel
theorem dX2_setKnots_7 : decode cX2_setKnots 7 = .ok (.iload_n 2, 1) := by decide +kernel
theorem dX2_setKnots_8 : decode cX2_setKnots 8 = .ok (.invokestatic 49, 3) := by decide +kernel
theorem dX2_setKnots_11 : decode cX2_setKnots 11 = .ok (.ifCond .eq 18, 3) := by decide +kernel
theorem dX2_setKnots_14 : decode cX2_setKnots 14 = .ok (.aload_n 0, 1) := by decide +kernel
theorem dX2_setKnots_15 : decode cX2_setKnots 15 = .ok (.getfield 11, 3) := by decide +kernel
theorem dX2_setKnots_18 : decode cX2_setKnots 18 = .ok (.bipush 14, 2) := by decide +kernel
theorem dX2_setKnots_20 : decode cX2_setKnots 20 = .ok (.iload_n 1, 1) := by decide +kernel
theorem dX2_setKnots_21 : decode cX2_setKnots 21 = .ok (.bipush 6, 2) := by decide +kernel
theorem dX2_setKnots_23 : decode cX2_setKnots 23 = .ok (.imul, 1) := by decide +kernel
theorem dX2_setKnots_24 : decode cX2_setKnots 24 = .ok (.iadd, 1) := by decide +kernel
theorem dX2_setKnots_25 : decode cX2_setKnots 25 = .ok (.iload_n 2, 1) := by decide +kernel
theorem dX2_setKnots_26 : decode cX2_setKnots 26 = .ok (.iadd, 1) := by decide +kernel
theorem dX2_setKnots_27 : decode cX2_setKnots 27 = .ok (.iload_n 3, 1) := by decide +kernel
theorem dX2_setKnots_28 : decode cX2_setKnots 28 = .ok (.iastore, 1) := by decide +kernel
theorem dX2_setKnots_29 : decode cX2_setKnots 29 = .ok (.return_, 1) := by decide +kernel
theorem dX2_duesOf_0 : decode cX2_duesOf 0 = .ok (.iload_n 1, 1) := by decide +kernel
theorem dX2_duesOf_1 : decode cX2_duesOf 1 = .ok (.invokestatic 49, 3) := by decide +kernel
theorem dX2_duesOf_4 : decode cX2_duesOf 4 = .ok (.ifCond .eq 27, 3) := by decide +kernel
theorem dX2_duesOf_7 : decode cX2_duesOf 7 = .ok (.iload_n 2, 1) := by decide +kernel
theorem dX2_duesOf_8 : decode cX2_duesOf 8 = .ok (.invokestatic 49, 3) := by decide +kernel
theorem dX2_duesOf_11 : decode cX2_duesOf 11 = .ok (.ifCond .eq 20, 3) := by decide +kernel
theorem dX2_duesOf_14 : decode cX2_duesOf 14 = .ok (.aload_n 0, 1) := by decide +kernel
theorem dX2_duesOf_15 : decode cX2_duesOf 15 = .ok (.getfield 11, 3) := by decide +kernel
theorem dX2_duesOf_18 : decode cX2_duesOf 18 = .ok (.bipush 38, 2) := by decide +kernel
theorem dX2_duesOf_20 : decode cX2_duesOf 20 = .ok (.iload_n 1, 1) := by decide +kernel
theorem dX2_duesOf_21 : decode cX2_duesOf 21 = .ok (.bipush 6, 2) := by decide +kernel
theorem dX2_duesOf_23 : decode cX2_duesOf 23 = .ok (.imul, 1) := by decide +kernel
theorem dX2_duesOf_24 : decode cX2_duesOf 24 = .ok (.iadd, 1) := by decide +kernel
theorem dX2_duesOf_25 : decode cX2_duesOf 25 = .ok (.iload_n 2, 1) := by decide +kernel
theorem dX2_duesOf_26 : decode cX2_duesOf 26 = .ok (.iadd, 1) := by decide +kernel
theorem dX2_duesOf_27 : decode cX2_duesOf 27 = .ok (.iaload, 1) := by decide +kernel
theorem dX2_duesOf_28 : decode cX2_duesOf 28 = .ok (.goto 4, 3) := by decide +kernel
theorem dX2_duesOf_31 : decode cX2_duesOf 31 = .ok (.iconst 0, 1) := by decide +kernel
theorem dX2_duesOf_32 : decode cX2_duesOf 32 = .ok (.ireturn, 1) := by decide +kernel
theorem dX2_setDues_0 : decode cX2_setDues 0 = .ok (.iload_n 1, 1) := by decide +kernel
theorem dX2_setDues_1 : decode cX2_setDues 1 = .ok (.invokestatic 49, 3) := by decide +kernel
theorem dX2_setDues_4 : decode cX2_setDues 4 = .ok (.ifCond .eq 25, 3) := by decide +kernel
theorem dX2_setDues_7 : decode cX2_setDues 7 = .ok (.iload_n 2, 1) := by decide +kernel
theorem dX2_setDues_8 : decode cX2_setDues 8 = .ok (.invokestatic 49, 3) := by decide +kernel
theorem dX2_setDues_11 : decode cX2_setDues 11 = .ok (.ifCond .eq 18, 3) := by decide +kernel
theorem dX2_setDues_14 : decode cX2_setDues 14 = .ok (.aload_n 0, 1) := by decide +kernel
theorem dX2_setDues_15 : decode cX2_setDues 15 = .ok (.getfield 11, 3) := by decide +kernel
theorem dX2_setDues_18 : decode cX2_setDues 18 = .ok (.bipush 38, 2) := by decide +kernel
theorem dX2_setDues_20 : decode cX2_setDues 20 = .ok (.iload_n 1, 1) := by decide +kernel
theorem dX2_setDues_21 : decode cX2_setDues 21 = .ok (.bipush 6, 2) := by decide +kernel
theorem dX2_setDues_23 : decode cX2_setDues 23 = .ok (.imul, 1) := by decide +kernel
theorem dX2_setDues_24 : decode cX2_setDues 24 = .ok (.iadd, 1) := by decide +kernel
theorem dX2_setDues_25 : decode cX2_setDues 25 = .ok (.iload_n 2, 1) := by decide +kernel
theorem dX2_setDues_26 : decode cX2_setDues 26 = .ok (.iadd, 1) := by decide +kernel
theorem dX2_setDues_27 : decode cX2_setDues 27 = .ok (.iload_n 3, 1) := by decide +kernel
theorem dX2_setDues_28 : decode cX2_setDues 28 = .ok (.iastore, 1) := by decide +kernel
theorem dX2_setDues_29 : decode cX2_setDues 29 = .ok (.return_, 1) := by decide +kernel
theorem dX2_knotsOfCaravan_0 : decode cX2_knotsOfCaravan 0 = .ok (.iconst 0, 1) := by decide +kernel
theorem dX2_knotsOfCaravan_1 : decode cX2_knotsOfCaravan 1 = .ok (.istore_n 2, 1) := by decide +kernel
theorem dX2_knotsOfCaravan_2 : decode cX2_knotsOfCaravan 2 = .ok (.iconst 0, 1) := by decide +kernel
theorem dX2_knotsOfCaravan_3 : decode cX2_knotsOfCaravan 3 = .ok (.istore_n 3, 1) := by decide +kernel
theorem dX2_knotsOfCaravan_4 : decode cX2_knotsOfCaravan 4 = .ok (.iload_n 3, 1) := by decide +kernel
theorem dX2_knotsOfCaravan_5 : decode cX2_knotsOfCaravan 5 = .ok (.bipush 6, 2) := by decide +kernel
theorem dX2_knotsOfCaravan_7 : decode cX2_knotsOfCaravan 7 = .ok (.if_icmp .ge 18, 3) := by decide +kernel
theorem dX2_knotsOfCaravan_10 : decode cX2_knotsOfCaravan 10 = .ok (.iload_n 2, 1) := by decide +kernel
theorem dX2_knotsOfCaravan_11 : decode cX2_knotsOfCaravan 11 = .ok (.aload_n 0, 1) := by decide +kernel
theorem dX2_knotsOfCaravan_12 : decode cX2_knotsOfCaravan 12 = .ok (.iload_n 1, 1) := by decide +kernel
theorem dX2_knotsOfCaravan_13 : decode cX2_knotsOfCaravan 13 = .ok (.iload_n 3, 1) := by decide +kernel
theorem dX2_knotsOfCaravan_14 : decode cX2_knotsOfCaravan 14 = .ok (.invokevirtual 52, 3) := by decide +kernel
theorem dX2_knotsOfCaravan_17 : decode cX2_knotsOfCaravan 17 = .ok (.iadd, 1) := by decide +kernel
theorem dX2_knotsOfCaravan_18 : decode cX2_knotsOfCaravan 18 = .ok (.istore_n 2, 1) := by decide +kernel
theorem dX2_knotsOfCaravan_19 : decode cX2_knotsOfCaravan 19 = .ok (.iinc 3 1, 3) := by decide +kernel
theorem dX2_knotsOfCaravan_22 : decode cX2_knotsOfCaravan 22 = .ok (.goto (-18), 3) := by decide +kernel
theorem dX2_knotsOfCaravan_25 : decode cX2_knotsOfCaravan 25 = .ok (.iload_n 2, 1) := by decide +kernel
theorem dX2_knotsOfCaravan_26 : decode cX2_knotsOfCaravan 26 = .ok (.ireturn, 1) := by decide +kernel
theorem dX2_knotsAtWell_0 : decode cX2_knotsAtWell 0 = .ok (.iconst 0, 1) := by decide +kernel
theorem dX2_knotsAtWell_1 : decode cX2_knotsAtWell 1 = .ok (.istore_n 2, 1) := by decide +kernel
theorem dX2_knotsAtWell_2 : decode cX2_knotsAtWell 2 = .ok (.iconst 0, 1) := by decide +kernel
theorem dX2_knotsAtWell_3 : decode cX2_knotsAtWell 3 = .ok (.istore_n 3, 1) := by decide +kernel
theorem dX2_knotsAtWell_4 : decode cX2_knotsAtWell 4 = .ok (.iload_n 3, 1) := by decide +kernel
theorem dX2_knotsAtWell_5 : decode cX2_knotsAtWell 5 = .ok (.iconst 4, 1) := by decide +kernel
theorem dX2_knotsAtWell_6 : decode cX2_knotsAtWell 6 = .ok (.if_icmp .ge 18, 3) := by decide +kernel
theorem dX2_knotsAtWell_9 : decode cX2_knotsAtWell 9 = .ok (.iload_n 2, 1) := by decide +kernel
theorem dX2_knotsAtWell_10 : decode cX2_knotsAtWell 10 = .ok (.aload_n 0, 1) := by decide +kernel
theorem dX2_knotsAtWell_11 : decode cX2_knotsAtWell 11 = .ok (.iload_n 3, 1) := by decide +kernel
theorem dX2_knotsAtWell_12 : decode cX2_knotsAtWell 12 = .ok (.iload_n 1, 1) := by decide +kernel
theorem dX2_knotsAtWell_13 : decode cX2_knotsAtWell 13 = .ok (.invokevirtual 52, 3) := by decide +kernel
theorem dX2_knotsAtWell_16 : decode cX2_knotsAtWell 16 = .ok (.iadd, 1) := by decide +kernel
theorem dX2_knotsAtWell_17 : decode cX2_knotsAtWell 17 = .ok (.istore_n 2, 1) := by decide +kernel
theorem dX2_knotsAtWell_18 : decode cX2_knotsAtWell 18 = .ok (.iinc 3 1, 3) := by decide +kernel
theorem dX2_knotsAtWell_21 : decode cX2_knotsAtWell 21 = .ok (.goto (-17), 3) := by decide +kernel
theorem dX2_knotsAtWell_24 : decode cX2_knotsAtWell 24 = .ok (.iload_n 2, 1) := by decide +kernel
theorem dX2_knotsAtWell_25 : decode cX2_knotsAtWell 25 = .ok (.ireturn, 1) := by decide +kernel
theorem dX2_allKnots_0 : decode cX2_allKnots 0 = .ok (.iconst 0, 1) := by decide +kernel
theorem dX2_allKnots_1 : decode cX2_allKnots 1 = .ok (.istore_n 1, 1) := by decide +kernel
theorem dX2_allKnots_2 : decode cX2_allKnots 2 = .ok (.iconst 0, 1) := by decide +kernel
theorem dX2_allKnots_3 : decode cX2_allKnots 3 = .ok (.istore_n 2, 1) := by decide +kernel
theorem dX2_allKnots_4 : decode cX2_allKnots 4 = .ok (.iload_n 2, 1) := by decide +kernel
theorem dX2_allKnots_5 : decode cX2_allKnots 5 = .ok (.bipush 6, 2) := by decide +kernel
theorem dX2_allKnots_7 : decode cX2_allKnots 7 = .ok (.if_icmp .ge 17, 3) := by decide +kernel
theorem dX2_allKnots_10 : decode cX2_allKnots 10 = .ok (.iload_n 1, 1) := by decide +kernel
theorem dX2_allKnots_11 : decode cX2_allKnots 11 = .ok (.aload_n 0, 1) := by decide +kernel
theorem dX2_allKnots_12 : decode cX2_allKnots 12 = .ok (.iload_n 2, 1) := by decide +kernel
theorem dX2_allKnots_13 : decode cX2_allKnots 13 = .ok (.invokevirtual 55, 3) := by decide +kernel
theorem dX2_allKnots_16 : decode cX2_allKnots 16 = .ok (.iadd, 1) := by decide +kernel
theorem dX2_allKnots_17 : decode cX2_allKnots 17 = .ok (.istore_n 1, 1) := by decide +kernel
theorem dX2_allKnots_18 : decode cX2_allKnots 18 = .ok (.iinc 2 1, 3) := by decide +kernel
theorem dX2_allKnots_21 : decode cX2_allKnots 21 = .ok (.goto (-17), 3) := by decide +kernel
theorem dX2_allKnots_24 : decode cX2_allKnots 24 = .ok (.iload_n 1, 1) := by decide +kernel
theorem dX2_allKnots_25 : decode cX2_allKnots 25 = .ok (.ireturn, 1) := by decide +kernel
theorem dX2_duesBy_0 : decode cX2_duesBy 0 = .ok (.iconst 0, 1) := by decide +kernel
theorem dX2_duesBy_1 : decode cX2_duesBy 1 = .ok (.istore_n 2, 1) := by decide +kernel
theorem dX2_duesBy_2 : decode cX2_duesBy 2 = .ok (.iconst 0, 1) := by decide +kernel
theorem dX2_duesBy_3 : decode cX2_duesBy 3 = .ok (.istore_n 3, 1) := by decide +kernel
theorem dX2_duesBy_4 : decode cX2_duesBy 4 = .ok (.iload_n 3, 1) := by decide +kernel
theorem dX2_duesBy_5 : decode cX2_duesBy 5 = .ok (.bipush 6, 2) := by decide +kernel
theorem dX2_duesBy_7 : decode cX2_duesBy 7 = .ok (.if_icmp .ge 18, 3) := by decide +kernel
theorem dX2_duesBy_10 : decode cX2_duesBy 10 = .ok (.iload_n 2, 1) := by decide +kernel
theorem dX2_duesBy_11 : decode cX2_duesBy 11 = .ok (.aload_n 0, 1) := by decide +kernel
theorem dX2_duesBy_12 : decode cX2_duesBy 12 = .ok (.iload_n 1, 1) := by decide +kernel
theorem dX2_duesBy_13 : decode cX2_duesBy 13 = .ok (.iload_n 3, 1) := by decide +kernel
theorem dX2_duesBy_14 : decode cX2_duesBy 14 = .ok (.invokevirtual 58, 3) := by decide +kernel
theorem dX2_duesBy_17 : decode cX2_duesBy 17 = .ok (.iadd, 1) := by decide +kernel
theorem dX2_duesBy_18 : decode cX2_duesBy 18 = .ok (.istore_n 2, 1) := by decide +kernel
theorem dX2_duesBy_19 : decode cX2_duesBy 19 = .ok (.iinc 3 1, 3) := by decide +kernel
theorem dX2_duesBy_22 : decode cX2_duesBy 22 = .ok (.goto (-18), 3) := by decide +kernel
theorem dX2_duesBy_25 : decode cX2_duesBy 25 = .ok (.iload_n 2, 1) := by decide +kernel
theorem dX2_duesBy_26 : decode cX2_duesBy 26 = .ok (.ireturn, 1) := by decide +kernel
theorem dX2_duesTo_0 : decode cX2_duesTo 0 = .ok (.iconst 0, 1) := by decide +kernel
theorem dX2_duesTo_1 : decode cX2_duesTo 1 = .ok (.istore_n 2, 1) := by decide +kernel
theorem dX2_duesTo_2 : decode cX2_duesTo 2 = .ok (.iconst 0, 1) := by decide +kernel
theorem dX2_duesTo_3 : decode cX2_duesTo 3 = .ok (.istore_n 3, 1) := by decide +kernel
theorem dX2_duesTo_4 : decode cX2_duesTo 4 = .ok (.iload_n 3, 1) := by decide +kernel
theorem dX2_duesTo_5 : decode cX2_duesTo 5 = .ok (.bipush 6, 2) := by decide +kernel
theorem dX2_duesTo_7 : decode cX2_duesTo 7 = .ok (.if_icmp .ge 18, 3) := by decide +kernel
theorem dX2_duesTo_10 : decode cX2_duesTo 10 = .ok (.iload_n 2, 1) := by decide +kernel
theorem dX2_duesTo_11 : decode cX2_duesTo 11 = .ok (.aload_n 0, 1) := by decide +kernel
theorem dX2_duesTo_12 : decode cX2_duesTo 12 = .ok (.iload_n 3, 1) := by decide +kernel
theorem dX2_duesTo_13 : decode cX2_duesTo 13 = .ok (.iload_n 1, 1) := by decide +kernel
theorem dX2_duesTo_14 : decode cX2_duesTo 14 = .ok (.invokevirtual 58, 3) := by decide +kernel
theorem dX2_duesTo_17 : decode cX2_duesTo 17 = .ok (.iadd, 1) := by decide +kernel
theorem dX2_duesTo_18 : decode cX2_duesTo 18 = .ok (.istore_n 2, 1) := by decide +kernel
theorem dX2_duesTo_19 : decode cX2_duesTo 19 = .ok (.iinc 3 1, 3) := by decide +kernel
theorem dX2_duesTo_22 : decode cX2_duesTo 22 = .ok (.goto (-18), 3) := by decide +kernel
theorem dX2_duesTo_25 : decode cX2_duesTo 25 = .ok (.iload_n 2, 1) := by decide +kernel
theorem dX2_duesTo_26 : decode cX2_duesTo 26 = .ok (.ireturn, 1) := by decide +kernel
theorem dX2_allDues_0 : decode cX2_allDues 0 = .ok (.iconst 0, 1) := by decide +kernel
theorem dX2_allDues_1 : decode cX2_allDues 1 = .ok (.istore_n 1, 1) := by decide +kernel
theorem dX2_allDues_2 : decode cX2_allDues 2 = .ok (.iconst 0, 1) := by decide +kernel
theorem dX2_allDues_3 : decode cX2_allDues 3 = .ok (.istore_n 2, 1) := by decide +kernel
theorem dX2_allDues_4 : decode cX2_allDues 4 = .ok (.iload_n 2, 1) := by decide +kernel
theorem dX2_allDues_5 : decode cX2_allDues 5 = .ok (.bipush 6, 2) := by decide +kernel
theorem dX2_allDues_7 : decode cX2_allDues 7 = .ok (.if_icmp .ge 17, 3) := by decide +kernel
theorem dX2_allDues_10 : decode cX2_allDues 10 = .ok (.iload_n 1, 1) := by decide +kernel
theorem dX2_allDues_11 : decode cX2_allDues 11 = .ok (.aload_n 0, 1) := by decide +kernel
theorem dX2_allDues_12 : decode cX2_allDues 12 = .ok (.iload_n 2, 1) := by decide +kernel
theorem dX2_allDues_13 : decode cX2_allDues 13 = .ok (.invokevirtual 61, 3) := by decide +kernel
theorem dX2_allDues_16 : decode cX2_allDues 16 = .ok (.iadd, 1) := by decide +kernel
theorem dX2_allDues_17 : decode cX2_allDues 17 = .ok (.istore_n 1, 1) := by decide +kernel
theorem dX2_allDues_18 : decode cX2_allDues 18 = .ok (.iinc 2 1, 3) := by decide +kernel
theorem dX2_allDues_21 : decode cX2_allDues 21 = .ok (.goto (-17), 3) := by decide +kernel
theorem dX2_allDues_24 : decode cX2_allDues 24 = .ok (.iload_n 1, 1) := by decide +kernel
theorem dX2_allDues_25 : decode cX2_allDues 25 = .ok (.ireturn, 1) := by decide +kernel
theorem dX2_netOf_0 : decode cX2_netOf 0 = .ok (.aload_n 0, 1) := by decide +kernel
theorem dX2_netOf_1 : decode cX2_netOf 1 = .ok (.iload_n 1, 1) := by decide +kernel
theorem dX2_netOf_2 : decode cX2_netOf 2 = .ok (.invokevirtual 64, 3) := by decide +kernel
theorem dX2_netOf_5 : decode cX2_netOf 5 = .ok (.aload_n 0, 1) := by decide +kernel
theorem dX2_netOf_6 : decode cX2_netOf 6 = .ok (.iload_n 1, 1) := by decide +kernel
theorem dX2_netOf_7 : decode cX2_netOf 7 = .ok (.invokevirtual 61, 3) := by decide +kernel
theorem dX2_netOf_10 : decode cX2_netOf 10 = .ok (.isub, 1) := by decide +kernel
theorem dX2_netOf_11 : decode cX2_netOf 11 = .ok (.ireturn, 1) := by decide +kernel
theorem dX2_isCaravan_0 : decode cX2_isCaravan 0 = .ok (.iconst 0, 1) := by decide +kernel
theorem dX2_isCaravan_1 : decode cX2_isCaravan 1 = .ok (.iload_n 0, 1) := by decide +kernel
theorem dX2_isCaravan_2 : decode cX2_isCaravan 2 = .ok (.if_icmp .gt 12, 3) := by decide +kernel
theorem dX2_isCaravan_5 : decode cX2_isCaravan 5 = .ok (.iload_n 0, 1) := by decide +kernel
theorem dX2_isCaravan_6 : decode cX2_isCaravan 6 = .ok (.iconst 4, 1) := by decide +kernel
theorem dX2_isCaravan_7 : decode cX2_isCaravan 7 = .ok (.if_icmp .ge 7, 3) := by decide +kernel
theorem dX2_isCaravan_10 : decode cX2_isCaravan 10 = .ok (.iconst 1, 1) := by decide +kernel
theorem dX2_isCaravan_11 : decode cX2_isCaravan 11 = .ok (.goto 4, 3) := by decide +kernel
theorem dX2_isCaravan_14 : decode cX2_isCaravan 14 = .ok (.iconst 0, 1) := by decide +kernel
theorem dX2_isCaravan_15 : decode cX2_isCaravan 15 = .ok (.ireturn, 1) := by decide +kernel
theorem dX2_isWell_0 : decode cX2_isWell 0 = .ok (.iconst 0, 1) := by decide +kernel
theorem dX2_isWell_1 : decode cX2_isWell 1 = .ok (.iload_n 0, 1) := by decide +kernel
theorem dX2_isWell_2 : decode cX2_isWell 2 = .ok (.if_icmp .gt 13, 3) := by decide +kernel
theorem dX2_isWell_5 : decode cX2_isWell 5 = .ok (.iload_n 0, 1) := by decide +kernel
theorem dX2_isWell_6 : decode cX2_isWell 6 = .ok (.bipush 6, 2) := by decide +kernel
theorem dX2_isWell_8 : decode cX2_isWell 8 = .ok (.if_icmp .ge 7, 3) := by decide +kernel
theorem dX2_isWell_11 : decode cX2_isWell 11 = .ok (.iconst 1, 1) := by decide +kernel
theorem dX2_isWell_12 : decode cX2_isWell 12 = .ok (.goto 4, 3) := by decide +kernel
theorem dX2_isWell_15 : decode cX2_isWell 15 = .ok (.iconst 0, 1) := by decide +kernel
theorem dX2_isWell_16 : decode cX2_isWell 16 = .ok (.ireturn, 1) := by decide +kernel
theorem dX3_init_0 : decode cX3_init 0 = .ok (.aload_n 0, 1) := by decide +kernel
theorem dX3_init_1 : decode cX3_init 1 = .ok (.invokespecial 3, 3) := by decide +kernel
theorem dX3_init_4 : decode cX3_init 4 = .ok (.aload_n 0, 1) := by decide +kernel
theorem dX3_init_5 : decode cX3_init 5 = .ok (.bipush 6, 2) := by decide +kernel
theorem dX3_init_7 : decode cX3_init 7 = .ok (.newarray .int, 2) := by decide +kernel
theorem dX3_init_9 : decode cX3_init 9 = .ok (.putfield 9, 3) := by decide +kernel
theorem dX3_init_12 : decode cX3_init 12 = .ok (.aload_n 0, 1) := by decide +kernel
theorem dX3_init_13 : decode cX3_init 13 = .ok (.bipush 6, 2) := by decide +kernel
theorem dX3_init_15 : decode cX3_init 15 = .ok (.newarray .int, 2) := by decide +kernel
theorem dX3_init_17 : decode cX3_init 17 = .ok (.putfield 15, 3) := by decide +kernel
theorem dX3_init_20 : decode cX3_init 20 = .ok (.return_, 1) := by decide +kernel
theorem dX3_wellAt_0 : decode cX3_wellAt 0 = .ok (.iconst 0, 1) := by decide +kernel
theorem dX3_wellAt_1 : decode cX3_wellAt 1 = .ok (.iload_n 1, 1) := by decide +kernel
theorem dX3_wellAt_2 : decode cX3_wellAt 2 = .ok (.if_icmp .gt 26, 3) := by decide +kernel
theorem dX3_wellAt_5 : decode cX3_wellAt 5 = .ok (.iload_n 1, 1) := by decide +kernel
theorem dX3_wellAt_6 : decode cX3_wellAt 6 = .ok (.aload_n 0, 1) := by decide +kernel
theorem dX3_wellAt_7 : decode cX3_wellAt 7 = .ok (.getfield 18, 3) := by decide +kernel
theorem dX3_wellAt_10 : decode cX3_wellAt 10 = .ok (.if_icmp .ge 18, 3) := by decide +kernel
theorem dX3_wellAt_13 : decode cX3_wellAt 13 = .ok (.iload_n 1, 1) := by decide +kernel
theorem dX3_wellAt_14 : decode cX3_wellAt 14 = .ok (.bipush 6, 2) := by decide +kernel
theorem dX3_wellAt_16 : decode cX3_wellAt 16 = .ok (.if_icmp .ge 12, 3) := by decide +kernel
theorem dX3_wellAt_19 : decode cX3_wellAt 19 = .ok (.aload_n 0, 1) := by decide +kernel
theorem dX3_wellAt_20 : decode cX3_wellAt 20 = .ok (.getfield 9, 3) := by decide +kernel
theorem dX3_wellAt_23 : decode cX3_wellAt 23 = .ok (.iload_n 1, 1) := by decide +kernel
theorem dX3_wellAt_24 : decode cX3_wellAt 24 = .ok (.iaload, 1) := by decide +kernel
theorem dX3_wellAt_25 : decode cX3_wellAt 25 = .ok (.goto 5, 3) := by decide +kernel
theorem dX3_wellAt_28 : decode cX3_wellAt 28 = .ok (.bipush (-9), 2) := by decide +kernel
theorem dX3_wellAt_30 : decode cX3_wellAt 30 = .ok (.ireturn, 1) := by decide +kernel
theorem dX3_find_0 : decode cX3_find 0 = .ok (.aload_n 0, 1) := by decide +kernel
theorem dX3_find_1 : decode cX3_find 1 = .ok (.iconst 0, 1) := by decide +kernel
theorem dX3_find_2 : decode cX3_find 2 = .ok (.putfield 18, 3) := by decide +kernel
theorem dX3_find_5 : decode cX3_find 5 = .ok (.aload_n 0, 1) := by decide +kernel
theorem dX3_find_6 : decode cX3_find 6 = .ok (.iconst 0, 1) := by decide +kernel
theorem dX3_find_7 : decode cX3_find 7 = .ok (.putfield 22, 3) := by decide +kernel
theorem dX3_find_10 : decode cX3_find 10 = .ok (.iconst 0, 1) := by decide +kernel
theorem dX3_find_11 : decode cX3_find 11 = .ok (.istore_n 3, 1) := by decide +kernel
theorem dX3_find_12 : decode cX3_find 12 = .ok (.iload_n 3, 1) := by decide +kernel
theorem dX3_find_13 : decode cX3_find 13 = .ok (.iload_n 2, 1) := by decide +kernel
theorem dX3_find_14 : decode cX3_find 14 = .ok (.if_icmp .ge 34, 3) := by decide +kernel
theorem dX3_find_17 : decode cX3_find 17 = .ok (.iload_n 3, 1) := by decide +kernel
theorem dX3_find_18 : decode cX3_find 18 = .ok (.bipush 6, 2) := by decide +kernel
theorem dX3_find_20 : decode cX3_find 20 = .ok (.if_icmp .ge 28, 3) := by decide +kernel
theorem dX3_find_23 : decode cX3_find 23 = .ok (.aload_n 0, 1) := by decide +kernel
theorem dX3_find_24 : decode cX3_find 24 = .ok (.getfield 15, 3) := by decide +kernel
theorem dX3_find_27 : decode cX3_find 27 = .ok (.iconst 0, 1) := by decide +kernel
theorem dX3_find_28 : decode cX3_find 28 = .ok (.iload_n 3, 1) := by decide +kernel
theorem dX3_find_29 : decode cX3_find 29 = .ok (.iastore, 1) := by decide +kernel
theorem dX3_find_30 : decode cX3_find 30 = .ok (.aload_n 0, 1) := by decide +kernel
theorem dX3_find_31 : decode cX3_find 31 = .ok (.aload_n 1, 1) := by decide +kernel
theorem dX3_find_32 : decode cX3_find 32 = .ok (.iload_n 2, 1) := by decide +kernel
theorem dX3_find_33 : decode cX3_find 33 = .ok (.iconst 1, 1) := by decide +kernel
theorem dX3_find_34 : decode cX3_find 34 = .ok (.iconst 1, 1) := by decide +kernel
theorem dX3_find_35 : decode cX3_find 35 = .ok (.iload_n 3, 1) := by decide +kernel
theorem dX3_find_36 : decode cX3_find 36 = .ok (.ishl, 1) := by decide +kernel
theorem dX3_find_37 : decode cX3_find 37 = .ok (.bipush 60, 2) := by decide +kernel
theorem dX3_find_39 : decode cX3_find 39 = .ok (.invokevirtual 25, 3) := by decide +kernel
theorem dX3_find_42 : decode cX3_find 42 = .ok (.iinc 3 1, 3) := by decide +kernel
theorem dX3_find_45 : decode cX3_find 45 = .ok (.goto (-33), 3) := by decide +kernel
theorem dX3_find_48 : decode cX3_find 48 = .ok (.return_, 1) := by decide +kernel
theorem dX3_walk_0 : decode cX3_walk 0 = .ok (.iload_n 3, 1) := by decide +kernel
theorem dX3_walk_1 : decode cX3_walk 1 = .ok (.iconst 1, 1) := by decide +kernel
theorem dX3_walk_2 : decode cX3_walk 2 = .ok (.if_icmp .lt 9, 3) := by decide +kernel
theorem dX3_walk_5 : decode cX3_walk 5 = .ok (.iload_n 3, 1) := by decide +kernel
theorem dX3_walk_6 : decode cX3_walk 6 = .ok (.bipush 6, 2) := by decide +kernel
theorem dX3_walk_8 : decode cX3_walk 8 = .ok (.if_icmp .le 4, 3) := by decide +kernel
theorem dX3_walk_11 : decode cX3_walk 11 = .ok (.return_, 1) := by decide +kernel
theorem dX3_walk_12 : decode cX3_walk 12 = .ok (.aload_n 0, 1) := by decide +kernel
theorem dX3_walk_13 : decode cX3_walk 13 = .ok (.getfield 15, 3) := by decide +kernel
theorem dX3_walk_16 : decode cX3_walk 16 = .ok (.iload_n 3, 1) := by decide +kernel
theorem dX3_walk_17 : decode cX3_walk 17 = .ok (.iconst 1, 1) := by decide +kernel
theorem dX3_walk_18 : decode cX3_walk 18 = .ok (.isub, 1) := by decide +kernel
theorem dX3_walk_19 : decode cX3_walk 19 = .ok (.iaload, 1) := by decide +kernel
theorem dX3_walk_20 : decode cX3_walk 20 = .ok (.istore 6, 2) := by decide +kernel
theorem dX3_walk_22 : decode cX3_walk 22 = .ok (.aload_n 1, 1) := by decide +kernel
theorem dX3_walk_23 : decode cX3_walk 23 = .ok (.iload 6, 2) := by decide +kernel
theorem dX3_walk_25 : decode cX3_walk 25 = .ok (.aload_n 0, 1) := by decide +kernel
theorem dX3_walk_26 : decode cX3_walk 26 = .ok (.getfield 15, 3) := by decide +kernel
theorem dX3_walk_29 : decode cX3_walk 29 = .ok (.iconst 0, 1) := by decide +kernel
theorem dX3_walk_30 : decode cX3_walk 30 = .ok (.iaload, 1) := by decide +kernel
theorem dX3_walk_31 : decode cX3_walk 31 = .ok (.invokevirtual 29, 3) := by decide +kernel
theorem dX3_walk_34 : decode cX3_walk 34 = .ok (.istore 7, 2) := by decide +kernel
theorem dX3_walk_36 : decode cX3_walk 36 = .ok (.iload_n 3, 1) := by decide +kernel
theorem dX3_walk_37 : decode cX3_walk 37 = .ok (.iconst 2, 1) := by decide +kernel
theorem dX3_walk_38 : decode cX3_walk 38 = .ok (.if_icmp .lt 20, 3) := by decide +kernel
theorem dX3_walk_41 : decode cX3_walk 41 = .ok (.iload 7, 2) := by decide +kernel
theorem dX3_walk_43 : decode cX3_walk 43 = .ok (.ifCond .le 15, 3) := by decide +kernel
theorem dX3_walk_46 : decode cX3_walk 46 = .ok (.aload_n 0, 1) := by decide +kernel
theorem dX3_walk_47 : decode cX3_walk 47 = .ok (.iload_n 3, 1) := by decide +kernel
theorem dX3_walk_48 : decode cX3_walk 48 = .ok (.iload 5, 2) := by decide +kernel
theorem dX3_walk_50 : decode cX3_walk 50 = .ok (.iload 7, 2) := by decide +kernel
theorem dX3_walk_52 : decode cX3_walk 52 = .ok (.invokestatic 35, 3) := by decide +kernel
theorem dX3_walk_55 : decode cX3_walk 55 = .ok (.invokevirtual 40, 3) := by decide +kernel
theorem dX3_walk_58 : decode cX3_walk 58 = .ok (.aload_n 0, 1) := by decide +kernel
theorem dX3_walk_59 : decode cX3_walk 59 = .ok (.getfield 15, 3) := by decide +kernel
theorem dX3_walk_62 : decode cX3_walk 62 = .ok (.iconst 0, 1) := by decide +kernel
theorem dX3_walk_63 : decode cX3_walk 63 = .ok (.iaload, 1) := by decide +kernel
theorem dX3_walk_64 : decode cX3_walk 64 = .ok (.iconst 1, 1) := by decide +kernel
theorem dX3_walk_65 : decode cX3_walk 65 = .ok (.iadd, 1) := by decide +kernel
theorem dX3_walk_66 : decode cX3_walk 66 = .ok (.istore 8, 2) := by decide +kernel
theorem dX3_walk_68 : decode cX3_walk 68 = .ok (.iload 8, 2) := by decide +kernel
theorem dX3_walk_70 : decode cX3_walk 70 = .ok (.iload_n 2, 1) := by decide +kernel
theorem dX3_walk_71 : decode cX3_walk 71 = .ok (.if_icmp .ge 71, 3) := by decide +kernel
theorem dX3_walk_74 : decode cX3_walk 74 = .ok (.iload_n 3, 1) := by decide +kernel
theorem dX3_walk_75 : decode cX3_walk 75 = .ok (.bipush 6, 2) := by decide +kernel
theorem dX3_walk_77 : decode cX3_walk 77 = .ok (.if_icmp .ge 65, 3) := by decide +kernel
theorem dX3_walk_80 : decode cX3_walk 80 = .ok (.aload_n 1, 1) := by decide +kernel
theorem dX3_walk_81 : decode cX3_walk 81 = .ok (.iload 6, 2) := by decide +kernel
theorem dX3_walk_83 : decode cX3_walk 83 = .ok (.iload 8, 2) := by decide +kernel
theorem dX3_walk_85 : decode cX3_walk 85 = .ok (.invokevirtual 29, 3) := by decide +kernel
theorem dX3_walk_88 : decode cX3_walk 88 = .ok (.istore 9, 2) := by decide +kernel
theorem dX3_walk_90 : decode cX3_walk 90 = .ok (.iload 9, 2) := by decide +kernel
theorem dX3_walk_92 : decode cX3_walk 92 = .ok (.ifCond .le 44, 3) := by decide +kernel
theorem dX3_walk_95 : decode cX3_walk 95 = .ok (.iload 4, 2) := by decide +kernel
theorem dX3_walk_97 : decode cX3_walk 97 = .ok (.iload 8, 2) := by decide +kernel
theorem dX3_walk_99 : decode cX3_walk 99 = .ok (.invokestatic 44, 3) := by decide +kernel
theorem dX3_walk_102 : decode cX3_walk 102 = .ok (.ifCond .ne 34, 3) := by decide +kernel
theorem dX3_walk_105 : decode cX3_walk 105 = .ok (.aload_n 0, 1) := by decide +kernel
theorem dX3_walk_106 : decode cX3_walk 106 = .ok (.getfield 15, 3) := by decide +kernel
theorem dX3_walk_109 : decode cX3_walk 109 = .ok (.iload_n 3, 1) := by decide +kernel
theorem dX3_walk_110 : decode cX3_walk 110 = .ok (.iload 8, 2) := by decide +kernel
theorem dX3_walk_112 : decode cX3_walk 112 = .ok (.iastore, 1) := by decide +kernel
theorem dX3_walk_113 : decode cX3_walk 113 = .ok (.aload_n 0, 1) := by decide +kernel
theorem dX3_walk_114 : decode cX3_walk 114 = .ok (.aload_n 1, 1) := by decide +kernel
theorem dX3_walk_115 : decode cX3_walk 115 = .ok (.iload_n 2, 1) := by decide +kernel
theorem dX3_walk_116 : decode cX3_walk 116 = .ok (.iload_n 3, 1) := by decide +kernel
theorem dX3_walk_117 : decode cX3_walk 117 = .ok (.iconst 1, 1) := by decide +kernel
theorem dX3_walk_118 : decode cX3_walk 118 = .ok (.iadd, 1) := by decide +kernel
theorem dX3_walk_119 : decode cX3_walk 119 = .ok (.iload 4, 2) := by decide +kernel
theorem dX3_walk_121 : decode cX3_walk 121 = .ok (.iconst 1, 1) := by decide +kernel
theorem dX3_walk_122 : decode cX3_walk 122 = .ok (.iload 8, 2) := by decide +kernel
theorem dX3_walk_124 : decode cX3_walk 124 = .ok (.ishl, 1) := by decide +kernel
theorem dX3_walk_125 : decode cX3_walk 125 = .ok (.ior, 1) := by decide +kernel
theorem dX3_walk_126 : decode cX3_walk 126 = .ok (.iload 5, 2) := by decide +kernel
theorem dX3_walk_128 : decode cX3_walk 128 = .ok (.iload 9, 2) := by decide +kernel
theorem dX3_walk_130 : decode cX3_walk 130 = .ok (.invokestatic 35, 3) := by decide +kernel
theorem dX3_walk_133 : decode cX3_walk 133 = .ok (.invokevirtual 25, 3) := by decide +kernel
theorem dX3_walk_136 : decode cX3_walk 136 = .ok (.iinc 8 1, 3) := by decide +kernel
theorem dX3_walk_139 : decode cX3_walk 139 = .ok (.goto (-71), 3) := by decide +kernel
theorem dX3_walk_142 : decode cX3_walk 142 = .ok (.return_, 1) := by decide +kernel
theorem dX3_offer_0 : decode cX3_offer 0 = .ok (.iload_n 1, 1) := by decide +kernel
theorem dX3_offer_1 : decode cX3_offer 1 = .ok (.iload_n 2, 1) := by decide +kernel
theorem dX3_offer_2 : decode cX3_offer 2 = .ok (.imul, 1) := by decide +kernel
theorem dX3_offer_3 : decode cX3_offer 3 = .ok (.istore_n 3, 1) := by decide +kernel
theorem dX3_offer_4 : decode cX3_offer 4 = .ok (.aload_n 0, 1) := by decide +kernel
theorem dX3_offer_5 : decode cX3_offer 5 = .ok (.getfield 18, 3) := by decide +kernel
theorem dX3_offer_8 : decode cX3_offer 8 = .ok (.aload_n 0, 1) := by decide +kernel
theorem dX3_offer_9 : decode cX3_offer 9 = .ok (.getfield 22, 3) := by decide +kernel
theorem dX3_offer_12 : decode cX3_offer 12 = .ok (.imul, 1) := by decide +kernel
theorem dX3_offer_13 : decode cX3_offer 13 = .ok (.istore 4, 2) := by decide +kernel
theorem dX3_offer_15 : decode cX3_offer 15 = .ok (.iload_n 3, 1) := by decide +kernel
theorem dX3_offer_16 : decode cX3_offer 16 = .ok (.iload 4, 2) := by decide +kernel
theorem dX3_offer_18 : decode cX3_offer 18 = .ok (.if_icmp .gt 17, 3) := by decide +kernel
theorem dX3_offer_21 : decode cX3_offer 21 = .ok (.iload_n 3, 1) := by decide +kernel
theorem dX3_offer_22 : decode cX3_offer 22 = .ok (.iload 4, 2) := by decide +kernel
theorem dX3_offer_24 : decode cX3_offer 24 = .ok (.if_icmp .ne 36, 3) := by decide +kernel
theorem dX3_offer_27 : decode cX3_offer 27 = .ok (.iload_n 1, 1) := by decide +kernel
theorem dX3_offer_28 : decode cX3_offer 28 = .ok (.aload_n 0, 1) := by decide +kernel
theorem dX3_offer_29 : decode cX3_offer 29 = .ok (.getfield 18, 3) := by decide +kernel
theorem dX3_offer_32 : decode cX3_offer 32 = .ok (.if_icmp .ge 28, 3) := by decide +kernel
theorem dX3_offer_35 : decode cX3_offer 35 = .ok (.aload_n 0, 1) := by decide +kernel
theorem dX3_offer_36 : decode cX3_offer 36 = .ok (.iload_n 1, 1) := by decide +kernel
theorem dX3_offer_37 : decode cX3_offer 37 = .ok (.putfield 18, 3) := by decide +kernel
theorem dX3_offer_40 : decode cX3_offer 40 = .ok (.aload_n 0, 1) := by decide +kernel
theorem dX3_offer_41 : decode cX3_offer 41 = .ok (.iload_n 2, 1) := by decide +kernel
theorem dX3_offer_42 : decode cX3_offer 42 = .ok (.putfield 22, 3) := by decide +kernel
theorem dX3_offer_45 : decode cX3_offer 45 = .ok (.aload_n 0, 1) := by decide +kernel
theorem dX3_offer_46 : decode cX3_offer 46 = .ok (.getfield 15, 3) := by decide +kernel
theorem dX3_offer_49 : decode cX3_offer 49 = .ok (.iconst 0, 1) := by decide +kernel
theorem dX3_offer_50 : decode cX3_offer 50 = .ok (.aload_n 0, 1) := by decide +kernel
theorem dX3_offer_51 : decode cX3_offer 51 = .ok (.getfield 9, 3) := by decide +kernel
theorem dX3_offer_54 : decode cX3_offer 54 = .ok (.iconst 0, 1) := by decide +kernel
theorem dX3_offer_55 : decode cX3_offer 55 = .ok (.bipush 6, 2) := by decide +kernel
theorem dX3_offer_57 : decode cX3_offer 57 = .ok (.invokestatic 48, 3) := by decide +kernel
theorem dX3_offer_60 : decode cX3_offer 60 = .ok (.return_, 1) := by decide +kernel
theorem dX4_init_0 : decode cX4_init 0 = .ok (.aload_n 0, 1) := by decide +kernel
theorem dX4_init_1 : decode cX4_init 1 = .ok (.invokespecial 3, 3) := by decide +kernel
theorem dX4_init_4 : decode cX4_init 4 = .ok (.aload_n 0, 1) := by decide +kernel
theorem dX4_init_5 : decode cX4_init 5 = .ok (.bipush 6, 2) := by decide +kernel
theorem dX4_init_7 : decode cX4_init 7 = .ok (.newarray .boolean, 2) := by decide +kernel
theorem dX4_init_9 : decode cX4_init 9 = .ok (.putfield 9, 3) := by decide +kernel
theorem dX4_init_12 : decode cX4_init 12 = .ok (.aload_n 0, 1) := by decide +kernel
theorem dX4_init_13 : decode cX4_init 13 = .ok (.bipush 8, 2) := by decide +kernel
theorem dX4_init_15 : decode cX4_init 15 = .ok (.newarray .int, 2) := by decide +kernel
theorem dX4_init_17 : decode cX4_init 17 = .ok (.putfield 15, 3) := by decide +kernel
theorem dX4_init_20 : decode cX4_init 20 = .ok (.aload_n 0, 1) := by decide +kernel
theorem dX4_init_21 : decode cX4_init 21 = .ok (.bipush 8, 2) := by decide +kernel
theorem dX4_init_23 : decode cX4_init 23 = .ok (.newarray .int, 2) := by decide +kernel
theorem dX4_init_25 : decode cX4_init 25 = .ok (.putfield 19, 3) := by decide +kernel
theorem dX4_init_28 : decode cX4_init 28 = .ok (.aload_n 0, 1) := by decide +kernel
theorem dX4_init_29 : decode cX4_init 29 = .ok (.bipush 8, 2) := by decide +kernel
theorem dX4_init_31 : decode cX4_init 31 = .ok (.newarray .int, 2) := by decide +kernel
theorem dX4_init_33 : decode cX4_init 33 = .ok (.putfield 22, 3) := by decide +kernel
theorem dX4_init_36 : decode cX4_init 36 = .ok (.aload_n 0, 1) := by decide +kernel
theorem dX4_init_37 : decode cX4_init 37 = .ok (.bipush 8, 2) := by decide +kernel
theorem dX4_init_39 : decode cX4_init 39 = .ok (.newarray .boolean, 2) := by decide +kernel
theorem dX4_init_41 : decode cX4_init 41 = .ok (.putfield 25, 3) := by decide +kernel
theorem dX4_init_44 : decode cX4_init 44 = .ok (.aload_n 0, 1) := by decide +kernel
theorem dX4_init_45 : decode cX4_init 45 = .ok (.bipush 8, 2) := by decide +kernel
theorem dX4_init_47 : decode cX4_init 47 = .ok (.newarray .int, 2) := by decide +kernel
theorem dX4_init_49 : decode cX4_init 49 = .ok (.putfield 28, 3) := by decide +kernel
theorem dX4_init_52 : decode cX4_init 52 = .ok (.aload_n 0, 1) := by decide +kernel
theorem dX4_init_53 : decode cX4_init 53 = .ok (.iconst 4, 1) := by decide +kernel
theorem dX4_init_54 : decode cX4_init 54 = .ok (.newarray .int, 2) := by decide +kernel
theorem dX4_init_56 : decode cX4_init 56 = .ok (.putfield 31, 3) := by decide +kernel
theorem dX4_init_59 : decode cX4_init 59 = .ok (.aload_n 0, 1) := by decide +kernel
theorem dX4_init_60 : decode cX4_init 60 = .ok (.new 34, 3) := by decide +kernel
theorem dX4_init_63 : decode cX4_init 63 = .ok (.dup, 1) := by decide +kernel
theorem dX4_init_64 : decode cX4_init 64 = .ok (.invokespecial 36, 3) := by decide +kernel
theorem dX4_init_67 : decode cX4_init 67 = .ok (.putfield 37, 3) := by decide +kernel
theorem dX4_init_70 : decode cX4_init 70 = .ok (.aload_n 0, 1) := by decide +kernel
theorem dX4_init_71 : decode cX4_init 71 = .ok (.iconst 5, 1) := by decide +kernel
theorem dX4_init_72 : decode cX4_init 72 = .ok (.newarray .int, 2) := by decide +kernel
theorem dX4_init_74 : decode cX4_init 74 = .ok (.putfield 41, 3) := by decide +kernel
theorem dX4_init_77 : decode cX4_init 77 = .ok (.return_, 1) := by decide +kernel
theorem dX4_hasWell_0 : decode cX4_hasWell 0 = .ok (.iconst 0, 1) := by decide +kernel
theorem dX4_hasWell_1 : decode cX4_hasWell 1 = .ok (.iload_n 1, 1) := by decide +kernel
theorem dX4_hasWell_2 : decode cX4_hasWell 2 = .ok (.if_icmp .gt 21, 3) := by decide +kernel
theorem dX4_hasWell_5 : decode cX4_hasWell 5 = .ok (.iload_n 1, 1) := by decide +kernel
theorem dX4_hasWell_6 : decode cX4_hasWell 6 = .ok (.aload_n 0, 1) := by decide +kernel
theorem dX4_hasWell_7 : decode cX4_hasWell 7 = .ok (.getfield 44, 3) := by decide +kernel
theorem dX4_hasWell_10 : decode cX4_hasWell 10 = .ok (.if_icmp .ge 13, 3) := by decide +kernel
theorem dX4_hasWell_13 : decode cX4_hasWell 13 = .ok (.iload_n 1, 1) := by decide +kernel
theorem dX4_hasWell_14 : decode cX4_hasWell 14 = .ok (.bipush 6, 2) := by decide +kernel
theorem dX4_hasWell_16 : decode cX4_hasWell 16 = .ok (.if_icmp .ge 7, 3) := by decide +kernel
theorem dX4_hasWell_19 : decode cX4_hasWell 19 = .ok (.iconst 1, 1) := by decide +kernel
theorem dX4_hasWell_20 : decode cX4_hasWell 20 = .ok (.goto 4, 3) := by decide +kernel
theorem dX4_hasWell_23 : decode cX4_hasWell 23 = .ok (.iconst 0, 1) := by decide +kernel
theorem dX4_hasWell_24 : decode cX4_hasWell 24 = .ok (.ireturn, 1) := by decide +kernel
theorem dX4_hasStage_0 : decode cX4_hasStage 0 = .ok (.iconst 0, 1) := by decide +kernel
theorem dX4_hasStage_1 : decode cX4_hasStage 1 = .ok (.iload_n 1, 1) := by decide +kernel
theorem dX4_hasStage_2 : decode cX4_hasStage 2 = .ok (.if_icmp .gt 21, 3) := by decide +kernel
theorem dX4_hasStage_5 : decode cX4_hasStage 5 = .ok (.iload_n 1, 1) := by decide +kernel
theorem dX4_hasStage_6 : decode cX4_hasStage 6 = .ok (.aload_n 0, 1) := by decide +kernel
theorem dX4_hasStage_7 : decode cX4_hasStage 7 = .ok (.getfield 48, 3) := by decide +kernel
theorem dX4_hasStage_10 : decode cX4_hasStage 10 = .ok (.if_icmp .ge 13, 3) := by decide +kernel
theorem dX4_hasStage_13 : decode cX4_hasStage 13 = .ok (.iload_n 1, 1) := by decide +kernel
theorem dX4_hasStage_14 : decode cX4_hasStage 14 = .ok (.bipush 8, 2) := by decide +kernel
theorem dX4_hasStage_16 : decode cX4_hasStage 16 = .ok (.if_icmp .ge 7, 3) := by decide +kernel
theorem dX4_hasStage_19 : decode cX4_hasStage 19 = .ok (.iconst 1, 1) := by decide +kernel
theorem dX4_hasStage_20 : decode cX4_hasStage 20 = .ok (.goto 4, 3) := by decide +kernel
theorem dX4_hasStage_23 : decode cX4_hasStage 23 = .ok (.iconst 0, 1) := by decide +kernel
theorem dX4_hasStage_24 : decode cX4_hasStage 24 = .ok (.ireturn, 1) := by decide +kernel
theorem dX4_hasCaravan_0 : decode cX4_hasCaravan 0 = .ok (.iconst 0, 1) := by decide +kernel
theorem dX4_hasCaravan_1 : decode cX4_hasCaravan 1 = .ok (.iload_n 1, 1) := by decide +kernel
theorem dX4_hasCaravan_2 : decode cX4_hasCaravan 2 = .ok (.if_icmp .gt 20, 3) := by decide +kernel
theorem dX4_hasCaravan_5 : decode cX4_hasCaravan 5 = .ok (.iload_n 1, 1) := by decide +kernel
theorem dX4_hasCaravan_6 : decode cX4_hasCaravan 6 = .ok (.aload_n 0, 1) := by decide +kernel
theorem dX4_hasCaravan_7 : decode cX4_hasCaravan 7 = .ok (.getfield 51, 3) := by decide +kernel
theorem dX4_hasCaravan_10 : decode cX4_hasCaravan 10 = .ok (.if_icmp .ge 12, 3) := by decide +kernel
theorem dX4_hasCaravan_13 : decode cX4_hasCaravan 13 = .ok (.iload_n 1, 1) := by decide +kernel
theorem dX4_hasCaravan_14 : decode cX4_hasCaravan 14 = .ok (.iconst 4, 1) := by decide +kernel
theorem dX4_hasCaravan_15 : decode cX4_hasCaravan 15 = .ok (.if_icmp .ge 7, 3) := by decide +kernel
theorem dX4_hasCaravan_18 : decode cX4_hasCaravan 18 = .ok (.iconst 1, 1) := by decide +kernel
theorem dX4_hasCaravan_19 : decode cX4_hasCaravan 19 = .ok (.goto 4, 3) := by decide +kernel
theorem dX4_hasCaravan_22 : decode cX4_hasCaravan 22 = .ok (.iconst 0, 1) := by decide +kernel
theorem dX4_hasCaravan_23 : decode cX4_hasCaravan 23 = .ok (.ireturn, 1) := by decide +kernel
theorem dX4_refusesNight_0 : decode cX4_refusesNight 0 = .ok (.aload_n 0, 1) := by decide +kernel
theorem dX4_refusesNight_1 : decode cX4_refusesNight 1 = .ok (.iload_n 1, 1) := by decide +kernel
theorem dX4_refusesNight_2 : decode cX4_refusesNight 2 = .ok (.invokevirtual 54, 3) := by decide +kernel
theorem dX4_refusesNight_5 : decode cX4_refusesNight 5 = .ok (.ifCond .eq 16, 3) := by decide +kernel
theorem dX4_refusesNight_8 : decode cX4_refusesNight 8 = .ok (.aload_n 0, 1) := by decide +kernel
theorem dX4_refusesNight_9 : decode cX4_refusesNight 9 = .ok (.getfield 9, 3) := by decide +kernel
theorem dX4_refusesNight_12 : decode cX4_refusesNight 12 = .ok (.iload_n 1, 1) := by decide +kernel
theorem dX4_refusesNight_13 : decode cX4_refusesNight 13 = .ok (.baload, 1) := by decide +kernel
theorem dX4_refusesNight_14 : decode cX4_refusesNight 14 = .ok (.ifCond .eq 7, 3) := by decide +kernel
theorem dX4_refusesNight_17 : decode cX4_refusesNight 17 = .ok (.iconst 1, 1) := by decide +kernel
theorem dX4_refusesNight_18 : decode cX4_refusesNight 18 = .ok (.goto 4, 3) := by decide +kernel
theorem dX4_refusesNight_21 : decode cX4_refusesNight 21 = .ok (.iconst 0, 1) := by decide +kernel
theorem dX4_refusesNight_22 : decode cX4_refusesNight 22 = .ok (.ireturn, 1) := by decide +kernel
theorem dX4_firstEnd_0 : decode cX4_firstEnd 0 = .ok (.aload_n 0, 1) := by decide +kernel
theorem dX4_firstEnd_1 : decode cX4_firstEnd 1 = .ok (.iload_n 1, 1) := by decide +kernel
theorem dX4_firstEnd_2 : decode cX4_firstEnd 2 = .ok (.invokevirtual 58, 3) := by decide +kernel
theorem dX4_firstEnd_5 : decode cX4_firstEnd 5 = .ok (.ifCond .eq 12, 3) := by decide +kernel
theorem dX4_firstEnd_8 : decode cX4_firstEnd 8 = .ok (.aload_n 0, 1) := by decide +kernel
theorem dX4_firstEnd_9 : decode cX4_firstEnd 9 = .ok (.getfield 15, 3) := by decide +kernel
theorem dX4_firstEnd_12 : decode cX4_firstEnd 12 = .ok (.iload_n 1, 1) := by decide +kernel
theorem dX4_firstEnd_13 : decode cX4_firstEnd 13 = .ok (.iaload, 1) := by decide +kernel
theorem dX4_firstEnd_14 : decode cX4_firstEnd 14 = .ok (.goto 5, 3) := by decide +kernel
theorem dX4_firstEnd_17 : decode cX4_firstEnd 17 = .ok (.bipush (-9), 2) := by decide +kernel
theorem dX4_firstEnd_19 : decode cX4_firstEnd 19 = .ok (.ireturn, 1) := by decide +kernel
theorem dX4_secondEnd_0 : decode cX4_secondEnd 0 = .ok (.aload_n 0, 1) := by decide +kernel
theorem dX4_secondEnd_1 : decode cX4_secondEnd 1 = .ok (.iload_n 1, 1) := by decide +kernel
theorem dX4_secondEnd_2 : decode cX4_secondEnd 2 = .ok (.invokevirtual 58, 3) := by decide +kernel
theorem dX4_secondEnd_5 : decode cX4_secondEnd 5 = .ok (.ifCond .eq 12, 3) := by decide +kernel
theorem dX4_secondEnd_8 : decode cX4_secondEnd 8 = .ok (.aload_n 0, 1) := by decide +kernel
theorem dX4_secondEnd_9 : decode cX4_secondEnd 9 = .ok (.getfield 19, 3) := by decide +kernel
theorem dX4_secondEnd_12 : decode cX4_secondEnd 12 = .ok (.iload_n 1, 1) := by decide +kernel
theorem dX4_secondEnd_13 : decode cX4_secondEnd 13 = .ok (.iaload, 1) := by decide +kernel
theorem dX4_secondEnd_14 : decode cX4_secondEnd 14 = .ok (.goto 5, 3) := by decide +kernel
theorem dX4_secondEnd_17 : decode cX4_secondEnd 17 = .ok (.bipush (-9), 2) := by decide +kernel
theorem dX4_secondEnd_19 : decode cX4_secondEnd 19 = .ok (.ireturn, 1) := by decide +kernel
theorem dX4_heatOf_0 : decode cX4_heatOf 0 = .ok (.aload_n 0, 1) := by decide +kernel
theorem dX4_heatOf_1 : decode cX4_heatOf 1 = .ok (.iload_n 1, 1) := by decide +kernel
theorem dX4_heatOf_2 : decode cX4_heatOf 2 = .ok (.invokevirtual 58, 3) := by decide +kernel
theorem dX4_heatOf_5 : decode cX4_heatOf 5 = .ok (.ifCond .eq 12, 3) := by decide +kernel
theorem dX4_heatOf_8 : decode cX4_heatOf 8 = .ok (.aload_n 0, 1) := by decide +kernel
theorem dX4_heatOf_9 : decode cX4_heatOf 9 = .ok (.getfield 22, 3) := by decide +kernel
theorem dX4_heatOf_12 : decode cX4_heatOf 12 = .ok (.iload_n 1, 1) := by decide +kernel
theorem dX4_heatOf_13 : decode cX4_heatOf 13 = .ok (.iaload, 1) := by decide +kernel
theorem dX4_heatOf_14 : decode cX4_heatOf 14 = .ok (.goto 4, 3) := by decide +kernel
theorem dX4_heatOf_17 : decode cX4_heatOf 17 = .ok (.iconst 0, 1) := by decide +kernel
theorem dX4_heatOf_18 : decode cX4_heatOf 18 = .ok (.ireturn, 1) := by decide +kernel
theorem dX4_isByNight_0 : decode cX4_isByNight 0 = .ok (.aload_n 0, 1) := by decide +kernel
theorem dX4_isByNight_1 : decode cX4_isByNight 1 = .ok (.iload_n 1, 1) := by decide +kernel
theorem dX4_isByNight_2 : decode cX4_isByNight 2 = .ok (.invokevirtual 58, 3) := by decide +kernel
theorem dX4_isByNight_5 : decode cX4_isByNight 5 = .ok (.ifCond .eq 16, 3) := by decide +kernel
theorem dX4_isByNight_8 : decode cX4_isByNight 8 = .ok (.aload_n 0, 1) := by decide +kernel
theorem dX4_isByNight_9 : decode cX4_isByNight 9 = .ok (.getfield 25, 3) := by decide +kernel
theorem dX4_isByNight_12 : decode cX4_isByNight 12 = .ok (.iload_n 1, 1) := by decide +kernel
theorem dX4_isByNight_13 : decode cX4_isByNight 13 = .ok (.baload, 1) := by decide +kernel
theorem dX4_isByNight_14 : decode cX4_isByNight 14 = .ok (.ifCond .eq 7, 3) := by decide +kernel
theorem dX4_isByNight_17 : decode cX4_isByNight 17 = .ok (.iconst 1, 1) := by decide +kernel
theorem dX4_isByNight_18 : decode cX4_isByNight 18 = .ok (.goto 4, 3) := by decide +kernel
theorem dX4_isByNight_21 : decode cX4_isByNight 21 = .ok (.iconst 0, 1) := by decide +kernel
theorem dX4_isByNight_22 : decode cX4_isByNight 22 = .ok (.ireturn, 1) := by decide +kernel
theorem dX4_lenderOf_0 : decode cX4_lenderOf 0 = .ok (.aload_n 0, 1) := by decide +kernel
theorem dX4_lenderOf_1 : decode cX4_lenderOf 1 = .ok (.iload_n 1, 1) := by decide +kernel
theorem dX4_lenderOf_2 : decode cX4_lenderOf 2 = .ok (.invokevirtual 58, 3) := by decide +kernel
theorem dX4_lenderOf_5 : decode cX4_lenderOf 5 = .ok (.ifCond .eq 12, 3) := by decide +kernel
theorem dX4_lenderOf_8 : decode cX4_lenderOf 8 = .ok (.aload_n 0, 1) := by decide +kernel
theorem dX4_lenderOf_9 : decode cX4_lenderOf 9 = .ok (.getfield 28, 3) := by decide +kernel
theorem dX4_lenderOf_12 : decode cX4_lenderOf 12 = .ok (.iload_n 1, 1) := by decide +kernel
theorem dX4_lenderOf_13 : decode cX4_lenderOf 13 = .ok (.iaload, 1) := by decide +kernel
theorem dX4_lenderOf_14 : decode cX4_lenderOf 14 = .ok (.goto 5, 3) := by decide +kernel
theorem dX4_lenderOf_17 : decode cX4_lenderOf 17 = .ok (.bipush (-9), 2) := by decide +kernel
theorem dX4_lenderOf_19 : decode cX4_lenderOf 19 = .ok (.ireturn, 1) := by decide +kernel
theorem dX4_bearsOf_0 : decode cX4_bearsOf 0 = .ok (.aload_n 0, 1) := by decide +kernel
theorem dX4_bearsOf_1 : decode cX4_bearsOf 1 = .ok (.iload_n 1, 1) := by decide +kernel
theorem dX4_bearsOf_2 : decode cX4_bearsOf 2 = .ok (.invokevirtual 61, 3) := by decide +kernel
theorem dX4_bearsOf_5 : decode cX4_bearsOf 5 = .ok (.ifCond .eq 12, 3) := by decide +kernel
theorem dX4_bearsOf_8 : decode cX4_bearsOf 8 = .ok (.aload_n 0, 1) := by decide +kernel
theorem dX4_bearsOf_9 : decode cX4_bearsOf 9 = .ok (.getfield 31, 3) := by decide +kernel
theorem dX4_bearsOf_12 : decode cX4_bearsOf 12 = .ok (.iload_n 1, 1) := by decide +kernel
theorem dX4_bearsOf_13 : decode cX4_bearsOf 13 = .ok (.iaload, 1) := by decide +kernel
theorem dX4_bearsOf_14 : decode cX4_bearsOf 14 = .ok (.goto 4, 3) := by decide +kernel
theorem dX4_bearsOf_17 : decode cX4_bearsOf 17 = .ok (.iconst 0, 1) := by decide +kernel
theorem dX4_bearsOf_18 : decode cX4_bearsOf 18 = .ok (.ireturn, 1) := by decide +kernel
theorem dX4_otherEnd_0 : decode cX4_otherEnd 0 = .ok (.aload_n 0, 1) := by decide +kernel
theorem dX4_otherEnd_1 : decode cX4_otherEnd 1 = .ok (.iload_n 1, 1) := by decide +kernel
theorem dX4_otherEnd_2 : decode cX4_otherEnd 2 = .ok (.invokevirtual 64, 3) := by decide +kernel
theorem dX4_otherEnd_5 : decode cX4_otherEnd 5 = .ok (.iload_n 2, 1) := by decide +kernel
theorem dX4_otherEnd_6 : decode cX4_otherEnd 6 = .ok (.if_icmp .ne 9, 3) := by decide +kernel
theorem dX4_otherEnd_9 : decode cX4_otherEnd 9 = .ok (.aload_n 0, 1) := by decide +kernel
theorem dX4_otherEnd_10 : decode cX4_otherEnd 10 = .ok (.iload_n 1, 1) := by decide +kernel
theorem dX4_otherEnd_11 : decode cX4_otherEnd 11 = .ok (.invokevirtual 68, 3) := by decide +kernel
theorem dX4_otherEnd_14 : decode cX4_otherEnd 14 = .ok (.ireturn, 1) := by decide +kernel
theorem dX4_otherEnd_15 : decode cX4_otherEnd 15 = .ok (.aload_n 0, 1) := by decide +kernel
theorem dX4_otherEnd_16 : decode cX4_otherEnd 16 = .ok (.iload_n 1, 1) := by decide +kernel
theorem dX4_otherEnd_17 : decode cX4_otherEnd 17 = .ok (.invokevirtual 68, 3) := by decide +kernel
theorem dX4_otherEnd_20 : decode cX4_otherEnd 20 = .ok (.iload_n 2, 1) := by decide +kernel
theorem dX4_otherEnd_21 : decode cX4_otherEnd 21 = .ok (.if_icmp .ne 11, 3) := by decide +kernel
theorem dX4_otherEnd_24 : decode cX4_otherEnd 24 = .ok (.aload_n 0, 1) := by decide +kernel
theorem dX4_otherEnd_25 : decode cX4_otherEnd 25 = .ok (.iload_n 1, 1) := by decide +kernel
theorem dX4_otherEnd_26 : decode cX4_otherEnd 26 = .ok (.invokevirtual 64, 3) := by decide +kernel
theorem dX4_otherEnd_29 : decode cX4_otherEnd 29 = .ok (.goto 5, 3) := by decide +kernel
theorem dX4_otherEnd_32 : decode cX4_otherEnd 32 = .ok (.bipush (-9), 2) := by decide +kernel
theorem dX4_otherEnd_34 : decode cX4_otherEnd 34 = .ok (.ireturn, 1) := by decide +kernel
theorem dX4_paidBy_0 : decode cX4_paidBy 0 = .ok (.aload_n 0, 1) := by decide +kernel
theorem dX4_paidBy_1 : decode cX4_paidBy 1 = .ok (.iload_n 1, 1) := by decide +kernel
theorem dX4_paidBy_2 : decode cX4_paidBy 2 = .ok (.invokevirtual 71, 3) := by decide +kernel
theorem dX4_paidBy_5 : decode cX4_paidBy 5 = .ok (.ifCond .ne 5, 3) := by decide +kernel
theorem dX4_paidBy_8 : decode cX4_paidBy 8 = .ok (.iload_n 2, 1) := by decide +kernel
theorem dX4_paidBy_9 : decode cX4_paidBy 9 = .ok (.ireturn, 1) := by decide +kernel
theorem dX4_paidBy_10 : decode cX4_paidBy 10 = .ok (.aload_n 0, 1) := by decide +kernel
theorem dX4_paidBy_11 : decode cX4_paidBy 11 = .ok (.aload_n 0, 1) := by decide +kernel
theorem dX4_paidBy_12 : decode cX4_paidBy 12 = .ok (.iload_n 1, 1) := by decide +kernel
theorem dX4_paidBy_13 : decode cX4_paidBy 13 = .ok (.invokevirtual 74, 3) := by decide +kernel
theorem dX4_paidBy_16 : decode cX4_paidBy 16 = .ok (.invokevirtual 77, 3) := by decide +kernel
theorem dX4_paidBy_19 : decode cX4_paidBy 19 = .ok (.ifCond .eq 7, 3) := by decide +kernel
theorem dX4_paidBy_22 : decode cX4_paidBy 22 = .ok (.iconst 0, 1) := by decide +kernel
theorem dX4_paidBy_23 : decode cX4_paidBy 23 = .ok (.goto 6, 3) := by decide +kernel
theorem dX4_paidBy_26 : decode cX4_paidBy 26 = .ok (.iload_n 2, 1) := by decide +kernel
theorem dX4_paidBy_27 : decode cX4_paidBy 27 = .ok (.iconst 2, 1) := by decide +kernel
theorem dX4_paidBy_28 : decode cX4_paidBy 28 = .ok (.idiv, 1) := by decide +kernel
theorem dX4_paidBy_29 : decode cX4_paidBy 29 = .ok (.ireturn, 1) := by decide +kernel
theorem dX4_stagesLentBy_0 : decode cX4_stagesLentBy 0 = .ok (.iconst 0, 1) := by decide +kernel
theorem dX4_stagesLentBy_1 : decode cX4_stagesLentBy 1 = .ok (.istore_n 2, 1) := by decide +kernel
theorem dX4_stagesLentBy_2 : decode cX4_stagesLentBy 2 = .ok (.iconst 0, 1) := by decide +kernel
theorem dX4_stagesLentBy_3 : decode cX4_stagesLentBy 3 = .ok (.istore_n 3, 1) := by decide +kernel
theorem dX4_stagesLentBy_4 : decode cX4_stagesLentBy 4 = .ok (.iload_n 3, 1) := by decide +kernel
theorem dX4_stagesLentBy_5 : decode cX4_stagesLentBy 5 = .ok (.aload_n 0, 1) := by decide +kernel
theorem dX4_stagesLentBy_6 : decode cX4_stagesLentBy 6 = .ok (.getfield 48, 3) := by decide +kernel
theorem dX4_stagesLentBy_9 : decode cX4_stagesLentBy 9 = .ok (.if_icmp .ge 21, 3) := by decide +kernel
theorem dX4_stagesLentBy_12 : decode cX4_stagesLentBy 12 = .ok (.aload_n 0, 1) := by decide +kernel
theorem dX4_stagesLentBy_13 : decode cX4_stagesLentBy 13 = .ok (.iload_n 3, 1) := by decide +kernel
theorem dX4_stagesLentBy_14 : decode cX4_stagesLentBy 14 = .ok (.invokevirtual 74, 3) := by decide +kernel
theorem dX4_stagesLentBy_17 : decode cX4_stagesLentBy 17 = .ok (.iload_n 1, 1) := by decide +kernel
theorem dX4_stagesLentBy_18 : decode cX4_stagesLentBy 18 = .ok (.if_icmp .ne 6, 3) := by decide +kernel
theorem dX4_stagesLentBy_21 : decode cX4_stagesLentBy 21 = .ok (.iinc 2 1, 3) := by decide +kernel
theorem dX4_stagesLentBy_24 : decode cX4_stagesLentBy 24 = .ok (.iinc 3 1, 3) := by decide +kernel
theorem dX4_stagesLentBy_27 : decode cX4_stagesLentBy 27 = .ok (.goto (-23), 3) := by decide +kernel
theorem dX4_stagesLentBy_30 : decode cX4_stagesLentBy 30 = .ok (.iload_n 2, 1) := by decide +kernel
theorem dX4_stagesLentBy_31 : decode cX4_stagesLentBy 31 = .ok (.ireturn, 1) := by decide +kernel
theorem dX4_salt_0 : decode cX4_salt 0 = .ok (.iconst 1, 1) := by decide +kernel
theorem dX4_salt_1 : decode cX4_salt 1 = .ok (.aload_n 0, 1) := by decide +kernel
theorem dX4_salt_2 : decode cX4_salt 2 = .ok (.getfield 44, 3) := by decide +kernel
theorem dX4_salt_5 : decode cX4_salt 5 = .ok (.ishl, 1) := by decide +kernel
theorem dX4_salt_6 : decode cX4_salt 6 = .ok (.iconst 1, 1) := by decide +kernel
theorem dX4_salt_7 : decode cX4_salt 7 = .ok (.isub, 1) := by decide +kernel
theorem dX4_salt_8 : decode cX4_salt 8 = .ok (.istore_n 1, 1) := by decide +kernel
theorem dX4_salt_9 : decode cX4_salt 9 = .ok (.iconst 0, 1) := by decide +kernel
theorem dX4_salt_10 : decode cX4_salt 10 = .ok (.istore_n 2, 1) := by decide +kernel
theorem dX4_salt_11 : decode cX4_salt 11 = .ok (.iload_n 2, 1) := by decide +kernel
theorem dX4_salt_12 : decode cX4_salt 12 = .ok (.iconst 1, 1) := by decide +kernel
theorem dX4_salt_13 : decode cX4_salt 13 = .ok (.aload_n 0, 1) := by decide +kernel
theorem dX4_salt_14 : decode cX4_salt 14 = .ok (.getfield 44, 3) := by decide +kernel
theorem dX4_salt_17 : decode cX4_salt 17 = .ok (.ishl, 1) := by decide +kernel
theorem dX4_salt_18 : decode cX4_salt 18 = .ok (.if_icmp .ge 30, 3) := by decide +kernel
theorem dX4_salt_21 : decode cX4_salt 21 = .ok (.iload_n 2, 1) := by decide +kernel
theorem dX4_salt_22 : decode cX4_salt 22 = .ok (.invokestatic 80, 3) := by decide +kernel
theorem dX4_salt_25 : decode cX4_salt 25 = .ok (.iload_n 1, 1) := by decide +kernel
theorem dX4_salt_26 : decode cX4_salt 26 = .ok (.invokestatic 80, 3) := by decide +kernel
theorem dX4_salt_29 : decode cX4_salt 29 = .ok (.if_icmp .ge 13, 3) := by decide +kernel
theorem dX4_salt_32 : decode cX4_salt 32 = .ok (.aload_n 0, 1) := by decide +kernel
theorem dX4_salt_33 : decode cX4_salt 33 = .ok (.iload_n 2, 1) := by decide +kernel
theorem dX4_salt_34 : decode cX4_salt 34 = .ok (.invokevirtual 85, 3) := by decide +kernel
theorem dX4_salt_37 : decode cX4_salt 37 = .ok (.ifCond .eq 5, 3) := by decide +kernel
theorem dX4_salt_40 : decode cX4_salt 40 = .ok (.iload_n 2, 1) := by decide +kernel
theorem dX4_salt_41 : decode cX4_salt 41 = .ok (.istore_n 1, 1) := by decide +kernel
theorem dX4_salt_42 : decode cX4_salt 42 = .ok (.iinc 2 1, 3) := by decide +kernel
theorem dX4_salt_45 : decode cX4_salt 45 = .ok (.goto (-34), 3) := by decide +kernel
theorem dX4_salt_48 : decode cX4_salt 48 = .ok (.iload_n 1, 1) := by decide +kernel
theorem dX4_salt_49 : decode cX4_salt 49 = .ok (.ireturn, 1) := by decide +kernel
theorem dX4_endsEachStage_0 : decode cX4_endsEachStage 0 = .ok (.iconst 0, 1) := by decide +kernel
theorem dX4_endsEachStage_1 : decode cX4_endsEachStage 1 = .ok (.istore_n 2, 1) := by decide +kernel
theorem dX4_endsEachStage_2 : decode cX4_endsEachStage 2 = .ok (.iload_n 2, 1) := by decide +kernel
theorem dX4_endsEachStage_3 : decode cX4_endsEachStage 3 = .ok (.aload_n 0, 1) := by decide +kernel
theorem dX4_endsEachStage_4 : decode cX4_endsEachStage 4 = .ok (.getfield 48, 3) := by decide +kernel
theorem dX4_endsEachStage_7 : decode cX4_endsEachStage 7 = .ok (.if_icmp .ge 35, 3) := by decide +kernel
theorem dX4_endsEachStage_10 : decode cX4_endsEachStage 10 = .ok (.iload_n 1, 1) := by decide +kernel
theorem dX4_endsEachStage_11 : decode cX4_endsEachStage 11 = .ok (.aload_n 0, 1) := by decide +kernel
theorem dX4_endsEachStage_12 : decode cX4_endsEachStage 12 = .ok (.iload_n 2, 1) := by decide +kernel
theorem dX4_endsEachStage_13 : decode cX4_endsEachStage 13 = .ok (.invokevirtual 64, 3) := by decide +kernel
theorem dX4_endsEachStage_16 : decode cX4_endsEachStage 16 = .ok (.invokestatic 88, 3) := by decide +kernel
theorem dX4_endsEachStage_19 : decode cX4_endsEachStage 19 = .ok (.ifCond .ne 17, 3) := by decide +kernel
theorem dX4_endsEachStage_22 : decode cX4_endsEachStage 22 = .ok (.iload_n 1, 1) := by decide +kernel
theorem dX4_endsEachStage_23 : decode cX4_endsEachStage 23 = .ok (.aload_n 0, 1) := by decide +kernel
theorem dX4_endsEachStage_24 : decode cX4_endsEachStage 24 = .ok (.iload_n 2, 1) := by decide +kernel
theorem dX4_endsEachStage_25 : decode cX4_endsEachStage 25 = .ok (.invokevirtual 68, 3) := by decide +kernel
theorem dX4_endsEachStage_28 : decode cX4_endsEachStage 28 = .ok (.invokestatic 88, 3) := by decide +kernel
theorem dX4_endsEachStage_31 : decode cX4_endsEachStage 31 = .ok (.ifCond .ne 5, 3) := by decide +kernel
theorem dX4_endsEachStage_34 : decode cX4_endsEachStage 34 = .ok (.iconst 0, 1) := by decide +kernel
theorem dX4_endsEachStage_35 : decode cX4_endsEachStage 35 = .ok (.ireturn, 1) := by decide +kernel
theorem dX4_endsEachStage_36 : decode cX4_endsEachStage 36 = .ok (.iinc 2 1, 3) := by decide +kernel
theorem dX4_endsEachStage_39 : decode cX4_endsEachStage 39 = .ok (.goto (-37), 3) := by decide +kernel
theorem dX4_endsEachStage_42 : decode cX4_endsEachStage 42 = .ok (.iconst 1, 1) := by decide +kernel
theorem dX4_endsEachStage_43 : decode cX4_endsEachStage 43 = .ok (.ireturn, 1) := by decide +kernel
theorem dX4_tellAll_0 : decode cX4_tellAll 0 = .ok (.aload_n 0, 1) := by decide +kernel
theorem dX4_tellAll_1 : decode cX4_tellAll 1 = .ok (.iconst 0, 1) := by decide +kernel
theorem dX4_tellAll_2 : decode cX4_tellAll 2 = .ok (.putfield 44, 3) := by decide +kernel
theorem dX4_tellAll_5 : decode cX4_tellAll 5 = .ok (.aload_n 0, 1) := by decide +kernel
theorem dX4_tellAll_6 : decode cX4_tellAll 6 = .ok (.iconst 0, 1) := by decide +kernel
theorem dX4_tellAll_7 : decode cX4_tellAll 7 = .ok (.putfield 48, 3) := by decide +kernel
theorem dX4_tellAll_10 : decode cX4_tellAll 10 = .ok (.aload_n 0, 1) := by decide +kernel
theorem dX4_tellAll_11 : decode cX4_tellAll 11 = .ok (.iconst 0, 1) := by decide +kernel
theorem dX4_tellAll_12 : decode cX4_tellAll 12 = .ok (.putfield 51, 3) := by decide +kernel
theorem dX4_tellAll_15 : decode cX4_tellAll 15 = .ok (.aload_n 0, 1) := by decide +kernel
theorem dX4_tellAll_16 : decode cX4_tellAll 16 = .ok (.getfield 37, 3) := by decide +kernel
theorem dX4_tellAll_19 : decode cX4_tellAll 19 = .ok (.invokevirtual 92, 3) := by decide +kernel
theorem dX4_tellAll_22 : decode cX4_tellAll 22 = .ok (.aload_n 1, 1) := by decide +kernel
theorem dX4_tellAll_23 : decode cX4_tellAll 23 = .ok (.invokevirtual 95, 3) := by decide +kernel
theorem dX4_tellAll_26 : decode cX4_tellAll 26 = .ok (.iconst 0, 1) := by decide +kernel
theorem dX4_tellAll_27 : decode cX4_tellAll 27 = .ok (.istore_n 2, 1) := by decide +kernel
theorem dX4_tellAll_28 : decode cX4_tellAll 28 = .ok (.aload_n 1, 1) := by decide +kernel
theorem dX4_tellAll_29 : decode cX4_tellAll 29 = .ok (.invokevirtual 100, 3) := by decide +kernel
theorem dX4_tellAll_32 : decode cX4_tellAll 32 = .ok (.aload_n 1, 1) := by decide +kernel
theorem dX4_tellAll_33 : decode cX4_tellAll 33 = .ok (.invokevirtual 103, 3) := by decide +kernel
theorem dX4_tellAll_36 : decode cX4_tellAll 36 = .ok (.ifCond .eq 36, 3) := by decide +kernel
theorem dX4_tellAll_39 : decode cX4_tellAll 39 = .ok (.iload_n 2, 1) := by decide +kernel
theorem dX4_tellAll_40 : decode cX4_tellAll 40 = .ok (.sipush 200, 3) := by decide +kernel
theorem dX4_tellAll_43 : decode cX4_tellAll 43 = .ok (.if_icmp .ge 29, 3) := by decide +kernel
theorem dX4_tellAll_46 : decode cX4_tellAll 46 = .ok (.aload_n 0, 1) := by decide +kernel
theorem dX4_tellAll_47 : decode cX4_tellAll 47 = .ok (.aload_n 1, 1) := by decide +kernel
theorem dX4_tellAll_48 : decode cX4_tellAll 48 = .ok (.invokevirtual 107, 3) := by decide +kernel
theorem dX4_tellAll_51 : decode cX4_tellAll 51 = .ok (.ifCond .ne 11, 3) := by decide +kernel
theorem dX4_tellAll_54 : decode cX4_tellAll 54 = .ok (.bipush (-10), 2) := by decide +kernel
theorem dX4_tellAll_56 : decode cX4_tellAll 56 = .ok (.aload_n 1, 1) := by decide +kernel
theorem dX4_tellAll_57 : decode cX4_tellAll 57 = .ok (.invokevirtual 111, 3) := by decide +kernel
theorem dX4_tellAll_60 : decode cX4_tellAll 60 = .ok (.isub, 1) := by decide +kernel
theorem dX4_tellAll_61 : decode cX4_tellAll 61 = .ok (.ireturn, 1) := by decide +kernel
theorem dX4_tellAll_62 : decode cX4_tellAll 62 = .ok (.iinc 2 1, 3) := by decide +kernel
theorem dX4_tellAll_65 : decode cX4_tellAll 65 = .ok (.aload_n 1, 1) := by decide +kernel
theorem dX4_tellAll_66 : decode cX4_tellAll 66 = .ok (.invokevirtual 100, 3) := by decide +kernel
theorem dX4_tellAll_69 : decode cX4_tellAll 69 = .ok (.goto (-37), 3) := by decide +kernel
theorem dX4_tellAll_72 : decode cX4_tellAll 72 = .ok (.iload_n 2, 1) := by decide +kernel
theorem dX4_tellAll_73 : decode cX4_tellAll 73 = .ok (.ireturn, 1) := by decide +kernel
theorem dX4_tellItem_0 : decode cX4_tellItem 0 = .ok (.aload_n 1, 1) := by decide +kernel
theorem dX4_tellItem_1 : decode cX4_tellItem 1 = .ok (.invokevirtual 103, 3) := by decide +kernel
theorem dX4_tellItem_4 : decode cX4_tellItem 4 = .ok (.iconst 1, 1) := by decide +kernel
theorem dX4_tellItem_5 : decode cX4_tellItem 5 = .ok (.if_icmp .eq 5, 3) := by decide +kernel
theorem dX4_tellItem_8 : decode cX4_tellItem 8 = .ok (.iconst 0, 1) := by decide +kernel
theorem dX4_tellItem_9 : decode cX4_tellItem 9 = .ok (.ireturn, 1) := by decide +kernel
theorem dX4_tellItem_10 : decode cX4_tellItem 10 = .ok (.aload_n 1, 1) := by decide +kernel
theorem dX4_tellItem_11 : decode cX4_tellItem 11 = .ok (.invokevirtual 114, 3) := by decide +kernel
theorem dX4_tellItem_14 : decode cX4_tellItem 14 = .ok (.lookupswitch 80 #[(99, 62), (100, 74), (107, 68), (115, 56), (119, 50)], 50) := by decide +kernel
theorem dX4_tellItem_64 : decode cX4_tellItem 64 = .ok (.aload_n 0, 1) := by decide +kernel
theorem dX4_tellItem_65 : decode cX4_tellItem 65 = .ok (.aload_n 1, 1) := by decide +kernel
theorem dX4_tellItem_66 : decode cX4_tellItem 66 = .ok (.invokevirtual 117, 3) := by decide +kernel
theorem dX4_tellItem_69 : decode cX4_tellItem 69 = .ok (.ireturn, 1) := by decide +kernel
theorem dX4_tellItem_70 : decode cX4_tellItem 70 = .ok (.aload_n 0, 1) := by decide +kernel
theorem dX4_tellItem_71 : decode cX4_tellItem 71 = .ok (.aload_n 1, 1) := by decide +kernel
theorem dX4_tellItem_72 : decode cX4_tellItem 72 = .ok (.invokevirtual 120, 3) := by decide +kernel
theorem dX4_tellItem_75 : decode cX4_tellItem 75 = .ok (.ireturn, 1) := by decide +kernel
theorem dX4_tellItem_76 : decode cX4_tellItem 76 = .ok (.aload_n 0, 1) := by decide +kernel
theorem dX4_tellItem_77 : decode cX4_tellItem 77 = .ok (.aload_n 1, 1) := by decide +kernel
theorem dX4_tellItem_78 : decode cX4_tellItem 78 = .ok (.invokevirtual 123, 3) := by decide +kernel
theorem dX4_tellItem_81 : decode cX4_tellItem 81 = .ok (.ireturn, 1) := by decide +kernel
theorem dX4_tellItem_82 : decode cX4_tellItem 82 = .ok (.aload_n 0, 1) := by decide +kernel
theorem dX4_tellItem_83 : decode cX4_tellItem 83 = .ok (.aload_n 1, 1) := by decide +kernel
theorem dX4_tellItem_84 : decode cX4_tellItem 84 = .ok (.invokevirtual 126, 3) := by decide +kernel
theorem dX4_tellItem_87 : decode cX4_tellItem 87 = .ok (.ireturn, 1) := by decide +kernel
theorem dX4_tellItem_88 : decode cX4_tellItem 88 = .ok (.aload_n 0, 1) := by decide +kernel
theorem dX4_tellItem_89 : decode cX4_tellItem 89 = .ok (.aload_n 1, 1) := by decide +kernel
theorem dX4_tellItem_90 : decode cX4_tellItem 90 = .ok (.invokevirtual 129, 3) := by decide +kernel
theorem dX4_tellItem_93 : decode cX4_tellItem 93 = .ok (.ireturn, 1) := by decide +kernel
theorem dX4_tellItem_94 : decode cX4_tellItem 94 = .ok (.iconst 0, 1) := by decide +kernel
theorem dX4_tellItem_95 : decode cX4_tellItem 95 = .ok (.ireturn, 1) := by decide +kernel
theorem dX4_tellWell_0 : decode cX4_tellWell 0 = .ok (.aload_n 0, 1) := by decide +kernel
theorem dX4_tellWell_1 : decode cX4_tellWell 1 = .ok (.getfield 44, 3) := by decide +kernel
theorem dX4_tellWell_4 : decode cX4_tellWell 4 = .ok (.bipush 6, 2) := by decide +kernel
theorem dX4_tellWell_6 : decode cX4_tellWell 6 = .ok (.if_icmp .ge 21, 3) := by decide +kernel
theorem dX4_tellWell_9 : decode cX4_tellWell 9 = .ok (.aload_n 0, 1) := by decide +kernel
theorem dX4_tellWell_10 : decode cX4_tellWell 10 = .ok (.aload_n 1, 1) := by decide +kernel
theorem dX4_tellWell_11 : decode cX4_tellWell 11 = .ok (.iconst 0, 1) := by decide +kernel
theorem dX4_tellWell_12 : decode cX4_tellWell 12 = .ok (.iconst 0, 1) := by decide +kernel
theorem dX4_tellWell_13 : decode cX4_tellWell 13 = .ok (.iconst 1, 1) := by decide +kernel
theorem dX4_tellWell_14 : decode cX4_tellWell 14 = .ok (.invokevirtual 132, 3) := by decide +kernel
theorem dX4_tellWell_17 : decode cX4_tellWell 17 = .ok (.ifCond .eq 10, 3) := by decide +kernel
theorem dX4_tellWell_20 : decode cX4_tellWell 20 = .ok (.aload_n 1, 1) := by decide +kernel
theorem dX4_tellWell_21 : decode cX4_tellWell 21 = .ok (.invokestatic 136, 3) := by decide +kernel
theorem dX4_tellWell_24 : decode cX4_tellWell 24 = .ok (.ifCond .ne 5, 3) := by decide +kernel
theorem dX4_tellWell_27 : decode cX4_tellWell 27 = .ok (.iconst 0, 1) := by decide +kernel
theorem dX4_tellWell_28 : decode cX4_tellWell 28 = .ok (.ireturn, 1) := by decide +kernel
theorem dX4_tellWell_29 : decode cX4_tellWell 29 = .ok (.aload_n 0, 1) := by decide +kernel
theorem dX4_tellWell_30 : decode cX4_tellWell 30 = .ok (.getfield 9, 3) := by decide +kernel
theorem dX4_tellWell_33 : decode cX4_tellWell 33 = .ok (.aload_n 0, 1) := by decide +kernel
theorem dX4_tellWell_34 : decode cX4_tellWell 34 = .ok (.getfield 44, 3) := by decide +kernel
theorem dX4_tellWell_37 : decode cX4_tellWell 37 = .ok (.aload_n 0, 1) := by decide +kernel
theorem dX4_tellWell_38 : decode cX4_tellWell 38 = .ok (.getfield 41, 3) := by decide +kernel
theorem dX4_tellWell_41 : decode cX4_tellWell 41 = .ok (.iconst 0, 1) := by decide +kernel
theorem dX4_tellWell_42 : decode cX4_tellWell 42 = .ok (.iaload, 1) := by decide +kernel
theorem dX4_tellWell_43 : decode cX4_tellWell 43 = .ok (.iconst 1, 1) := by decide +kernel
theorem dX4_tellWell_44 : decode cX4_tellWell 44 = .ok (.if_icmp .ne 7, 3) := by decide +kernel
theorem dX4_tellWell_47 : decode cX4_tellWell 47 = .ok (.iconst 1, 1) := by decide +kernel
theorem dX4_tellWell_48 : decode cX4_tellWell 48 = .ok (.goto 4, 3) := by decide +kernel
theorem dX4_tellWell_51 : decode cX4_tellWell 51 = .ok (.iconst 0, 1) := by decide +kernel
theorem dX4_tellWell_52 : decode cX4_tellWell 52 = .ok (.bastore, 1) := by decide +kernel
theorem dX4_tellWell_53 : decode cX4_tellWell 53 = .ok (.aload_n 0, 1) := by decide +kernel
theorem dX4_tellWell_54 : decode cX4_tellWell 54 = .ok (.dup, 1) := by decide +kernel
theorem dX4_tellWell_55 : decode cX4_tellWell 55 = .ok (.getfield 44, 3) := by decide +kernel
theorem dX4_tellWell_58 : decode cX4_tellWell 58 = .ok (.iconst 1, 1) := by decide +kernel
theorem dX4_tellWell_59 : decode cX4_tellWell 59 = .ok (.iadd, 1) := by decide +kernel
theorem dX4_tellWell_60 : decode cX4_tellWell 60 = .ok (.putfield 44, 3) := by decide +kernel
theorem dX4_tellWell_63 : decode cX4_tellWell 63 = .ok (.iconst 1, 1) := by decide +kernel
theorem dX4_tellWell_64 : decode cX4_tellWell 64 = .ok (.ireturn, 1) := by decide +kernel
theorem dX4_tellStage_0 : decode cX4_tellStage 0 = .ok (.aload_n 0, 1) := by decide +kernel
theorem dX4_tellStage_1 : decode cX4_tellStage 1 = .ok (.getfield 48, 3) := by decide +kernel
theorem dX4_tellStage_4 : decode cX4_tellStage 4 = .ok (.bipush 8, 2) := by decide +kernel
theorem dX4_tellStage_6 : decode cX4_tellStage 6 = .ok (.if_icmp .ge 35, 3) := by decide +kernel
theorem dX4_tellStage_9 : decode cX4_tellStage 9 = .ok (.aload_n 0, 1) := by decide +kernel
theorem dX4_tellStage_10 : decode cX4_tellStage 10 = .ok (.aload_n 1, 1) := by decide +kernel
theorem dX4_tellStage_11 : decode cX4_tellStage 11 = .ok (.iconst 0, 1) := by decide +kernel
theorem dX4_tellStage_12 : decode cX4_tellStage 12 = .ok (.iconst 0, 1) := by decide +kernel
theorem dX4_tellStage_13 : decode cX4_tellStage 13 = .ok (.aload_n 0, 1) := by decide +kernel
theorem dX4_tellStage_14 : decode cX4_tellStage 14 = .ok (.getfield 44, 3) := by decide +kernel
theorem dX4_tellStage_17 : decode cX4_tellStage 17 = .ok (.iconst 1, 1) := by decide +kernel
theorem dX4_tellStage_18 : decode cX4_tellStage 18 = .ok (.isub, 1) := by decide +kernel
theorem dX4_tellStage_19 : decode cX4_tellStage 19 = .ok (.invokevirtual 132, 3) := by decide +kernel
theorem dX4_tellStage_22 : decode cX4_tellStage 22 = .ok (.ifCond .eq 19, 3) := by decide +kernel
theorem dX4_tellStage_25 : decode cX4_tellStage 25 = .ok (.aload_n 0, 1) := by decide +kernel
theorem dX4_tellStage_26 : decode cX4_tellStage 26 = .ok (.aload_n 1, 1) := by decide +kernel
theorem dX4_tellStage_27 : decode cX4_tellStage 27 = .ok (.iconst 1, 1) := by decide +kernel
theorem dX4_tellStage_28 : decode cX4_tellStage 28 = .ok (.iconst 0, 1) := by decide +kernel
theorem dX4_tellStage_29 : decode cX4_tellStage 29 = .ok (.aload_n 0, 1) := by decide +kernel
theorem dX4_tellStage_30 : decode cX4_tellStage 30 = .ok (.getfield 44, 3) := by decide +kernel
theorem dX4_tellStage_33 : decode cX4_tellStage 33 = .ok (.iconst 1, 1) := by decide +kernel
theorem dX4_tellStage_34 : decode cX4_tellStage 34 = .ok (.isub, 1) := by decide +kernel
theorem dX4_tellStage_35 : decode cX4_tellStage 35 = .ok (.invokevirtual 132, 3) := by decide +kernel
theorem dX4_tellStage_38 : decode cX4_tellStage 38 = .ok (.ifCond .ne 5, 3) := by decide +kernel
theorem dX4_tellStage_41 : decode cX4_tellStage 41 = .ok (.iconst 0, 1) := by decide +kernel
theorem dX4_tellStage_42 : decode cX4_tellStage 42 = .ok (.ireturn, 1) := by decide +kernel
theorem dX4_tellStage_43 : decode cX4_tellStage 43 = .ok (.aload_n 0, 1) := by decide +kernel
theorem dX4_tellStage_44 : decode cX4_tellStage 44 = .ok (.getfield 41, 3) := by decide +kernel
end
section
theorem dX4_tellStage_47 : decode cX4_tellStage 47 = .ok (.iconst 0, 1) := by decide +kernel
theorem dX4_tellStage_48 : decode cX4_tellStage 48 = .ok (.iaload, 1) := by decide +kernel
theorem dX4_tellStage_49 : decode cX4_tellStage 49 = .ok (.aload_n 0, 1) := by decide +kernel
theorem dX4_tellStage_50 : decode cX4_tellStage 50 = .ok (.getfield 41, 3) := by decide +kernel
theorem dX4_tellStage_53 : decode cX4_tellStage 53 = .ok (.iconst 1, 1) := by decide +kernel
theorem dX4_tellStage_54 : decode cX4_tellStage 54 = .ok (.iaload, 1) := by decide +kernel
theorem dX4_tellStage_55 : decode cX4_tellStage 55 = .ok (.if_icmp .eq 26, 3) := by decide +kernel
theorem dX4_tellStage_58 : decode cX4_tellStage 58 = .ok (.aload_n 0, 1) := by decide +kernel
theorem dX4_tellStage_59 : decode cX4_tellStage 59 = .ok (.aload_n 1, 1) := by decide +kernel
theorem dX4_tellStage_60 : decode cX4_tellStage 60 = .ok (.iconst 2, 1) := by decide +kernel
theorem dX4_tellStage_61 : decode cX4_tellStage 61 = .ok (.iconst 1, 1) := by decide +kernel
theorem dX4_tellStage_62 : decode cX4_tellStage 62 = .ok (.bipush 9, 2) := by decide +kernel
theorem dX4_tellStage_64 : decode cX4_tellStage 64 = .ok (.invokevirtual 132, 3) := by decide +kernel
theorem dX4_tellStage_67 : decode cX4_tellStage 67 = .ok (.ifCond .eq 14, 3) := by decide +kernel
theorem dX4_tellStage_70 : decode cX4_tellStage 70 = .ok (.aload_n 0, 1) := by decide +kernel
theorem dX4_tellStage_71 : decode cX4_tellStage 71 = .ok (.aload_n 1, 1) := by decide +kernel
theorem dX4_tellStage_72 : decode cX4_tellStage 72 = .ok (.iconst 3, 1) := by decide +kernel
theorem dX4_tellStage_73 : decode cX4_tellStage 73 = .ok (.iconst 0, 1) := by decide +kernel
theorem dX4_tellStage_74 : decode cX4_tellStage 74 = .ok (.iconst 1, 1) := by decide +kernel
theorem dX4_tellStage_75 : decode cX4_tellStage 75 = .ok (.invokevirtual 132, 3) := by decide +kernel
theorem dX4_tellStage_78 : decode cX4_tellStage 78 = .ok (.ifCond .ne 5, 3) := by decide +kernel
theorem dX4_tellStage_81 : decode cX4_tellStage 81 = .ok (.iconst 0, 1) := by decide +kernel
theorem dX4_tellStage_82 : decode cX4_tellStage 82 = .ok (.ireturn, 1) := by decide +kernel
theorem dX4_tellStage_83 : decode cX4_tellStage 83 = .ok (.aload_n 0, 1) := by decide +kernel
theorem dX4_tellStage_84 : decode cX4_tellStage 84 = .ok (.aload_n 1, 1) := by decide +kernel
theorem dX4_tellStage_85 : decode cX4_tellStage 85 = .ok (.iconst 4, 1) := by decide +kernel
theorem dX4_tellStage_86 : decode cX4_tellStage 86 = .ok (.iconst 0, 1) := by decide +kernel
theorem dX4_tellStage_87 : decode cX4_tellStage 87 = .ok (.aload_n 0, 1) := by decide +kernel
theorem dX4_tellStage_88 : decode cX4_tellStage 88 = .ok (.getfield 44, 3) := by decide +kernel
theorem dX4_tellStage_91 : decode cX4_tellStage 91 = .ok (.iconst 1, 1) := by decide +kernel
theorem dX4_tellStage_92 : decode cX4_tellStage 92 = .ok (.isub, 1) := by decide +kernel
theorem dX4_tellStage_93 : decode cX4_tellStage 93 = .ok (.invokevirtual 132, 3) := by decide +kernel
theorem dX4_tellStage_96 : decode cX4_tellStage 96 = .ok (.ifCond .eq 10, 3) := by decide +kernel
theorem dX4_tellStage_99 : decode cX4_tellStage 99 = .ok (.aload_n 1, 1) := by decide +kernel
theorem dX4_tellStage_100 : decode cX4_tellStage 100 = .ok (.invokestatic 136, 3) := by decide +kernel
theorem dX4_tellStage_103 : decode cX4_tellStage 103 = .ok (.ifCond .ne 5, 3) := by decide +kernel
theorem dX4_tellStage_106 : decode cX4_tellStage 106 = .ok (.iconst 0, 1) := by decide +kernel
theorem dX4_tellStage_107 : decode cX4_tellStage 107 = .ok (.ireturn, 1) := by decide +kernel
theorem dX4_tellStage_108 : decode cX4_tellStage 108 = .ok (.aload_n 0, 1) := by decide +kernel
theorem dX4_tellStage_109 : decode cX4_tellStage 109 = .ok (.getfield 15, 3) := by decide +kernel
theorem dX4_tellStage_112 : decode cX4_tellStage 112 = .ok (.aload_n 0, 1) := by decide +kernel
theorem dX4_tellStage_113 : decode cX4_tellStage 113 = .ok (.getfield 48, 3) := by decide +kernel
theorem dX4_tellStage_116 : decode cX4_tellStage 116 = .ok (.aload_n 0, 1) := by decide +kernel
theorem dX4_tellStage_117 : decode cX4_tellStage 117 = .ok (.getfield 41, 3) := by decide +kernel
theorem dX4_tellStage_120 : decode cX4_tellStage 120 = .ok (.iconst 0, 1) := by decide +kernel
theorem dX4_tellStage_121 : decode cX4_tellStage 121 = .ok (.iaload, 1) := by decide +kernel
theorem dX4_tellStage_122 : decode cX4_tellStage 122 = .ok (.iastore, 1) := by decide +kernel
theorem dX4_tellStage_123 : decode cX4_tellStage 123 = .ok (.aload_n 0, 1) := by decide +kernel
theorem dX4_tellStage_124 : decode cX4_tellStage 124 = .ok (.getfield 19, 3) := by decide +kernel
theorem dX4_tellStage_127 : decode cX4_tellStage 127 = .ok (.aload_n 0, 1) := by decide +kernel
theorem dX4_tellStage_128 : decode cX4_tellStage 128 = .ok (.getfield 48, 3) := by decide +kernel
theorem dX4_tellStage_131 : decode cX4_tellStage 131 = .ok (.aload_n 0, 1) := by decide +kernel
theorem dX4_tellStage_132 : decode cX4_tellStage 132 = .ok (.getfield 41, 3) := by decide +kernel
theorem dX4_tellStage_135 : decode cX4_tellStage 135 = .ok (.iconst 1, 1) := by decide +kernel
theorem dX4_tellStage_136 : decode cX4_tellStage 136 = .ok (.iaload, 1) := by decide +kernel
theorem dX4_tellStage_137 : decode cX4_tellStage 137 = .ok (.iastore, 1) := by decide +kernel
theorem dX4_tellStage_138 : decode cX4_tellStage 138 = .ok (.aload_n 0, 1) := by decide +kernel
theorem dX4_tellStage_139 : decode cX4_tellStage 139 = .ok (.getfield 22, 3) := by decide +kernel
theorem dX4_tellStage_142 : decode cX4_tellStage 142 = .ok (.aload_n 0, 1) := by decide +kernel
theorem dX4_tellStage_143 : decode cX4_tellStage 143 = .ok (.getfield 48, 3) := by decide +kernel
theorem dX4_tellStage_146 : decode cX4_tellStage 146 = .ok (.aload_n 0, 1) := by decide +kernel
theorem dX4_tellStage_147 : decode cX4_tellStage 147 = .ok (.getfield 41, 3) := by decide +kernel
theorem dX4_tellStage_150 : decode cX4_tellStage 150 = .ok (.iconst 2, 1) := by decide +kernel
theorem dX4_tellStage_151 : decode cX4_tellStage 151 = .ok (.iaload, 1) := by decide +kernel
theorem dX4_tellStage_152 : decode cX4_tellStage 152 = .ok (.iastore, 1) := by decide +kernel
theorem dX4_tellStage_153 : decode cX4_tellStage 153 = .ok (.aload_n 0, 1) := by decide +kernel
theorem dX4_tellStage_154 : decode cX4_tellStage 154 = .ok (.getfield 25, 3) := by decide +kernel
theorem dX4_tellStage_157 : decode cX4_tellStage 157 = .ok (.aload_n 0, 1) := by decide +kernel
theorem dX4_tellStage_158 : decode cX4_tellStage 158 = .ok (.getfield 48, 3) := by decide +kernel
theorem dX4_tellStage_161 : decode cX4_tellStage 161 = .ok (.aload_n 0, 1) := by decide +kernel
theorem dX4_tellStage_162 : decode cX4_tellStage 162 = .ok (.getfield 41, 3) := by decide +kernel
theorem dX4_tellStage_165 : decode cX4_tellStage 165 = .ok (.iconst 3, 1) := by decide +kernel
theorem dX4_tellStage_166 : decode cX4_tellStage 166 = .ok (.iaload, 1) := by decide +kernel
theorem dX4_tellStage_167 : decode cX4_tellStage 167 = .ok (.iconst 1, 1) := by decide +kernel
theorem dX4_tellStage_168 : decode cX4_tellStage 168 = .ok (.if_icmp .ne 7, 3) := by decide +kernel
theorem dX4_tellStage_171 : decode cX4_tellStage 171 = .ok (.iconst 1, 1) := by decide +kernel
theorem dX4_tellStage_172 : decode cX4_tellStage 172 = .ok (.goto 4, 3) := by decide +kernel
theorem dX4_tellStage_175 : decode cX4_tellStage 175 = .ok (.iconst 0, 1) := by decide +kernel
theorem dX4_tellStage_176 : decode cX4_tellStage 176 = .ok (.bastore, 1) := by decide +kernel
theorem dX4_tellStage_177 : decode cX4_tellStage 177 = .ok (.aload_n 0, 1) := by decide +kernel
theorem dX4_tellStage_178 : decode cX4_tellStage 178 = .ok (.getfield 28, 3) := by decide +kernel
theorem dX4_tellStage_181 : decode cX4_tellStage 181 = .ok (.aload_n 0, 1) := by decide +kernel
theorem dX4_tellStage_182 : decode cX4_tellStage 182 = .ok (.getfield 48, 3) := by decide +kernel
theorem dX4_tellStage_185 : decode cX4_tellStage 185 = .ok (.aload_n 0, 1) := by decide +kernel
theorem dX4_tellStage_186 : decode cX4_tellStage 186 = .ok (.getfield 41, 3) := by decide +kernel
theorem dX4_tellStage_189 : decode cX4_tellStage 189 = .ok (.iconst 4, 1) := by decide +kernel
theorem dX4_tellStage_190 : decode cX4_tellStage 190 = .ok (.iaload, 1) := by decide +kernel
theorem dX4_tellStage_191 : decode cX4_tellStage 191 = .ok (.iastore, 1) := by decide +kernel
theorem dX4_tellStage_192 : decode cX4_tellStage 192 = .ok (.aload_n 0, 1) := by decide +kernel
theorem dX4_tellStage_193 : decode cX4_tellStage 193 = .ok (.dup, 1) := by decide +kernel
theorem dX4_tellStage_194 : decode cX4_tellStage 194 = .ok (.getfield 48, 3) := by decide +kernel
theorem dX4_tellStage_197 : decode cX4_tellStage 197 = .ok (.iconst 1, 1) := by decide +kernel
theorem dX4_tellStage_198 : decode cX4_tellStage 198 = .ok (.iadd, 1) := by decide +kernel
theorem dX4_tellStage_199 : decode cX4_tellStage 199 = .ok (.putfield 48, 3) := by decide +kernel
theorem dX4_tellStage_202 : decode cX4_tellStage 202 = .ok (.iconst 1, 1) := by decide +kernel
theorem dX4_tellStage_203 : decode cX4_tellStage 203 = .ok (.ireturn, 1) := by decide +kernel
theorem dX4_tellCaravan_0 : decode cX4_tellCaravan 0 = .ok (.aload_n 0, 1) := by decide +kernel
theorem dX4_tellCaravan_1 : decode cX4_tellCaravan 1 = .ok (.getfield 51, 3) := by decide +kernel
theorem dX4_tellCaravan_4 : decode cX4_tellCaravan 4 = .ok (.iconst 4, 1) := by decide +kernel
theorem dX4_tellCaravan_5 : decode cX4_tellCaravan 5 = .ok (.if_icmp .ge 19, 3) := by decide +kernel
theorem dX4_tellCaravan_8 : decode cX4_tellCaravan 8 = .ok (.aload_n 0, 1) := by decide +kernel
theorem dX4_tellCaravan_9 : decode cX4_tellCaravan 9 = .ok (.aload_n 1, 1) := by decide +kernel
theorem dX4_tellCaravan_10 : decode cX4_tellCaravan 10 = .ok (.iconst 0, 1) := by decide +kernel
theorem dX4_tellCaravan_11 : decode cX4_tellCaravan 11 = .ok (.iconst 0, 1) := by decide +kernel
theorem dX4_tellCaravan_12 : decode cX4_tellCaravan 12 = .ok (.aload_n 0, 1) := by decide +kernel
theorem dX4_tellCaravan_13 : decode cX4_tellCaravan 13 = .ok (.getfield 44, 3) := by decide +kernel
theorem dX4_tellCaravan_16 : decode cX4_tellCaravan 16 = .ok (.iconst 1, 1) := by decide +kernel
theorem dX4_tellCaravan_17 : decode cX4_tellCaravan 17 = .ok (.isub, 1) := by decide +kernel
theorem dX4_tellCaravan_18 : decode cX4_tellCaravan 18 = .ok (.invokevirtual 132, 3) := by decide +kernel
theorem dX4_tellCaravan_21 : decode cX4_tellCaravan 21 = .ok (.ifCond .ne 5, 3) := by decide +kernel
theorem dX4_tellCaravan_24 : decode cX4_tellCaravan 24 = .ok (.iconst 0, 1) := by decide +kernel
theorem dX4_tellCaravan_25 : decode cX4_tellCaravan 25 = .ok (.ireturn, 1) := by decide +kernel
theorem dX4_tellCaravan_26 : decode cX4_tellCaravan 26 = .ok (.aload_n 0, 1) := by decide +kernel
theorem dX4_tellCaravan_27 : decode cX4_tellCaravan 27 = .ok (.aload_n 1, 1) := by decide +kernel
theorem dX4_tellCaravan_28 : decode cX4_tellCaravan 28 = .ok (.iconst 1, 1) := by decide +kernel
theorem dX4_tellCaravan_29 : decode cX4_tellCaravan 29 = .ok (.iconst 0, 1) := by decide +kernel
theorem dX4_tellCaravan_30 : decode cX4_tellCaravan 30 = .ok (.bipush 20, 2) := by decide +kernel
theorem dX4_tellCaravan_32 : decode cX4_tellCaravan 32 = .ok (.invokevirtual 132, 3) := by decide +kernel
theorem dX4_tellCaravan_35 : decode cX4_tellCaravan 35 = .ok (.ifCond .eq 22, 3) := by decide +kernel
theorem dX4_tellCaravan_38 : decode cX4_tellCaravan 38 = .ok (.aload_n 0, 1) := by decide +kernel
theorem dX4_tellCaravan_39 : decode cX4_tellCaravan 39 = .ok (.aload_n 1, 1) := by decide +kernel
theorem dX4_tellCaravan_40 : decode cX4_tellCaravan 40 = .ok (.iconst 2, 1) := by decide +kernel
theorem dX4_tellCaravan_41 : decode cX4_tellCaravan 41 = .ok (.iconst 1, 1) := by decide +kernel
theorem dX4_tellCaravan_42 : decode cX4_tellCaravan 42 = .ok (.bipush 20, 2) := by decide +kernel
theorem dX4_tellCaravan_44 : decode cX4_tellCaravan 44 = .ok (.invokevirtual 132, 3) := by decide +kernel
theorem dX4_tellCaravan_47 : decode cX4_tellCaravan 47 = .ok (.ifCond .eq 10, 3) := by decide +kernel
theorem dX4_tellCaravan_50 : decode cX4_tellCaravan 50 = .ok (.aload_n 1, 1) := by decide +kernel
theorem dX4_tellCaravan_51 : decode cX4_tellCaravan 51 = .ok (.invokestatic 136, 3) := by decide +kernel
theorem dX4_tellCaravan_54 : decode cX4_tellCaravan 54 = .ok (.ifCond .ne 5, 3) := by decide +kernel
theorem dX4_tellCaravan_57 : decode cX4_tellCaravan 57 = .ok (.iconst 0, 1) := by decide +kernel
theorem dX4_tellCaravan_58 : decode cX4_tellCaravan 58 = .ok (.ireturn, 1) := by decide +kernel
theorem dX4_tellCaravan_59 : decode cX4_tellCaravan 59 = .ok (.aload_n 0, 1) := by decide +kernel
theorem dX4_tellCaravan_60 : decode cX4_tellCaravan 60 = .ok (.getfield 37, 3) := by decide +kernel
theorem dX4_tellCaravan_63 : decode cX4_tellCaravan 63 = .ok (.aload_n 0, 1) := by decide +kernel
theorem dX4_tellCaravan_64 : decode cX4_tellCaravan 64 = .ok (.getfield 51, 3) := by decide +kernel
theorem dX4_tellCaravan_67 : decode cX4_tellCaravan 67 = .ok (.aload_n 0, 1) := by decide +kernel
theorem dX4_tellCaravan_68 : decode cX4_tellCaravan 68 = .ok (.getfield 41, 3) := by decide +kernel
theorem dX4_tellCaravan_71 : decode cX4_tellCaravan 71 = .ok (.iconst 0, 1) := by decide +kernel
theorem dX4_tellCaravan_72 : decode cX4_tellCaravan 72 = .ok (.iaload, 1) := by decide +kernel
theorem dX4_tellCaravan_73 : decode cX4_tellCaravan 73 = .ok (.invokevirtual 139, 3) := by decide +kernel
theorem dX4_tellCaravan_76 : decode cX4_tellCaravan 76 = .ok (.aload_n 0, 1) := by decide +kernel
theorem dX4_tellCaravan_77 : decode cX4_tellCaravan 77 = .ok (.getfield 37, 3) := by decide +kernel
theorem dX4_tellCaravan_80 : decode cX4_tellCaravan 80 = .ok (.aload_n 0, 1) := by decide +kernel
theorem dX4_tellCaravan_81 : decode cX4_tellCaravan 81 = .ok (.getfield 51, 3) := by decide +kernel
theorem dX4_tellCaravan_84 : decode cX4_tellCaravan 84 = .ok (.aload_n 0, 1) := by decide +kernel
theorem dX4_tellCaravan_85 : decode cX4_tellCaravan 85 = .ok (.getfield 41, 3) := by decide +kernel
theorem dX4_tellCaravan_88 : decode cX4_tellCaravan 88 = .ok (.iconst 1, 1) := by decide +kernel
theorem dX4_tellCaravan_89 : decode cX4_tellCaravan 89 = .ok (.iaload, 1) := by decide +kernel
theorem dX4_tellCaravan_90 : decode cX4_tellCaravan 90 = .ok (.invokevirtual 143, 3) := by decide +kernel
theorem dX4_tellCaravan_93 : decode cX4_tellCaravan 93 = .ok (.aload_n 0, 1) := by decide +kernel
theorem dX4_tellCaravan_94 : decode cX4_tellCaravan 94 = .ok (.getfield 37, 3) := by decide +kernel
theorem dX4_tellCaravan_97 : decode cX4_tellCaravan 97 = .ok (.aload_n 0, 1) := by decide +kernel
theorem dX4_tellCaravan_98 : decode cX4_tellCaravan 98 = .ok (.getfield 51, 3) := by decide +kernel
theorem dX4_tellCaravan_101 : decode cX4_tellCaravan 101 = .ok (.invokevirtual 146, 3) := by decide +kernel
theorem dX4_tellCaravan_104 : decode cX4_tellCaravan 104 = .ok (.aload_n 0, 1) := by decide +kernel
theorem dX4_tellCaravan_105 : decode cX4_tellCaravan 105 = .ok (.getfield 31, 3) := by decide +kernel
theorem dX4_tellCaravan_108 : decode cX4_tellCaravan 108 = .ok (.aload_n 0, 1) := by decide +kernel
theorem dX4_tellCaravan_109 : decode cX4_tellCaravan 109 = .ok (.getfield 51, 3) := by decide +kernel
theorem dX4_tellCaravan_112 : decode cX4_tellCaravan 112 = .ok (.aload_n 0, 1) := by decide +kernel
theorem dX4_tellCaravan_113 : decode cX4_tellCaravan 113 = .ok (.getfield 41, 3) := by decide +kernel
theorem dX4_tellCaravan_116 : decode cX4_tellCaravan 116 = .ok (.iconst 2, 1) := by decide +kernel
theorem dX4_tellCaravan_117 : decode cX4_tellCaravan 117 = .ok (.iaload, 1) := by decide +kernel
theorem dX4_tellCaravan_118 : decode cX4_tellCaravan 118 = .ok (.iastore, 1) := by decide +kernel
theorem dX4_tellCaravan_119 : decode cX4_tellCaravan 119 = .ok (.aload_n 0, 1) := by decide +kernel
theorem dX4_tellCaravan_120 : decode cX4_tellCaravan 120 = .ok (.dup, 1) := by decide +kernel
theorem dX4_tellCaravan_121 : decode cX4_tellCaravan 121 = .ok (.getfield 51, 3) := by decide +kernel
theorem dX4_tellCaravan_124 : decode cX4_tellCaravan 124 = .ok (.iconst 1, 1) := by decide +kernel
theorem dX4_tellCaravan_125 : decode cX4_tellCaravan 125 = .ok (.iadd, 1) := by decide +kernel
theorem dX4_tellCaravan_126 : decode cX4_tellCaravan 126 = .ok (.putfield 51, 3) := by decide +kernel
theorem dX4_tellCaravan_129 : decode cX4_tellCaravan 129 = .ok (.iconst 1, 1) := by decide +kernel
theorem dX4_tellCaravan_130 : decode cX4_tellCaravan 130 = .ok (.ireturn, 1) := by decide +kernel
theorem dX4_tellKnots_0 : decode cX4_tellKnots 0 = .ok (.aload_n 0, 1) := by decide +kernel
theorem dX4_tellKnots_1 : decode cX4_tellKnots 1 = .ok (.aload_n 1, 1) := by decide +kernel
theorem dX4_tellKnots_2 : decode cX4_tellKnots 2 = .ok (.iconst 0, 1) := by decide +kernel
theorem dX4_tellKnots_3 : decode cX4_tellKnots 3 = .ok (.iconst 0, 1) := by decide +kernel
theorem dX4_tellKnots_4 : decode cX4_tellKnots 4 = .ok (.aload_n 0, 1) := by decide +kernel
theorem dX4_tellKnots_5 : decode cX4_tellKnots 5 = .ok (.getfield 51, 3) := by decide +kernel
theorem dX4_tellKnots_8 : decode cX4_tellKnots 8 = .ok (.iconst 1, 1) := by decide +kernel
theorem dX4_tellKnots_9 : decode cX4_tellKnots 9 = .ok (.isub, 1) := by decide +kernel
theorem dX4_tellKnots_10 : decode cX4_tellKnots 10 = .ok (.invokevirtual 132, 3) := by decide +kernel
theorem dX4_tellKnots_13 : decode cX4_tellKnots 13 = .ok (.ifCond .eq 19, 3) := by decide +kernel
theorem dX4_tellKnots_16 : decode cX4_tellKnots 16 = .ok (.aload_n 0, 1) := by decide +kernel
theorem dX4_tellKnots_17 : decode cX4_tellKnots 17 = .ok (.aload_n 1, 1) := by decide +kernel
theorem dX4_tellKnots_18 : decode cX4_tellKnots 18 = .ok (.iconst 1, 1) := by decide +kernel
theorem dX4_tellKnots_19 : decode cX4_tellKnots 19 = .ok (.iconst 0, 1) := by decide +kernel
theorem dX4_tellKnots_20 : decode cX4_tellKnots 20 = .ok (.aload_n 0, 1) := by decide +kernel
theorem dX4_tellKnots_21 : decode cX4_tellKnots 21 = .ok (.getfield 44, 3) := by decide +kernel
theorem dX4_tellKnots_24 : decode cX4_tellKnots 24 = .ok (.iconst 1, 1) := by decide +kernel
theorem dX4_tellKnots_25 : decode cX4_tellKnots 25 = .ok (.isub, 1) := by decide +kernel
theorem dX4_tellKnots_26 : decode cX4_tellKnots 26 = .ok (.invokevirtual 132, 3) := by decide +kernel
theorem dX4_tellKnots_29 : decode cX4_tellKnots 29 = .ok (.ifCond .ne 5, 3) := by decide +kernel
theorem dX4_tellKnots_32 : decode cX4_tellKnots 32 = .ok (.iconst 0, 1) := by decide +kernel
theorem dX4_tellKnots_33 : decode cX4_tellKnots 33 = .ok (.ireturn, 1) := by decide +kernel
theorem dX4_tellKnots_34 : decode cX4_tellKnots 34 = .ok (.aload_n 0, 1) := by decide +kernel
theorem dX4_tellKnots_35 : decode cX4_tellKnots 35 = .ok (.aload_n 1, 1) := by decide +kernel
theorem dX4_tellKnots_36 : decode cX4_tellKnots 36 = .ok (.iconst 2, 1) := by decide +kernel
theorem dX4_tellKnots_37 : decode cX4_tellKnots 37 = .ok (.iconst 0, 1) := by decide +kernel
theorem dX4_tellKnots_38 : decode cX4_tellKnots 38 = .ok (.bipush 60, 2) := by decide +kernel
theorem dX4_tellKnots_40 : decode cX4_tellKnots 40 = .ok (.invokevirtual 132, 3) := by decide +kernel
theorem dX4_tellKnots_43 : decode cX4_tellKnots 43 = .ok (.ifCond .eq 10, 3) := by decide +kernel
theorem dX4_tellKnots_46 : decode cX4_tellKnots 46 = .ok (.aload_n 1, 1) := by decide +kernel
theorem dX4_tellKnots_47 : decode cX4_tellKnots 47 = .ok (.invokestatic 136, 3) := by decide +kernel
theorem dX4_tellKnots_50 : decode cX4_tellKnots 50 = .ok (.ifCond .ne 5, 3) := by decide +kernel
theorem dX4_tellKnots_53 : decode cX4_tellKnots 53 = .ok (.iconst 0, 1) := by decide +kernel
theorem dX4_tellKnots_54 : decode cX4_tellKnots 54 = .ok (.ireturn, 1) := by decide +kernel
theorem dX4_tellKnots_55 : decode cX4_tellKnots 55 = .ok (.aload_n 0, 1) := by decide +kernel
theorem dX4_tellKnots_56 : decode cX4_tellKnots 56 = .ok (.getfield 37, 3) := by decide +kernel
theorem dX4_tellKnots_59 : decode cX4_tellKnots 59 = .ok (.aload_n 0, 1) := by decide +kernel
theorem dX4_tellKnots_60 : decode cX4_tellKnots 60 = .ok (.getfield 41, 3) := by decide +kernel
theorem dX4_tellKnots_63 : decode cX4_tellKnots 63 = .ok (.iconst 0, 1) := by decide +kernel
theorem dX4_tellKnots_64 : decode cX4_tellKnots 64 = .ok (.iaload, 1) := by decide +kernel
theorem dX4_tellKnots_65 : decode cX4_tellKnots 65 = .ok (.aload_n 0, 1) := by decide +kernel
theorem dX4_tellKnots_66 : decode cX4_tellKnots 66 = .ok (.getfield 41, 3) := by decide +kernel
theorem dX4_tellKnots_69 : decode cX4_tellKnots 69 = .ok (.iconst 1, 1) := by decide +kernel
theorem dX4_tellKnots_70 : decode cX4_tellKnots 70 = .ok (.iaload, 1) := by decide +kernel
theorem dX4_tellKnots_71 : decode cX4_tellKnots 71 = .ok (.aload_n 0, 1) := by decide +kernel
theorem dX4_tellKnots_72 : decode cX4_tellKnots 72 = .ok (.getfield 41, 3) := by decide +kernel
theorem dX4_tellKnots_75 : decode cX4_tellKnots 75 = .ok (.iconst 2, 1) := by decide +kernel
theorem dX4_tellKnots_76 : decode cX4_tellKnots 76 = .ok (.iaload, 1) := by decide +kernel
theorem dX4_tellKnots_77 : decode cX4_tellKnots 77 = .ok (.invokevirtual 150, 3) := by decide +kernel
theorem dX4_tellKnots_80 : decode cX4_tellKnots 80 = .ok (.iconst 1, 1) := by decide +kernel
theorem dX4_tellKnots_81 : decode cX4_tellKnots 81 = .ok (.ireturn, 1) := by decide +kernel
theorem dX4_tellDues_0 : decode cX4_tellDues 0 = .ok (.aload_n 0, 1) := by decide +kernel
theorem dX4_tellDues_1 : decode cX4_tellDues 1 = .ok (.aload_n 1, 1) := by decide +kernel
theorem dX4_tellDues_2 : decode cX4_tellDues 2 = .ok (.iconst 0, 1) := by decide +kernel
theorem dX4_tellDues_3 : decode cX4_tellDues 3 = .ok (.iconst 0, 1) := by decide +kernel
theorem dX4_tellDues_4 : decode cX4_tellDues 4 = .ok (.aload_n 0, 1) := by decide +kernel
theorem dX4_tellDues_5 : decode cX4_tellDues 5 = .ok (.getfield 44, 3) := by decide +kernel
theorem dX4_tellDues_8 : decode cX4_tellDues 8 = .ok (.iconst 1, 1) := by decide +kernel
theorem dX4_tellDues_9 : decode cX4_tellDues 9 = .ok (.isub, 1) := by decide +kernel
theorem dX4_tellDues_10 : decode cX4_tellDues 10 = .ok (.invokevirtual 132, 3) := by decide +kernel
theorem dX4_tellDues_13 : decode cX4_tellDues 13 = .ok (.ifCond .eq 34, 3) := by decide +kernel
theorem dX4_tellDues_16 : decode cX4_tellDues 16 = .ok (.aload_n 0, 1) := by decide +kernel
theorem dX4_tellDues_17 : decode cX4_tellDues 17 = .ok (.aload_n 1, 1) := by decide +kernel
theorem dX4_tellDues_18 : decode cX4_tellDues 18 = .ok (.iconst 1, 1) := by decide +kernel
theorem dX4_tellDues_19 : decode cX4_tellDues 19 = .ok (.iconst 0, 1) := by decide +kernel
theorem dX4_tellDues_20 : decode cX4_tellDues 20 = .ok (.aload_n 0, 1) := by decide +kernel
theorem dX4_tellDues_21 : decode cX4_tellDues 21 = .ok (.getfield 44, 3) := by decide +kernel
theorem dX4_tellDues_24 : decode cX4_tellDues 24 = .ok (.iconst 1, 1) := by decide +kernel
theorem dX4_tellDues_25 : decode cX4_tellDues 25 = .ok (.isub, 1) := by decide +kernel
theorem dX4_tellDues_26 : decode cX4_tellDues 26 = .ok (.invokevirtual 132, 3) := by decide +kernel
theorem dX4_tellDues_29 : decode cX4_tellDues 29 = .ok (.ifCond .eq 18, 3) := by decide +kernel
theorem dX4_tellDues_32 : decode cX4_tellDues 32 = .ok (.aload_n 0, 1) := by decide +kernel
theorem dX4_tellDues_33 : decode cX4_tellDues 33 = .ok (.getfield 41, 3) := by decide +kernel
theorem dX4_tellDues_36 : decode cX4_tellDues 36 = .ok (.iconst 0, 1) := by decide +kernel
theorem dX4_tellDues_37 : decode cX4_tellDues 37 = .ok (.iaload, 1) := by decide +kernel
theorem dX4_tellDues_38 : decode cX4_tellDues 38 = .ok (.aload_n 0, 1) := by decide +kernel
theorem dX4_tellDues_39 : decode cX4_tellDues 39 = .ok (.getfield 41, 3) := by decide +kernel
theorem dX4_tellDues_42 : decode cX4_tellDues 42 = .ok (.iconst 1, 1) := by decide +kernel
theorem dX4_tellDues_43 : decode cX4_tellDues 43 = .ok (.iaload, 1) := by decide +kernel
theorem dX4_tellDues_44 : decode cX4_tellDues 44 = .ok (.if_icmp .ne 5, 3) := by decide +kernel
theorem dX4_tellDues_47 : decode cX4_tellDues 47 = .ok (.iconst 0, 1) := by decide +kernel
theorem dX4_tellDues_48 : decode cX4_tellDues 48 = .ok (.ireturn, 1) := by decide +kernel
theorem dX4_tellDues_49 : decode cX4_tellDues 49 = .ok (.aload_n 0, 1) := by decide +kernel
theorem dX4_tellDues_50 : decode cX4_tellDues 50 = .ok (.aload_n 1, 1) := by decide +kernel
theorem dX4_tellDues_51 : decode cX4_tellDues 51 = .ok (.iconst 2, 1) := by decide +kernel
theorem dX4_tellDues_52 : decode cX4_tellDues 52 = .ok (.iconst 0, 1) := by decide +kernel
theorem dX4_tellDues_53 : decode cX4_tellDues 53 = .ok (.bipush 60, 2) := by decide +kernel
theorem dX4_tellDues_55 : decode cX4_tellDues 55 = .ok (.invokevirtual 132, 3) := by decide +kernel
theorem dX4_tellDues_58 : decode cX4_tellDues 58 = .ok (.ifCond .eq 10, 3) := by decide +kernel
theorem dX4_tellDues_61 : decode cX4_tellDues 61 = .ok (.aload_n 1, 1) := by decide +kernel
theorem dX4_tellDues_62 : decode cX4_tellDues 62 = .ok (.invokestatic 136, 3) := by decide +kernel
theorem dX4_tellDues_65 : decode cX4_tellDues 65 = .ok (.ifCond .ne 5, 3) := by decide +kernel
theorem dX4_tellDues_68 : decode cX4_tellDues 68 = .ok (.iconst 0, 1) := by decide +kernel
theorem dX4_tellDues_69 : decode cX4_tellDues 69 = .ok (.ireturn, 1) := by decide +kernel
theorem dX4_tellDues_70 : decode cX4_tellDues 70 = .ok (.aload_n 0, 1) := by decide +kernel
theorem dX4_tellDues_71 : decode cX4_tellDues 71 = .ok (.getfield 37, 3) := by decide +kernel
theorem dX4_tellDues_74 : decode cX4_tellDues 74 = .ok (.aload_n 0, 1) := by decide +kernel
theorem dX4_tellDues_75 : decode cX4_tellDues 75 = .ok (.getfield 41, 3) := by decide +kernel
theorem dX4_tellDues_78 : decode cX4_tellDues 78 = .ok (.iconst 0, 1) := by decide +kernel
theorem dX4_tellDues_79 : decode cX4_tellDues 79 = .ok (.iaload, 1) := by decide +kernel
theorem dX4_tellDues_80 : decode cX4_tellDues 80 = .ok (.aload_n 0, 1) := by decide +kernel
theorem dX4_tellDues_81 : decode cX4_tellDues 81 = .ok (.getfield 41, 3) := by decide +kernel
theorem dX4_tellDues_84 : decode cX4_tellDues 84 = .ok (.iconst 1, 1) := by decide +kernel
theorem dX4_tellDues_85 : decode cX4_tellDues 85 = .ok (.iaload, 1) := by decide +kernel
theorem dX4_tellDues_86 : decode cX4_tellDues 86 = .ok (.aload_n 0, 1) := by decide +kernel
theorem dX4_tellDues_87 : decode cX4_tellDues 87 = .ok (.getfield 41, 3) := by decide +kernel
theorem dX4_tellDues_90 : decode cX4_tellDues 90 = .ok (.iconst 2, 1) := by decide +kernel
theorem dX4_tellDues_91 : decode cX4_tellDues 91 = .ok (.iaload, 1) := by decide +kernel
theorem dX4_tellDues_92 : decode cX4_tellDues 92 = .ok (.invokevirtual 154, 3) := by decide +kernel
theorem dX4_tellDues_95 : decode cX4_tellDues 95 = .ok (.iconst 1, 1) := by decide +kernel
theorem dX4_tellDues_96 : decode cX4_tellDues 96 = .ok (.ireturn, 1) := by decide +kernel
theorem dX4_hear_0 : decode cX4_hear 0 = .ok (.aload_n 1, 1) := by decide +kernel
theorem dX4_hear_1 : decode cX4_hear 1 = .ok (.invokevirtual 100, 3) := by decide +kernel
theorem dX4_hear_4 : decode cX4_hear 4 = .ok (.aload_n 1, 1) := by decide +kernel
theorem dX4_hear_5 : decode cX4_hear 5 = .ok (.invokevirtual 114, 3) := by decide +kernel
theorem dX4_hear_8 : decode cX4_hear 8 = .ok (.istore 5, 2) := by decide +kernel
theorem dX4_hear_10 : decode cX4_hear 10 = .ok (.aload_n 1, 1) := by decide +kernel
theorem dX4_hear_11 : decode cX4_hear 11 = .ok (.invokevirtual 103, 3) := by decide +kernel
theorem dX4_hear_14 : decode cX4_hear 14 = .ok (.iconst 2, 1) := by decide +kernel
theorem dX4_hear_15 : decode cX4_hear 15 = .ok (.if_icmp .ne 29, 3) := by decide +kernel
theorem dX4_hear_18 : decode cX4_hear 18 = .ok (.iload 5, 2) := by decide +kernel
theorem dX4_hear_20 : decode cX4_hear 20 = .ok (.iload_n 3, 1) := by decide +kernel
theorem dX4_hear_21 : decode cX4_hear 21 = .ok (.if_icmp .lt 23, 3) := by decide +kernel
theorem dX4_hear_24 : decode cX4_hear 24 = .ok (.iload 5, 2) := by decide +kernel
theorem dX4_hear_26 : decode cX4_hear 26 = .ok (.iload 4, 2) := by decide +kernel
theorem dX4_hear_28 : decode cX4_hear 28 = .ok (.if_icmp .gt 16, 3) := by decide +kernel
theorem dX4_hear_31 : decode cX4_hear 31 = .ok (.iload_n 2, 1) := by decide +kernel
theorem dX4_hear_32 : decode cX4_hear 32 = .ok (.ifCond .lt 12, 3) := by decide +kernel
theorem dX4_hear_35 : decode cX4_hear 35 = .ok (.iload_n 2, 1) := by decide +kernel
theorem dX4_hear_36 : decode cX4_hear 36 = .ok (.aload_n 0, 1) := by decide +kernel
theorem dX4_hear_37 : decode cX4_hear 37 = .ok (.getfield 41, 3) := by decide +kernel
theorem dX4_hear_40 : decode cX4_hear 40 = .ok (.arraylength, 1) := by decide +kernel
theorem dX4_hear_41 : decode cX4_hear 41 = .ok (.if_icmp .lt 5, 3) := by decide +kernel
theorem dX4_hear_44 : decode cX4_hear 44 = .ok (.iconst 0, 1) := by decide +kernel
theorem dX4_hear_45 : decode cX4_hear 45 = .ok (.ireturn, 1) := by decide +kernel
theorem dX4_hear_46 : decode cX4_hear 46 = .ok (.aload_n 0, 1) := by decide +kernel
theorem dX4_hear_47 : decode cX4_hear 47 = .ok (.getfield 41, 3) := by decide +kernel
theorem dX4_hear_50 : decode cX4_hear 50 = .ok (.iload_n 2, 1) := by decide +kernel
theorem dX4_hear_51 : decode cX4_hear 51 = .ok (.iload 5, 2) := by decide +kernel
theorem dX4_hear_53 : decode cX4_hear 53 = .ok (.iastore, 1) := by decide +kernel
theorem dX4_hear_54 : decode cX4_hear 54 = .ok (.iconst 1, 1) := by decide +kernel
theorem dX4_hear_55 : decode cX4_hear 55 = .ok (.ireturn, 1) := by decide +kernel
theorem dX4_hearStop_0 : decode cX4_hearStop 0 = .ok (.aload_n 0, 1) := by decide +kernel
theorem dX4_hearStop_1 : decode cX4_hearStop 1 = .ok (.invokevirtual 100, 3) := by decide +kernel
theorem dX4_hearStop_4 : decode cX4_hearStop 4 = .ok (.aload_n 0, 1) := by decide +kernel
theorem dX4_hearStop_5 : decode cX4_hearStop 5 = .ok (.invokevirtual 103, 3) := by decide +kernel
theorem dX4_hearStop_8 : decode cX4_hearStop 8 = .ok (.iconst 3, 1) := by decide +kernel
theorem dX4_hearStop_9 : decode cX4_hearStop 9 = .ok (.if_icmp .ne 7, 3) := by decide +kernel
theorem dX4_hearStop_12 : decode cX4_hearStop 12 = .ok (.iconst 1, 1) := by decide +kernel
theorem dX4_hearStop_13 : decode cX4_hearStop 13 = .ok (.goto 4, 3) := by decide +kernel
theorem dX4_hearStop_16 : decode cX4_hearStop 16 = .ok (.iconst 0, 1) := by decide +kernel
theorem dX4_hearStop_17 : decode cX4_hearStop 17 = .ok (.ireturn, 1) := by decide +kernel
theorem dX5_init_0 : decode cX5_init 0 = .ok (.aload_n 0, 1) := by decide +kernel
theorem dX5_init_1 : decode cX5_init 1 = .ok (.invokespecial 3, 3) := by decide +kernel
theorem dX5_init_4 : decode cX5_init 4 = .ok (.aload_n 0, 1) := by decide +kernel
theorem dX5_init_5 : decode cX5_init 5 = .ok (.bipush 64, 2) := by decide +kernel
theorem dX5_init_7 : decode cX5_init 7 = .ok (.newarray .int, 2) := by decide +kernel
theorem dX5_init_9 : decode cX5_init 9 = .ok (.putfield 11, 3) := by decide +kernel
theorem dX5_init_12 : decode cX5_init 12 = .ok (.return_, 1) := by decide +kernel
theorem dX5_fewestPayments_0 : decode cX5_fewestPayments 0 = .ok (.iconst 1, 1) := by decide +kernel
theorem dX5_fewestPayments_1 : decode cX5_fewestPayments 1 = .ok (.iconst 0, 1) := by decide +kernel
theorem dX5_fewestPayments_2 : decode cX5_fewestPayments 2 = .ok (.iload_n 2, 1) := by decide +kernel
theorem dX5_fewestPayments_3 : decode cX5_fewestPayments 3 = .ok (.bipush 6, 2) := by decide +kernel
theorem dX5_fewestPayments_5 : decode cX5_fewestPayments 5 = .ok (.invokestatic 15, 3) := by decide +kernel
theorem dX5_fewestPayments_8 : decode cX5_fewestPayments 8 = .ok (.invokestatic 21, 3) := by decide +kernel
theorem dX5_fewestPayments_11 : decode cX5_fewestPayments 11 = .ok (.ishl, 1) := by decide +kernel
theorem dX5_fewestPayments_12 : decode cX5_fewestPayments 12 = .ok (.istore_n 3, 1) := by decide +kernel
theorem dX5_fewestPayments_13 : decode cX5_fewestPayments 13 = .ok (.iconst 1, 1) := by decide +kernel
theorem dX5_fewestPayments_14 : decode cX5_fewestPayments 14 = .ok (.istore 4, 2) := by decide +kernel
theorem dX5_fewestPayments_16 : decode cX5_fewestPayments 16 = .ok (.iload 4, 2) := by decide +kernel
theorem dX5_fewestPayments_18 : decode cX5_fewestPayments 18 = .ok (.iload_n 3, 1) := by decide +kernel
theorem dX5_fewestPayments_19 : decode cX5_fewestPayments 19 = .ok (.if_icmp .ge 99, 3) := by decide +kernel
theorem dX5_fewestPayments_22 : decode cX5_fewestPayments 22 = .ok (.iload 4, 2) := by decide +kernel
theorem dX5_fewestPayments_24 : decode cX5_fewestPayments 24 = .ok (.bipush 64, 2) := by decide +kernel
theorem dX5_fewestPayments_26 : decode cX5_fewestPayments 26 = .ok (.if_icmp .ge 92, 3) := by decide +kernel
theorem dX5_fewestPayments_29 : decode cX5_fewestPayments 29 = .ok (.iconst 0, 1) := by decide +kernel
theorem dX5_fewestPayments_30 : decode cX5_fewestPayments 30 = .ok (.istore 5, 2) := by decide +kernel
theorem dX5_fewestPayments_32 : decode cX5_fewestPayments 32 = .ok (.iconst 0, 1) := by decide +kernel
theorem dX5_fewestPayments_33 : decode cX5_fewestPayments 33 = .ok (.istore 6, 2) := by decide +kernel
theorem dX5_fewestPayments_35 : decode cX5_fewestPayments 35 = .ok (.iconst 0, 1) := by decide +kernel
theorem dX5_fewestPayments_36 : decode cX5_fewestPayments 36 = .ok (.istore 7, 2) := by decide +kernel
theorem dX5_fewestPayments_38 : decode cX5_fewestPayments 38 = .ok (.iload 7, 2) := by decide +kernel
theorem dX5_fewestPayments_40 : decode cX5_fewestPayments 40 = .ok (.bipush 6, 2) := by decide +kernel
theorem dX5_fewestPayments_42 : decode cX5_fewestPayments 42 = .ok (.if_icmp .ge 49, 3) := by decide +kernel
theorem dX5_fewestPayments_45 : decode cX5_fewestPayments 45 = .ok (.iload 4, 2) := by decide +kernel
theorem dX5_fewestPayments_47 : decode cX5_fewestPayments 47 = .ok (.iload 7, 2) := by decide +kernel
theorem dX5_fewestPayments_49 : decode cX5_fewestPayments 49 = .ok (.invokestatic 24, 3) := by decide +kernel
theorem dX5_fewestPayments_52 : decode cX5_fewestPayments 52 = .ok (.ifCond .eq 33, 3) := by decide +kernel
theorem dX5_fewestPayments_55 : decode cX5_fewestPayments 55 = .ok (.iload 5, 2) := by decide +kernel
theorem dX5_fewestPayments_57 : decode cX5_fewestPayments 57 = .ok (.aload_n 1, 1) := by decide +kernel
theorem dX5_fewestPayments_58 : decode cX5_fewestPayments 58 = .ok (.iload 7, 2) := by decide +kernel
theorem dX5_fewestPayments_60 : decode cX5_fewestPayments 60 = .ok (.invokevirtual 28, 3) := by decide +kernel
theorem dX5_fewestPayments_63 : decode cX5_fewestPayments 63 = .ok (.iadd, 1) := by decide +kernel
theorem dX5_fewestPayments_64 : decode cX5_fewestPayments 64 = .ok (.istore 5, 2) := by decide +kernel
theorem dX5_fewestPayments_66 : decode cX5_fewestPayments 66 = .ok (.iload 6, 2) := by decide +kernel
theorem dX5_fewestPayments_68 : decode cX5_fewestPayments 68 = .ok (.aload_n 0, 1) := by decide +kernel
theorem dX5_fewestPayments_69 : decode cX5_fewestPayments 69 = .ok (.getfield 11, 3) := by decide +kernel
theorem dX5_fewestPayments_72 : decode cX5_fewestPayments 72 = .ok (.iload 4, 2) := by decide +kernel
theorem dX5_fewestPayments_74 : decode cX5_fewestPayments 74 = .ok (.iconst 1, 1) := by decide +kernel
theorem dX5_fewestPayments_75 : decode cX5_fewestPayments 75 = .ok (.iload 7, 2) := by decide +kernel
theorem dX5_fewestPayments_77 : decode cX5_fewestPayments 77 = .ok (.ishl, 1) := by decide +kernel
theorem dX5_fewestPayments_78 : decode cX5_fewestPayments 78 = .ok (.ixor, 1) := by decide +kernel
theorem dX5_fewestPayments_79 : decode cX5_fewestPayments 79 = .ok (.iaload, 1) := by decide +kernel
theorem dX5_fewestPayments_80 : decode cX5_fewestPayments 80 = .ok (.invokestatic 21, 3) := by decide +kernel
theorem dX5_fewestPayments_83 : decode cX5_fewestPayments 83 = .ok (.istore 6, 2) := by decide +kernel
theorem dX5_fewestPayments_85 : decode cX5_fewestPayments 85 = .ok (.iinc 7 1, 3) := by decide +kernel
theorem dX5_fewestPayments_88 : decode cX5_fewestPayments 88 = .ok (.goto (-50), 3) := by decide +kernel
theorem dX5_fewestPayments_91 : decode cX5_fewestPayments 91 = .ok (.aload_n 0, 1) := by decide +kernel
theorem dX5_fewestPayments_92 : decode cX5_fewestPayments 92 = .ok (.getfield 11, 3) := by decide +kernel
theorem dX5_fewestPayments_95 : decode cX5_fewestPayments 95 = .ok (.iload 4, 2) := by decide +kernel
theorem dX5_fewestPayments_97 : decode cX5_fewestPayments 97 = .ok (.iload 5, 2) := by decide +kernel
theorem dX5_fewestPayments_99 : decode cX5_fewestPayments 99 = .ok (.ifCond .ne 10, 3) := by decide +kernel
theorem dX5_fewestPayments_102 : decode cX5_fewestPayments 102 = .ok (.iload 6, 2) := by decide +kernel
theorem dX5_fewestPayments_104 : decode cX5_fewestPayments 104 = .ok (.iconst 1, 1) := by decide +kernel
theorem dX5_fewestPayments_105 : decode cX5_fewestPayments 105 = .ok (.iadd, 1) := by decide +kernel
theorem dX5_fewestPayments_106 : decode cX5_fewestPayments 106 = .ok (.goto 5, 3) := by decide +kernel
theorem dX5_fewestPayments_109 : decode cX5_fewestPayments 109 = .ok (.iload 6, 2) := by decide +kernel
theorem dX5_fewestPayments_111 : decode cX5_fewestPayments 111 = .ok (.iastore, 1) := by decide +kernel
theorem dX5_fewestPayments_112 : decode cX5_fewestPayments 112 = .ok (.iinc 4 1, 3) := by decide +kernel
theorem dX5_fewestPayments_115 : decode cX5_fewestPayments 115 = .ok (.goto (-99), 3) := by decide +kernel
theorem dX5_fewestPayments_118 : decode cX5_fewestPayments 118 = .ok (.iload_n 2, 1) := by decide +kernel
theorem dX5_fewestPayments_119 : decode cX5_fewestPayments 119 = .ok (.aload_n 0, 1) := by decide +kernel
theorem dX5_fewestPayments_120 : decode cX5_fewestPayments 120 = .ok (.getfield 11, 3) := by decide +kernel
theorem dX5_fewestPayments_123 : decode cX5_fewestPayments 123 = .ok (.iload_n 3, 1) := by decide +kernel
theorem dX5_fewestPayments_124 : decode cX5_fewestPayments 124 = .ok (.iconst 1, 1) := by decide +kernel
theorem dX5_fewestPayments_125 : decode cX5_fewestPayments 125 = .ok (.isub, 1) := by decide +kernel
theorem dX5_fewestPayments_126 : decode cX5_fewestPayments 126 = .ok (.iaload, 1) := by decide +kernel
theorem dX5_fewestPayments_127 : decode cX5_fewestPayments 127 = .ok (.isub, 1) := by decide +kernel
theorem dX5_fewestPayments_128 : decode cX5_fewestPayments 128 = .ok (.ireturn, 1) := by decide +kernel
theorem dX6_init_0 : decode cX6_init 0 = .ok (.aload_n 0, 1) := by decide +kernel
theorem dX6_init_1 : decode cX6_init 1 = .ok (.invokespecial 3, 3) := by decide +kernel
theorem dX6_init_4 : decode cX6_init 4 = .ok (.aload_n 0, 1) := by decide +kernel
theorem dX6_init_5 : decode cX6_init 5 = .ok (.sipush 200, 3) := by decide +kernel
theorem dX6_init_8 : decode cX6_init 8 = .ok (.newarray .int, 2) := by decide +kernel
theorem dX6_init_10 : decode cX6_init 10 = .ok (.putfield 9, 3) := by decide +kernel
theorem dX6_init_13 : decode cX6_init 13 = .ok (.return_, 1) := by decide +kernel
theorem dX6_append_0 : decode cX6_append 0 = .ok (.aload_n 0, 1) := by decide +kernel
theorem dX6_append_1 : decode cX6_append 1 = .ok (.getfield 15, 3) := by decide +kernel
theorem dX6_append_4 : decode cX6_append 4 = .ok (.sipush 200, 3) := by decide +kernel
theorem dX6_append_7 : decode cX6_append 7 = .ok (.if_icmp .lt 5, 3) := by decide +kernel
theorem dX6_append_10 : decode cX6_append 10 = .ok (.iconst 0, 1) := by decide +kernel
theorem dX6_append_11 : decode cX6_append 11 = .ok (.ireturn, 1) := by decide +kernel
theorem dX6_append_12 : decode cX6_append 12 = .ok (.aload_n 0, 1) := by decide +kernel
theorem dX6_append_13 : decode cX6_append 13 = .ok (.getfield 9, 3) := by decide +kernel
theorem dX6_append_16 : decode cX6_append 16 = .ok (.aload_n 0, 1) := by decide +kernel
theorem dX6_append_17 : decode cX6_append 17 = .ok (.getfield 15, 3) := by decide +kernel
theorem dX6_append_20 : decode cX6_append 20 = .ok (.iload_n 1, 1) := by decide +kernel
theorem dX6_append_21 : decode cX6_append 21 = .ok (.iastore, 1) := by decide +kernel
theorem dX6_append_22 : decode cX6_append 22 = .ok (.aload_n 0, 1) := by decide +kernel
theorem dX6_append_23 : decode cX6_append 23 = .ok (.dup, 1) := by decide +kernel
theorem dX6_append_24 : decode cX6_append 24 = .ok (.getfield 15, 3) := by decide +kernel
theorem dX6_append_27 : decode cX6_append 27 = .ok (.iconst 1, 1) := by decide +kernel
theorem dX6_append_28 : decode cX6_append 28 = .ok (.iadd, 1) := by decide +kernel
theorem dX6_append_29 : decode cX6_append 29 = .ok (.putfield 15, 3) := by decide +kernel
theorem dX6_append_32 : decode cX6_append 32 = .ok (.iconst 1, 1) := by decide +kernel
theorem dX6_append_33 : decode cX6_append 33 = .ok (.ireturn, 1) := by decide +kernel
theorem dX6_size_0 : decode cX6_size 0 = .ok (.aload_n 0, 1) := by decide +kernel
theorem dX6_size_1 : decode cX6_size 1 = .ok (.getfield 15, 3) := by decide +kernel
theorem dX6_size_4 : decode cX6_size 4 = .ok (.ireturn, 1) := by decide +kernel
theorem dX6_empty_0 : decode cX6_empty 0 = .ok (.aload_n 0, 1) := by decide +kernel
theorem dX6_empty_1 : decode cX6_empty 1 = .ok (.getfield 15, 3) := by decide +kernel
theorem dX6_empty_4 : decode cX6_empty 4 = .ok (.istore_n 1, 1) := by decide +kernel
theorem dX6_empty_5 : decode cX6_empty 5 = .ok (.aload_n 0, 1) := by decide +kernel
theorem dX6_empty_6 : decode cX6_empty 6 = .ok (.iconst 0, 1) := by decide +kernel
theorem dX6_empty_7 : decode cX6_empty 7 = .ok (.putfield 15, 3) := by decide +kernel
theorem dX6_empty_10 : decode cX6_empty 10 = .ok (.iload_n 1, 1) := by decide +kernel
theorem dX6_empty_11 : decode cX6_empty 11 = .ok (.ireturn, 1) := by decide +kernel
theorem dX6_rewind_0 : decode cX6_rewind 0 = .ok (.aload_n 0, 1) := by decide +kernel
theorem dX6_rewind_1 : decode cX6_rewind 1 = .ok (.iconst 0, 1) := by decide +kernel
theorem dX6_rewind_2 : decode cX6_rewind 2 = .ok (.putfield 19, 3) := by decide +kernel
theorem dX6_rewind_5 : decode cX6_rewind 5 = .ok (.return_, 1) := by decide +kernel
theorem dX6_tokenKind_0 : decode cX6_tokenKind 0 = .ok (.aload_n 0, 1) := by decide +kernel
theorem dX6_tokenKind_1 : decode cX6_tokenKind 1 = .ok (.getfield 22, 3) := by decide +kernel
theorem dX6_tokenKind_4 : decode cX6_tokenKind 4 = .ok (.ireturn, 1) := by decide +kernel
theorem dX6_tokenPlace_0 : decode cX6_tokenPlace 0 = .ok (.aload_n 0, 1) := by decide +kernel
theorem dX6_tokenPlace_1 : decode cX6_tokenPlace 1 = .ok (.getfield 25, 3) := by decide +kernel
theorem dX6_tokenPlace_4 : decode cX6_tokenPlace 4 = .ok (.ireturn, 1) := by decide +kernel
theorem dX6_tokenValue_0 : decode cX6_tokenValue 0 = .ok (.aload_n 0, 1) := by decide +kernel
theorem dX6_tokenValue_1 : decode cX6_tokenValue 1 = .ok (.getfield 28, 3) := by decide +kernel
theorem dX6_tokenValue_4 : decode cX6_tokenValue 4 = .ok (.ireturn, 1) := by decide +kernel
theorem dX6_scan_0 : decode cX6_scan 0 = .ok (.aload_n 0, 1) := by decide +kernel
theorem dX6_scan_1 : decode cX6_scan 1 = .ok (.aload_n 0, 1) := by decide +kernel
theorem dX6_scan_2 : decode cX6_scan 2 = .ok (.aload_n 0, 1) := by decide +kernel
theorem dX6_scan_3 : decode cX6_scan 3 = .ok (.getfield 19, 3) := by decide +kernel
theorem dX6_scan_6 : decode cX6_scan 6 = .ok (.bipush 32, 2) := by decide +kernel
theorem dX6_scan_8 : decode cX6_scan 8 = .ok (.bipush 32, 2) := by decide +kernel
theorem dX6_scan_10 : decode cX6_scan 10 = .ok (.invokevirtual 31, 3) := by decide +kernel
theorem dX6_scan_13 : decode cX6_scan 13 = .ok (.putfield 25, 3) := by decide +kernel
theorem dX6_scan_16 : decode cX6_scan 16 = .ok (.aload_n 0, 1) := by decide +kernel
theorem dX6_scan_17 : decode cX6_scan 17 = .ok (.aload_n 0, 1) := by decide +kernel
theorem dX6_scan_18 : decode cX6_scan 18 = .ok (.getfield 25, 3) := by decide +kernel
theorem dX6_scan_21 : decode cX6_scan 21 = .ok (.putfield 19, 3) := by decide +kernel
theorem dX6_scan_24 : decode cX6_scan 24 = .ok (.aload_n 0, 1) := by decide +kernel
theorem dX6_scan_25 : decode cX6_scan 25 = .ok (.iconst 0, 1) := by decide +kernel
theorem dX6_scan_26 : decode cX6_scan 26 = .ok (.putfield 28, 3) := by decide +kernel
theorem dX6_scan_29 : decode cX6_scan 29 = .ok (.aload_n 0, 1) := by decide +kernel
theorem dX6_scan_30 : decode cX6_scan 30 = .ok (.getfield 25, 3) := by decide +kernel
theorem dX6_scan_33 : decode cX6_scan 33 = .ok (.ifCond .lt 24, 3) := by decide +kernel
theorem dX6_scan_36 : decode cX6_scan 36 = .ok (.aload_n 0, 1) := by decide +kernel
theorem dX6_scan_37 : decode cX6_scan 37 = .ok (.getfield 25, 3) := by decide +kernel
theorem dX6_scan_40 : decode cX6_scan 40 = .ok (.aload_n 0, 1) := by decide +kernel
theorem dX6_scan_41 : decode cX6_scan 41 = .ok (.getfield 15, 3) := by decide +kernel
theorem dX6_scan_44 : decode cX6_scan 44 = .ok (.if_icmp .ge 13, 3) := by decide +kernel
theorem dX6_scan_47 : decode cX6_scan 47 = .ok (.aload_n 0, 1) := by decide +kernel
theorem dX6_scan_48 : decode cX6_scan 48 = .ok (.getfield 25, 3) := by decide +kernel
theorem dX6_scan_51 : decode cX6_scan 51 = .ok (.sipush 200, 3) := by decide +kernel
theorem dX6_scan_54 : decode cX6_scan 54 = .ok (.if_icmp .lt 9, 3) := by decide +kernel
theorem dX6_scan_57 : decode cX6_scan 57 = .ok (.aload_n 0, 1) := by decide +kernel
theorem dX6_scan_58 : decode cX6_scan 58 = .ok (.iconst 0, 1) := by decide +kernel
theorem dX6_scan_59 : decode cX6_scan 59 = .ok (.putfield 22, 3) := by decide +kernel
theorem dX6_scan_62 : decode cX6_scan 62 = .ok (.return_, 1) := by decide +kernel
theorem dX6_scan_63 : decode cX6_scan 63 = .ok (.aload_n 0, 1) := by decide +kernel
theorem dX6_scan_64 : decode cX6_scan 64 = .ok (.getfield 9, 3) := by decide +kernel
theorem dX6_scan_67 : decode cX6_scan 67 = .ok (.aload_n 0, 1) := by decide +kernel
theorem dX6_scan_68 : decode cX6_scan 68 = .ok (.getfield 25, 3) := by decide +kernel
theorem dX6_scan_71 : decode cX6_scan 71 = .ok (.iaload, 1) := by decide +kernel
theorem dX6_scan_72 : decode cX6_scan 72 = .ok (.istore_n 1, 1) := by decide +kernel
theorem dX6_scan_73 : decode cX6_scan 73 = .ok (.iload_n 1, 1) := by decide +kernel
theorem dX6_scan_74 : decode cX6_scan 74 = .ok (.bipush 48, 2) := by decide +kernel
theorem dX6_scan_76 : decode cX6_scan 76 = .ok (.bipush 57, 2) := by decide +kernel
theorem dX6_scan_78 : decode cX6_scan 78 = .ok (.invokestatic 35, 3) := by decide +kernel
theorem dX6_scan_81 : decode cX6_scan 81 = .ok (.ifCond .eq 37, 3) := by decide +kernel
theorem dX6_scan_84 : decode cX6_scan 84 = .ok (.aload_n 0, 1) := by decide +kernel
theorem dX6_scan_85 : decode cX6_scan 85 = .ok (.aload_n 0, 1) := by decide +kernel
theorem dX6_scan_86 : decode cX6_scan 86 = .ok (.aload_n 0, 1) := by decide +kernel
theorem dX6_scan_87 : decode cX6_scan 87 = .ok (.getfield 25, 3) := by decide +kernel
theorem dX6_scan_90 : decode cX6_scan 90 = .ok (.bipush 48, 2) := by decide +kernel
theorem dX6_scan_92 : decode cX6_scan 92 = .ok (.bipush 57, 2) := by decide +kernel
theorem dX6_scan_94 : decode cX6_scan 94 = .ok (.invokevirtual 31, 3) := by decide +kernel
theorem dX6_scan_97 : decode cX6_scan 97 = .ok (.putfield 19, 3) := by decide +kernel
theorem dX6_scan_100 : decode cX6_scan 100 = .ok (.aload_n 0, 1) := by decide +kernel
theorem dX6_scan_101 : decode cX6_scan 101 = .ok (.iload_n 1, 1) := by decide +kernel
theorem dX6_scan_102 : decode cX6_scan 102 = .ok (.bipush 48, 2) := by decide +kernel
theorem dX6_scan_104 : decode cX6_scan 104 = .ok (.if_icmp .ne 7, 3) := by decide +kernel
theorem dX6_scan_107 : decode cX6_scan 107 = .ok (.iconst 1, 1) := by decide +kernel
theorem dX6_scan_108 : decode cX6_scan 108 = .ok (.goto 4, 3) := by decide +kernel
theorem dX6_scan_111 : decode cX6_scan 111 = .ok (.iconst 0, 1) := by decide +kernel
theorem dX6_scan_112 : decode cX6_scan 112 = .ok (.invokevirtual 39, 3) := by decide +kernel
theorem dX6_scan_115 : decode cX6_scan 115 = .ok (.goto 85, 3) := by decide +kernel
theorem dX6_scan_118 : decode cX6_scan 118 = .ok (.iload_n 1, 1) := by decide +kernel
theorem dX6_scan_119 : decode cX6_scan 119 = .ok (.bipush 97, 2) := by decide +kernel
theorem dX6_scan_121 : decode cX6_scan 121 = .ok (.bipush 122, 2) := by decide +kernel
theorem dX6_scan_123 : decode cX6_scan 123 = .ok (.invokestatic 35, 3) := by decide +kernel
theorem dX6_scan_126 : decode cX6_scan 126 = .ok (.ifCond .eq 49, 3) := by decide +kernel
theorem dX6_scan_129 : decode cX6_scan 129 = .ok (.aload_n 0, 1) := by decide +kernel
theorem dX6_scan_130 : decode cX6_scan 130 = .ok (.aload_n 0, 1) := by decide +kernel
theorem dX6_scan_131 : decode cX6_scan 131 = .ok (.aload_n 0, 1) := by decide +kernel
theorem dX6_scan_132 : decode cX6_scan 132 = .ok (.getfield 25, 3) := by decide +kernel
theorem dX6_scan_135 : decode cX6_scan 135 = .ok (.bipush 97, 2) := by decide +kernel
theorem dX6_scan_137 : decode cX6_scan 137 = .ok (.bipush 122, 2) := by decide +kernel
theorem dX6_scan_139 : decode cX6_scan 139 = .ok (.invokevirtual 31, 3) := by decide +kernel
theorem dX6_scan_142 : decode cX6_scan 142 = .ok (.putfield 19, 3) := by decide +kernel
theorem dX6_scan_145 : decode cX6_scan 145 = .ok (.aload_n 0, 1) := by decide +kernel
theorem dX6_scan_146 : decode cX6_scan 146 = .ok (.iconst 1, 1) := by decide +kernel
theorem dX6_scan_147 : decode cX6_scan 147 = .ok (.putfield 22, 3) := by decide +kernel
theorem dX6_scan_150 : decode cX6_scan 150 = .ok (.aload_n 0, 1) := by decide +kernel
theorem dX6_scan_151 : decode cX6_scan 151 = .ok (.aload_n 0, 1) := by decide +kernel
theorem dX6_scan_152 : decode cX6_scan 152 = .ok (.getfield 19, 3) := by decide +kernel
theorem dX6_scan_155 : decode cX6_scan 155 = .ok (.aload_n 0, 1) := by decide +kernel
theorem dX6_scan_156 : decode cX6_scan 156 = .ok (.getfield 25, 3) := by decide +kernel
theorem dX6_scan_159 : decode cX6_scan 159 = .ok (.isub, 1) := by decide +kernel
theorem dX6_scan_160 : decode cX6_scan 160 = .ok (.iconst 1, 1) := by decide +kernel
theorem dX6_scan_161 : decode cX6_scan 161 = .ok (.if_icmp .ne 7, 3) := by decide +kernel
theorem dX6_scan_164 : decode cX6_scan 164 = .ok (.iload_n 1, 1) := by decide +kernel
theorem dX6_scan_165 : decode cX6_scan 165 = .ok (.goto 4, 3) := by decide +kernel
theorem dX6_scan_168 : decode cX6_scan 168 = .ok (.iconst 0, 1) := by decide +kernel
theorem dX6_scan_169 : decode cX6_scan 169 = .ok (.putfield 28, 3) := by decide +kernel
theorem dX6_scan_172 : decode cX6_scan 172 = .ok (.goto 28, 3) := by decide +kernel
theorem dX6_scan_175 : decode cX6_scan 175 = .ok (.aload_n 0, 1) := by decide +kernel
theorem dX6_scan_176 : decode cX6_scan 176 = .ok (.aload_n 0, 1) := by decide +kernel
theorem dX6_scan_177 : decode cX6_scan 177 = .ok (.getfield 25, 3) := by decide +kernel
theorem dX6_scan_180 : decode cX6_scan 180 = .ok (.iconst 1, 1) := by decide +kernel
theorem dX6_scan_181 : decode cX6_scan 181 = .ok (.iadd, 1) := by decide +kernel
theorem dX6_scan_182 : decode cX6_scan 182 = .ok (.putfield 19, 3) := by decide +kernel
theorem dX6_scan_185 : decode cX6_scan 185 = .ok (.aload_n 0, 1) := by decide +kernel
theorem dX6_scan_186 : decode cX6_scan 186 = .ok (.iload_n 1, 1) := by decide +kernel
theorem dX6_scan_187 : decode cX6_scan 187 = .ok (.bipush 59, 2) := by decide +kernel
theorem dX6_scan_189 : decode cX6_scan 189 = .ok (.if_icmp .ne 7, 3) := by decide +kernel
theorem dX6_scan_192 : decode cX6_scan 192 = .ok (.iconst 3, 1) := by decide +kernel
theorem dX6_scan_193 : decode cX6_scan 193 = .ok (.goto 4, 3) := by decide +kernel
theorem dX6_scan_196 : decode cX6_scan 196 = .ok (.iconst 4, 1) := by decide +kernel
theorem dX6_scan_197 : decode cX6_scan 197 = .ok (.putfield 22, 3) := by decide +kernel
theorem dX6_scan_200 : decode cX6_scan 200 = .ok (.return_, 1) := by decide +kernel
theorem dX6_readNumber_0 : decode cX6_readNumber 0 = .ok (.aload_n 0, 1) := by decide +kernel
theorem dX6_readNumber_1 : decode cX6_readNumber 1 = .ok (.getfield 25, 3) := by decide +kernel
theorem dX6_readNumber_4 : decode cX6_readNumber 4 = .ok (.istore_n 2, 1) := by decide +kernel
theorem dX6_readNumber_5 : decode cX6_readNumber 5 = .ok (.iload_n 2, 1) := by decide +kernel
theorem dX6_readNumber_6 : decode cX6_readNumber 6 = .ok (.aload_n 0, 1) := by decide +kernel
theorem dX6_readNumber_7 : decode cX6_readNumber 7 = .ok (.getfield 19, 3) := by decide +kernel
theorem dX6_readNumber_10 : decode cX6_readNumber 10 = .ok (.if_icmp .ge 42, 3) := by decide +kernel
theorem dX6_readNumber_13 : decode cX6_readNumber 13 = .ok (.iload_n 2, 1) := by decide +kernel
theorem dX6_readNumber_14 : decode cX6_readNumber 14 = .ok (.sipush 200, 3) := by decide +kernel
theorem dX6_readNumber_17 : decode cX6_readNumber 17 = .ok (.if_icmp .ge 35, 3) := by decide +kernel
theorem dX6_readNumber_20 : decode cX6_readNumber 20 = .ok (.aload_n 0, 1) := by decide +kernel
theorem dX6_readNumber_21 : decode cX6_readNumber 21 = .ok (.bipush 100, 2) := by decide +kernel
theorem dX6_readNumber_23 : decode cX6_readNumber 23 = .ok (.aload_n 0, 1) := by decide +kernel
theorem dX6_readNumber_24 : decode cX6_readNumber 24 = .ok (.getfield 28, 3) := by decide +kernel
theorem dX6_readNumber_27 : decode cX6_readNumber 27 = .ok (.bipush 10, 2) := by decide +kernel
theorem dX6_readNumber_29 : decode cX6_readNumber 29 = .ok (.imul, 1) := by decide +kernel
theorem dX6_readNumber_30 : decode cX6_readNumber 30 = .ok (.aload_n 0, 1) := by decide +kernel
theorem dX6_readNumber_31 : decode cX6_readNumber 31 = .ok (.getfield 9, 3) := by decide +kernel
theorem dX6_readNumber_34 : decode cX6_readNumber 34 = .ok (.iload_n 2, 1) := by decide +kernel
theorem dX6_readNumber_35 : decode cX6_readNumber 35 = .ok (.iaload, 1) := by decide +kernel
theorem dX6_readNumber_36 : decode cX6_readNumber 36 = .ok (.iadd, 1) := by decide +kernel
theorem dX6_readNumber_37 : decode cX6_readNumber 37 = .ok (.bipush 48, 2) := by decide +kernel
theorem dX6_readNumber_39 : decode cX6_readNumber 39 = .ok (.isub, 1) := by decide +kernel
theorem dX6_readNumber_40 : decode cX6_readNumber 40 = .ok (.invokestatic 43, 3) := by decide +kernel
theorem dX6_readNumber_43 : decode cX6_readNumber 43 = .ok (.putfield 28, 3) := by decide +kernel
theorem dX6_readNumber_46 : decode cX6_readNumber 46 = .ok (.iinc 2 1, 3) := by decide +kernel
theorem dX6_readNumber_49 : decode cX6_readNumber 49 = .ok (.goto (-44), 3) := by decide +kernel
theorem dX6_readNumber_52 : decode cX6_readNumber 52 = .ok (.aload_n 0, 1) := by decide +kernel
theorem dX6_readNumber_53 : decode cX6_readNumber 53 = .ok (.aload_n 0, 1) := by decide +kernel
theorem dX6_readNumber_54 : decode cX6_readNumber 54 = .ok (.getfield 28, 3) := by decide +kernel
theorem dX6_readNumber_57 : decode cX6_readNumber 57 = .ok (.bipush 99, 2) := by decide +kernel
theorem dX6_readNumber_59 : decode cX6_readNumber 59 = .ok (.if_icmp .gt 20, 3) := by decide +kernel
theorem dX6_readNumber_62 : decode cX6_readNumber 62 = .ok (.iload_n 1, 1) := by decide +kernel
theorem dX6_readNumber_63 : decode cX6_readNumber 63 = .ok (.ifCond .eq 20, 3) := by decide +kernel
theorem dX6_readNumber_66 : decode cX6_readNumber 66 = .ok (.aload_n 0, 1) := by decide +kernel
theorem dX6_readNumber_67 : decode cX6_readNumber 67 = .ok (.getfield 19, 3) := by decide +kernel
theorem dX6_readNumber_70 : decode cX6_readNumber 70 = .ok (.aload_n 0, 1) := by decide +kernel
theorem dX6_readNumber_71 : decode cX6_readNumber 71 = .ok (.getfield 25, 3) := by decide +kernel
theorem dX6_readNumber_74 : decode cX6_readNumber 74 = .ok (.isub, 1) := by decide +kernel
theorem dX6_readNumber_75 : decode cX6_readNumber 75 = .ok (.iconst 1, 1) := by decide +kernel
theorem dX6_readNumber_76 : decode cX6_readNumber 76 = .ok (.if_icmp .le 7, 3) := by decide +kernel
theorem dX6_readNumber_79 : decode cX6_readNumber 79 = .ok (.iconst 4, 1) := by decide +kernel
theorem dX6_readNumber_80 : decode cX6_readNumber 80 = .ok (.goto 4, 3) := by decide +kernel
theorem dX6_readNumber_83 : decode cX6_readNumber 83 = .ok (.iconst 2, 1) := by decide +kernel
theorem dX6_readNumber_84 : decode cX6_readNumber 84 = .ok (.putfield 22, 3) := by decide +kernel
theorem dX6_readNumber_87 : decode cX6_readNumber 87 = .ok (.return_, 1) := by decide +kernel
theorem dX6_endOfRow_0 : decode cX6_endOfRow 0 = .ok (.iconst 0, 1) := by decide +kernel
theorem dX6_endOfRow_1 : decode cX6_endOfRow 1 = .ok (.iload_n 1, 1) := by decide +kernel
theorem dX6_endOfRow_2 : decode cX6_endOfRow 2 = .ok (.invokestatic 49, 3) := by decide +kernel
theorem dX6_endOfRow_5 : decode cX6_endOfRow 5 = .ok (.istore 4, 2) := by decide +kernel
theorem dX6_endOfRow_7 : decode cX6_endOfRow 7 = .ok (.iload 4, 2) := by decide +kernel
theorem dX6_endOfRow_9 : decode cX6_endOfRow 9 = .ok (.aload_n 0, 1) := by decide +kernel
theorem dX6_endOfRow_10 : decode cX6_endOfRow 10 = .ok (.getfield 15, 3) := by decide +kernel
theorem dX6_endOfRow_13 : decode cX6_endOfRow 13 = .ok (.if_icmp .ge 39, 3) := by decide +kernel
theorem dX6_endOfRow_16 : decode cX6_endOfRow 16 = .ok (.iload 4, 2) := by decide +kernel
theorem dX6_endOfRow_18 : decode cX6_endOfRow 18 = .ok (.sipush 200, 3) := by decide +kernel
theorem dX6_endOfRow_21 : decode cX6_endOfRow 21 = .ok (.if_icmp .ge 31, 3) := by decide +kernel
theorem dX6_endOfRow_24 : decode cX6_endOfRow 24 = .ok (.iload_n 2, 1) := by decide +kernel
theorem dX6_endOfRow_25 : decode cX6_endOfRow 25 = .ok (.aload_n 0, 1) := by decide +kernel
theorem dX6_endOfRow_26 : decode cX6_endOfRow 26 = .ok (.getfield 9, 3) := by decide +kernel
theorem dX6_endOfRow_29 : decode cX6_endOfRow 29 = .ok (.iload 4, 2) := by decide +kernel
theorem dX6_endOfRow_31 : decode cX6_endOfRow 31 = .ok (.iaload, 1) := by decide +kernel
theorem dX6_endOfRow_32 : decode cX6_endOfRow 32 = .ok (.if_icmp .gt 20, 3) := by decide +kernel
theorem dX6_endOfRow_35 : decode cX6_endOfRow 35 = .ok (.aload_n 0, 1) := by decide +kernel
theorem dX6_endOfRow_36 : decode cX6_endOfRow 36 = .ok (.getfield 9, 3) := by decide +kernel
theorem dX6_endOfRow_39 : decode cX6_endOfRow 39 = .ok (.iload 4, 2) := by decide +kernel
theorem dX6_endOfRow_41 : decode cX6_endOfRow 41 = .ok (.iaload, 1) := by decide +kernel
theorem dX6_endOfRow_42 : decode cX6_endOfRow 42 = .ok (.iload_n 3, 1) := by decide +kernel
theorem dX6_endOfRow_43 : decode cX6_endOfRow 43 = .ok (.if_icmp .gt 9, 3) := by decide +kernel
theorem dX6_endOfRow_46 : decode cX6_endOfRow 46 = .ok (.iinc 4 1, 3) := by decide +kernel
theorem dX6_endOfRow_49 : decode cX6_endOfRow 49 = .ok (.goto (-42), 3) := by decide +kernel
theorem dX6_endOfRow_52 : decode cX6_endOfRow 52 = .ok (.iload 4, 2) := by decide +kernel
theorem dX6_endOfRow_54 : decode cX6_endOfRow 54 = .ok (.ireturn, 1) := by decide +kernel
theorem dX7_init_0 : decode cX7_init 0 = .ok (.aload_n 0, 1) := by decide +kernel
theorem dX7_init_1 : decode cX7_init 1 = .ok (.invokespecial 3, 3) := by decide +kernel
theorem dX7_init_4 : decode cX7_init 4 = .ok (.aload_n 0, 1) := by decide +kernel
theorem dX7_init_5 : decode cX7_init 5 = .ok (.bipush 6, 2) := by decide +kernel
theorem dX7_init_7 : decode cX7_init 7 = .ok (.newarray .int, 2) := by decide +kernel
theorem dX7_init_9 : decode cX7_init 9 = .ok (.putfield 9, 3) := by decide +kernel
theorem dX7_init_12 : decode cX7_init 12 = .ok (.aload_n 0, 1) := by decide +kernel
theorem dX7_init_13 : decode cX7_init 13 = .ok (.bipush 6, 2) := by decide +kernel
theorem dX7_init_15 : decode cX7_init 15 = .ok (.newarray .int, 2) := by decide +kernel
theorem dX7_init_17 : decode cX7_init 17 = .ok (.putfield 15, 3) := by decide +kernel
theorem dX7_init_20 : decode cX7_init 20 = .ok (.return_, 1) := by decide +kernel
theorem dX7_find_0 : decode cX7_find 0 = .ok (.aload_n 2, 1) := by decide +kernel
theorem dX7_find_1 : decode cX7_find 1 = .ok (.iload_n 3, 1) := by decide +kernel
theorem dX7_find_2 : decode cX7_find 2 = .ok (.invokevirtual 18, 3) := by decide +kernel
theorem dX7_find_5 : decode cX7_find 5 = .ok (.istore 5, 2) := by decide +kernel
theorem dX7_find_7 : decode cX7_find 7 = .ok (.aload_n 1, 1) := by decide +kernel
theorem dX7_find_8 : decode cX7_find 8 = .ok (.iload_n 3, 1) := by decide +kernel
theorem dX7_find_9 : decode cX7_find 9 = .ok (.invokevirtual 24, 3) := by decide +kernel
theorem dX7_find_12 : decode cX7_find 12 = .ok (.aload_n 2, 1) := by decide +kernel
theorem dX7_find_13 : decode cX7_find 13 = .ok (.iload_n 3, 1) := by decide +kernel
theorem dX7_find_14 : decode cX7_find 14 = .ok (.invokevirtual 29, 3) := by decide +kernel
theorem dX7_find_17 : decode cX7_find 17 = .ok (.isub, 1) := by decide +kernel
theorem dX7_find_18 : decode cX7_find 18 = .ok (.istore 6, 2) := by decide +kernel
theorem dX7_find_20 : decode cX7_find 20 = .ok (.aload_n 0, 1) := by decide +kernel
theorem dX7_find_21 : decode cX7_find 21 = .ok (.iload 5, 2) := by decide +kernel
theorem dX7_find_23 : decode cX7_find 23 = .ok (.iload 4, 2) := by decide +kernel
theorem dX7_find_25 : decode cX7_find 25 = .ok (.if_icmp .ne 7, 3) := by decide +kernel
theorem dX7_find_28 : decode cX7_find 28 = .ok (.iconst 0, 1) := by decide +kernel
theorem dX7_find_29 : decode cX7_find 29 = .ok (.goto 5, 3) := by decide +kernel
theorem dX7_find_32 : decode cX7_find 32 = .ok (.bipush (-9), 2) := by decide +kernel
theorem dX7_find_34 : decode cX7_find 34 = .ok (.putfield 32, 3) := by decide +kernel
theorem dX7_find_37 : decode cX7_find 37 = .ok (.aload_n 0, 1) := by decide +kernel
theorem dX7_find_38 : decode cX7_find 38 = .ok (.bipush (-9), 2) := by decide +kernel
theorem dX7_find_40 : decode cX7_find 40 = .ok (.putfield 36, 3) := by decide +kernel
theorem dX7_find_43 : decode cX7_find 43 = .ok (.aload_n 0, 1) := by decide +kernel
theorem dX7_find_44 : decode cX7_find 44 = .ok (.bipush (-9), 2) := by decide +kernel
theorem dX7_find_46 : decode cX7_find 46 = .ok (.putfield 39, 3) := by decide +kernel
theorem dX7_find_49 : decode cX7_find 49 = .ok (.aload_n 0, 1) := by decide +kernel
theorem dX7_find_50 : decode cX7_find 50 = .ok (.getfield 9, 3) := by decide +kernel
theorem dX7_find_53 : decode cX7_find 53 = .ok (.sipush 1000, 3) := by decide +kernel
theorem dX7_find_56 : decode cX7_find 56 = .ok (.invokestatic 42, 3) := by decide +kernel
theorem dX7_find_59 : decode cX7_find 59 = .ok (.iconst 0, 1) := by decide +kernel
theorem dX7_find_60 : decode cX7_find 60 = .ok (.iload 4, 2) := by decide +kernel
theorem dX7_find_62 : decode cX7_find 62 = .ok (.if_icmp .gt 18, 3) := by decide +kernel
theorem dX7_find_65 : decode cX7_find 65 = .ok (.iload 4, 2) := by decide +kernel
theorem dX7_find_67 : decode cX7_find 67 = .ok (.bipush 6, 2) := by decide +kernel
theorem dX7_find_69 : decode cX7_find 69 = .ok (.if_icmp .ge 11, 3) := by decide +kernel
theorem dX7_find_72 : decode cX7_find 72 = .ok (.aload_n 0, 1) := by decide +kernel
theorem dX7_find_73 : decode cX7_find 73 = .ok (.getfield 9, 3) := by decide +kernel
theorem dX7_find_76 : decode cX7_find 76 = .ok (.iload 4, 2) := by decide +kernel
theorem dX7_find_78 : decode cX7_find 78 = .ok (.iconst 0, 1) := by decide +kernel
theorem dX7_find_79 : decode cX7_find 79 = .ok (.iastore, 1) := by decide +kernel
theorem dX7_find_80 : decode cX7_find 80 = .ok (.iconst 1, 1) := by decide +kernel
theorem dX7_find_81 : decode cX7_find 81 = .ok (.istore 7, 2) := by decide +kernel
theorem dX7_find_83 : decode cX7_find 83 = .ok (.iload 7, 2) := by decide +kernel
theorem dX7_find_85 : decode cX7_find 85 = .ok (.aload_n 1, 1) := by decide +kernel
theorem dX7_find_86 : decode cX7_find 86 = .ok (.getfield 48, 3) := by decide +kernel
theorem dX7_find_89 : decode cX7_find 89 = .ok (.if_icmp .ge 76, 3) := by decide +kernel
theorem dX7_find_92 : decode cX7_find 92 = .ok (.aload_n 0, 1) := by decide +kernel
theorem dX7_find_93 : decode cX7_find 93 = .ok (.getfield 32, 3) := by decide +kernel
theorem dX7_find_96 : decode cX7_find 96 = .ok (.bipush (-9), 2) := by decide +kernel
theorem dX7_find_98 : decode cX7_find 98 = .ok (.if_icmp .ne 67, 3) := by decide +kernel
theorem dX7_find_101 : decode cX7_find 101 = .ok (.aload_n 0, 1) := by decide +kernel
theorem dX7_find_102 : decode cX7_find 102 = .ok (.aload_n 1, 1) := by decide +kernel
theorem dX7_find_103 : decode cX7_find 103 = .ok (.iload 5, 2) := by decide +kernel
theorem dX7_find_105 : decode cX7_find 105 = .ok (.aload_n 2, 1) := by decide +kernel
theorem dX7_find_106 : decode cX7_find 106 = .ok (.iload_n 3, 1) := by decide +kernel
theorem dX7_find_107 : decode cX7_find 107 = .ok (.invokevirtual 51, 3) := by decide +kernel
theorem dX7_find_110 : decode cX7_find 110 = .ok (.iload 6, 2) := by decide +kernel
theorem dX7_find_112 : decode cX7_find 112 = .ok (.iadd, 1) := by decide +kernel
theorem dX7_find_113 : decode cX7_find 113 = .ok (.invokevirtual 54, 3) := by decide +kernel
theorem dX7_find_116 : decode cX7_find 116 = .ok (.istore 8, 2) := by decide +kernel
theorem dX7_find_118 : decode cX7_find 118 = .ok (.iload 8, 2) := by decide +kernel
theorem dX7_find_120 : decode cX7_find 120 = .ok (.bipush (-9), 2) := by decide +kernel
theorem dX7_find_122 : decode cX7_find 122 = .ok (.if_icmp .eq 32, 3) := by decide +kernel
theorem dX7_find_125 : decode cX7_find 125 = .ok (.aload_n 0, 1) := by decide +kernel
theorem dX7_find_126 : decode cX7_find 126 = .ok (.iload 7, 2) := by decide +kernel
theorem dX7_find_128 : decode cX7_find 128 = .ok (.putfield 32, 3) := by decide +kernel
theorem dX7_find_131 : decode cX7_find 131 = .ok (.aload_n 0, 1) := by decide +kernel
theorem dX7_find_132 : decode cX7_find 132 = .ok (.iload 8, 2) := by decide +kernel
theorem dX7_find_134 : decode cX7_find 134 = .ok (.putfield 36, 3) := by decide +kernel
theorem dX7_find_137 : decode cX7_find 137 = .ok (.aload_n 0, 1) := by decide +kernel
theorem dX7_find_138 : decode cX7_find 138 = .ok (.iconst 0, 1) := by decide +kernel
theorem dX7_find_139 : decode cX7_find 139 = .ok (.aload_n 1, 1) := by decide +kernel
theorem dX7_find_140 : decode cX7_find 140 = .ok (.iload 8, 2) := by decide +kernel
theorem dX7_find_142 : decode cX7_find 142 = .ok (.invokevirtual 58, 3) := by decide +kernel
theorem dX7_find_145 : decode cX7_find 145 = .ok (.iload 6, 2) := by decide +kernel
theorem dX7_find_147 : decode cX7_find 147 = .ok (.isub, 1) := by decide +kernel
theorem dX7_find_148 : decode cX7_find 148 = .ok (.invokestatic 61, 3) := by decide +kernel
theorem dX7_find_151 : decode cX7_find 151 = .ok (.putfield 39, 3) := by decide +kernel
theorem dX7_find_154 : decode cX7_find 154 = .ok (.aload_n 0, 1) := by decide +kernel
theorem dX7_find_155 : decode cX7_find 155 = .ok (.aload_n 1, 1) := by decide +kernel
theorem dX7_find_156 : decode cX7_find 156 = .ok (.invokevirtual 67, 3) := by decide +kernel
theorem dX7_find_159 : decode cX7_find 159 = .ok (.iinc 7 1, 3) := by decide +kernel
theorem dX7_find_162 : decode cX7_find 162 = .ok (.goto (-79), 3) := by decide +kernel
theorem dX7_find_165 : decode cX7_find 165 = .ok (.return_, 1) := by decide +kernel
theorem dX7_firstOnto_0 : decode cX7_firstOnto 0 = .ok (.iconst 0, 1) := by decide +kernel
theorem dX7_firstOnto_1 : decode cX7_firstOnto 1 = .ok (.istore 4, 2) := by decide +kernel
theorem dX7_firstOnto_3 : decode cX7_firstOnto 3 = .ok (.iload 4, 2) := by decide +kernel
theorem dX7_firstOnto_5 : decode cX7_firstOnto 5 = .ok (.aload_n 1, 1) := by decide +kernel
theorem dX7_firstOnto_6 : decode cX7_firstOnto 6 = .ok (.getfield 71, 3) := by decide +kernel
theorem dX7_firstOnto_9 : decode cX7_firstOnto 9 = .ok (.if_icmp .ge 24, 3) := by decide +kernel
theorem dX7_firstOnto_12 : decode cX7_firstOnto 12 = .ok (.aload_n 0, 1) := by decide +kernel
theorem dX7_firstOnto_13 : decode cX7_firstOnto 13 = .ok (.aload_n 1, 1) := by decide +kernel
theorem dX7_firstOnto_14 : decode cX7_firstOnto 14 = .ok (.iload 4, 2) := by decide +kernel
theorem dX7_firstOnto_16 : decode cX7_firstOnto 16 = .ok (.iload_n 2, 1) := by decide +kernel
theorem dX7_firstOnto_17 : decode cX7_firstOnto 17 = .ok (.invokevirtual 74, 3) := by decide +kernel
theorem dX7_firstOnto_20 : decode cX7_firstOnto 20 = .ok (.iload_n 3, 1) := by decide +kernel
theorem dX7_firstOnto_21 : decode cX7_firstOnto 21 = .ok (.if_icmp .gt 6, 3) := by decide +kernel
theorem dX7_firstOnto_24 : decode cX7_firstOnto 24 = .ok (.iload 4, 2) := by decide +kernel
theorem dX7_firstOnto_26 : decode cX7_firstOnto 26 = .ok (.ireturn, 1) := by decide +kernel
theorem dX7_firstOnto_27 : decode cX7_firstOnto 27 = .ok (.iinc 4 1, 3) := by decide +kernel
theorem dX7_firstOnto_30 : decode cX7_firstOnto 30 = .ok (.goto (-27), 3) := by decide +kernel
theorem dX7_firstOnto_33 : decode cX7_firstOnto 33 = .ok (.bipush (-9), 2) := by decide +kernel
theorem dX7_firstOnto_35 : decode cX7_firstOnto 35 = .ok (.ireturn, 1) := by decide +kernel
theorem dX7_lengthen_0 : decode cX7_lengthen 0 = .ok (.iconst 0, 1) := by decide +kernel
theorem dX7_lengthen_1 : decode cX7_lengthen 1 = .ok (.istore_n 2, 1) := by decide +kernel
theorem dX7_lengthen_2 : decode cX7_lengthen 2 = .ok (.iload_n 2, 1) := by decide +kernel
theorem dX7_lengthen_3 : decode cX7_lengthen 3 = .ok (.bipush 6, 2) := by decide +kernel
theorem dX7_lengthen_5 : decode cX7_lengthen 5 = .ok (.if_icmp .ge 56, 3) := by decide +kernel
theorem dX7_lengthen_8 : decode cX7_lengthen 8 = .ok (.aload_n 0, 1) := by decide +kernel
theorem dX7_lengthen_9 : decode cX7_lengthen 9 = .ok (.getfield 15, 3) := by decide +kernel
theorem dX7_lengthen_12 : decode cX7_lengthen 12 = .ok (.iload_n 2, 1) := by decide +kernel
theorem dX7_lengthen_13 : decode cX7_lengthen 13 = .ok (.sipush 1000, 3) := by decide +kernel
theorem dX7_lengthen_16 : decode cX7_lengthen 16 = .ok (.iastore, 1) := by decide +kernel
theorem dX7_lengthen_17 : decode cX7_lengthen 17 = .ok (.iconst 0, 1) := by decide +kernel
theorem dX7_lengthen_18 : decode cX7_lengthen 18 = .ok (.istore_n 3, 1) := by decide +kernel
theorem dX7_lengthen_19 : decode cX7_lengthen 19 = .ok (.iload_n 3, 1) := by decide +kernel
theorem dX7_lengthen_20 : decode cX7_lengthen 20 = .ok (.aload_n 1, 1) := by decide +kernel
theorem dX7_lengthen_21 : decode cX7_lengthen 21 = .ok (.getfield 71, 3) := by decide +kernel
theorem dX7_lengthen_24 : decode cX7_lengthen 24 = .ok (.if_icmp .ge 31, 3) := by decide +kernel
theorem dX7_lengthen_27 : decode cX7_lengthen 27 = .ok (.aload_n 0, 1) := by decide +kernel
theorem dX7_lengthen_28 : decode cX7_lengthen 28 = .ok (.getfield 15, 3) := by decide +kernel
theorem dX7_lengthen_31 : decode cX7_lengthen 31 = .ok (.iload_n 2, 1) := by decide +kernel
theorem dX7_lengthen_32 : decode cX7_lengthen 32 = .ok (.aload_n 0, 1) := by decide +kernel
theorem dX7_lengthen_33 : decode cX7_lengthen 33 = .ok (.getfield 15, 3) := by decide +kernel
theorem dX7_lengthen_36 : decode cX7_lengthen 36 = .ok (.iload_n 2, 1) := by decide +kernel
theorem dX7_lengthen_37 : decode cX7_lengthen 37 = .ok (.iaload, 1) := by decide +kernel
theorem dX7_lengthen_38 : decode cX7_lengthen 38 = .ok (.aload_n 0, 1) := by decide +kernel
theorem dX7_lengthen_39 : decode cX7_lengthen 39 = .ok (.aload_n 1, 1) := by decide +kernel
theorem dX7_lengthen_40 : decode cX7_lengthen 40 = .ok (.iload_n 3, 1) := by decide +kernel
theorem dX7_lengthen_41 : decode cX7_lengthen 41 = .ok (.iload_n 2, 1) := by decide +kernel
theorem dX7_lengthen_42 : decode cX7_lengthen 42 = .ok (.invokevirtual 74, 3) := by decide +kernel
theorem dX7_lengthen_45 : decode cX7_lengthen 45 = .ok (.invokestatic 77, 3) := by decide +kernel
theorem dX7_lengthen_48 : decode cX7_lengthen 48 = .ok (.iastore, 1) := by decide +kernel
theorem dX7_lengthen_49 : decode cX7_lengthen 49 = .ok (.iinc 3 1, 3) := by decide +kernel
theorem dX7_lengthen_52 : decode cX7_lengthen 52 = .ok (.goto (-33), 3) := by decide +kernel
theorem dX7_lengthen_55 : decode cX7_lengthen 55 = .ok (.iinc 2 1, 3) := by decide +kernel
theorem dX7_lengthen_58 : decode cX7_lengthen 58 = .ok (.goto (-56), 3) := by decide +kernel
theorem dX7_lengthen_61 : decode cX7_lengthen 61 = .ok (.aload_n 0, 1) := by decide +kernel
theorem dX7_lengthen_62 : decode cX7_lengthen 62 = .ok (.getfield 15, 3) := by decide +kernel
theorem dX7_lengthen_65 : decode cX7_lengthen 65 = .ok (.iconst 0, 1) := by decide +kernel
theorem dX7_lengthen_66 : decode cX7_lengthen 66 = .ok (.aload_n 0, 1) := by decide +kernel
theorem dX7_lengthen_67 : decode cX7_lengthen 67 = .ok (.getfield 9, 3) := by decide +kernel
theorem dX7_lengthen_70 : decode cX7_lengthen 70 = .ok (.iconst 0, 1) := by decide +kernel
theorem dX7_lengthen_71 : decode cX7_lengthen 71 = .ok (.bipush 6, 2) := by decide +kernel
theorem dX7_lengthen_73 : decode cX7_lengthen 73 = .ok (.invokestatic 80, 3) := by decide +kernel
theorem dX7_lengthen_76 : decode cX7_lengthen 76 = .ok (.return_, 1) := by decide +kernel
theorem dX7_heatOver_0 : decode cX7_heatOver 0 = .ok (.aload_n 1, 1) := by decide +kernel
theorem dX7_heatOver_1 : decode cX7_heatOver 1 = .ok (.iload_n 2, 1) := by decide +kernel
theorem dX7_heatOver_2 : decode cX7_heatOver 2 = .ok (.iload_n 3, 1) := by decide +kernel
theorem dX7_heatOver_3 : decode cX7_heatOver 3 = .ok (.invokevirtual 86, 3) := by decide +kernel
theorem dX7_heatOver_6 : decode cX7_heatOver 6 = .ok (.istore 4, 2) := by decide +kernel
theorem dX7_heatOver_8 : decode cX7_heatOver 8 = .ok (.iconst 0, 1) := by decide +kernel
theorem dX7_heatOver_9 : decode cX7_heatOver 9 = .ok (.iload 4, 2) := by decide +kernel
theorem dX7_heatOver_11 : decode cX7_heatOver 11 = .ok (.if_icmp .gt 32, 3) := by decide +kernel
theorem dX7_heatOver_14 : decode cX7_heatOver 14 = .ok (.iload 4, 2) := by decide +kernel
theorem dX7_heatOver_16 : decode cX7_heatOver 16 = .ok (.bipush 6, 2) := by decide +kernel
theorem dX7_heatOver_18 : decode cX7_heatOver 18 = .ok (.if_icmp .ge 25, 3) := by decide +kernel
theorem dX7_heatOver_21 : decode cX7_heatOver 21 = .ok (.sipush 1000, 3) := by decide +kernel
theorem dX7_heatOver_24 : decode cX7_heatOver 24 = .ok (.aload_n 1, 1) := by decide +kernel
theorem dX7_heatOver_25 : decode cX7_heatOver 25 = .ok (.iload_n 2, 1) := by decide +kernel
theorem dX7_heatOver_26 : decode cX7_heatOver 26 = .ok (.invokevirtual 58, 3) := by decide +kernel
theorem dX7_heatOver_29 : decode cX7_heatOver 29 = .ok (.aload_n 0, 1) := by decide +kernel
theorem dX7_heatOver_30 : decode cX7_heatOver 30 = .ok (.getfield 9, 3) := by decide +kernel
theorem dX7_heatOver_33 : decode cX7_heatOver 33 = .ok (.iload 4, 2) := by decide +kernel
theorem dX7_heatOver_35 : decode cX7_heatOver 35 = .ok (.iaload, 1) := by decide +kernel
theorem dX7_heatOver_36 : decode cX7_heatOver 36 = .ok (.iadd, 1) := by decide +kernel
theorem dX7_heatOver_37 : decode cX7_heatOver 37 = .ok (.invokestatic 77, 3) := by decide +kernel
theorem dX7_heatOver_40 : decode cX7_heatOver 40 = .ok (.goto 6, 3) := by decide +kernel
theorem dX7_heatOver_43 : decode cX7_heatOver 43 = .ok (.sipush 1000, 3) := by decide +kernel
theorem dX7_heatOver_46 : decode cX7_heatOver 46 = .ok (.ireturn, 1) := by decide +kernel
theorem dX8_init_0 : decode cX8_init 0 = .ok (.aload_n 0, 1) := by decide +kernel
theorem dX8_init_1 : decode cX8_init 1 = .ok (.invokespecial 1, 3) := by decide +kernel
theorem dX8_init_4 : decode cX8_init 4 = .ok (.aload_n 0, 1) := by decide +kernel
theorem dX8_init_5 : decode cX8_init 5 = .ok (.new 7, 3) := by decide +kernel
theorem dX8_init_8 : decode cX8_init 8 = .ok (.dup, 1) := by decide +kernel
theorem dX8_init_9 : decode cX8_init 9 = .ok (.invokespecial 9, 3) := by decide +kernel
theorem dX8_init_12 : decode cX8_init 12 = .ok (.putfield 10, 3) := by decide +kernel
theorem dX8_init_15 : decode cX8_init 15 = .ok (.aload_n 0, 1) := by decide +kernel
theorem dX8_init_16 : decode cX8_init 16 = .ok (.new 16, 3) := by decide +kernel
theorem dX8_init_19 : decode cX8_init 19 = .ok (.dup, 1) := by decide +kernel
theorem dX8_init_20 : decode cX8_init 20 = .ok (.invokespecial 18, 3) := by decide +kernel
theorem dX8_init_23 : decode cX8_init 23 = .ok (.putfield 19, 3) := by decide +kernel
theorem dX8_init_26 : decode cX8_init 26 = .ok (.aload_n 0, 1) := by decide +kernel
theorem dX8_init_27 : decode cX8_init 27 = .ok (.new 16, 3) := by decide +kernel
theorem dX8_init_30 : decode cX8_init 30 = .ok (.dup, 1) := by decide +kernel
theorem dX8_init_31 : decode cX8_init 31 = .ok (.invokespecial 18, 3) := by decide +kernel
theorem dX8_init_34 : decode cX8_init 34 = .ok (.putfield 23, 3) := by decide +kernel
theorem dX8_init_37 : decode cX8_init 37 = .ok (.aload_n 0, 1) := by decide +kernel
theorem dX8_init_38 : decode cX8_init 38 = .ok (.new 26, 3) := by decide +kernel
theorem dX8_init_41 : decode cX8_init 41 = .ok (.dup, 1) := by decide +kernel
theorem dX8_init_42 : decode cX8_init 42 = .ok (.invokespecial 28, 3) := by decide +kernel
theorem dX8_init_45 : decode cX8_init 45 = .ok (.putfield 29, 3) := by decide +kernel
theorem dX8_init_48 : decode cX8_init 48 = .ok (.aload_n 0, 1) := by decide +kernel
theorem dX8_init_49 : decode cX8_init 49 = .ok (.new 26, 3) := by decide +kernel
theorem dX8_init_52 : decode cX8_init 52 = .ok (.dup, 1) := by decide +kernel
theorem dX8_init_53 : decode cX8_init 53 = .ok (.invokespecial 28, 3) := by decide +kernel
theorem dX8_init_56 : decode cX8_init 56 = .ok (.putfield 33, 3) := by decide +kernel
theorem dX8_init_59 : decode cX8_init 59 = .ok (.aload_n 0, 1) := by decide +kernel
theorem dX8_init_60 : decode cX8_init 60 = .ok (.new 26, 3) := by decide +kernel
theorem dX8_init_63 : decode cX8_init 63 = .ok (.dup, 1) := by decide +kernel
theorem dX8_init_64 : decode cX8_init 64 = .ok (.invokespecial 28, 3) := by decide +kernel
theorem dX8_init_67 : decode cX8_init 67 = .ok (.putfield 36, 3) := by decide +kernel
theorem dX8_init_70 : decode cX8_init 70 = .ok (.aload_n 0, 1) := by decide +kernel
theorem dX8_init_71 : decode cX8_init 71 = .ok (.new 39, 3) := by decide +kernel
theorem dX8_init_74 : decode cX8_init 74 = .ok (.dup, 1) := by decide +kernel
theorem dX8_init_75 : decode cX8_init 75 = .ok (.invokespecial 41, 3) := by decide +kernel
theorem dX8_init_78 : decode cX8_init 78 = .ok (.putfield 42, 3) := by decide +kernel
theorem dX8_init_81 : decode cX8_init 81 = .ok (.aload_n 0, 1) := by decide +kernel
theorem dX8_init_82 : decode cX8_init 82 = .ok (.new 46, 3) := by decide +kernel
theorem dX8_init_85 : decode cX8_init 85 = .ok (.dup, 1) := by decide +kernel
theorem dX8_init_86 : decode cX8_init 86 = .ok (.invokespecial 48, 3) := by decide +kernel
theorem dX8_init_89 : decode cX8_init 89 = .ok (.putfield 49, 3) := by decide +kernel
theorem dX8_init_92 : decode cX8_init 92 = .ok (.aload_n 0, 1) := by decide +kernel
theorem dX8_init_93 : decode cX8_init 93 = .ok (.new 53, 3) := by decide +kernel
theorem dX8_init_96 : decode cX8_init 96 = .ok (.dup, 1) := by decide +kernel
theorem dX8_init_97 : decode cX8_init 97 = .ok (.invokespecial 55, 3) := by decide +kernel
theorem dX8_init_100 : decode cX8_init 100 = .ok (.putfield 56, 3) := by decide +kernel
theorem dX8_init_103 : decode cX8_init 103 = .ok (.aload_n 0, 1) := by decide +kernel
theorem dX8_init_104 : decode cX8_init 104 = .ok (.new 60, 3) := by decide +kernel
theorem dX8_init_107 : decode cX8_init 107 = .ok (.dup, 1) := by decide +kernel
theorem dX8_init_108 : decode cX8_init 108 = .ok (.invokespecial 62, 3) := by decide +kernel
theorem dX8_init_111 : decode cX8_init 111 = .ok (.putfield 63, 3) := by decide +kernel
theorem dX8_init_114 : decode cX8_init 114 = .ok (.return_, 1) := by decide +kernel
theorem dX8_type_0 : decode cX8_type 0 = .ok (.iload_n 1, 1) := by decide +kernel
theorem dX8_type_1 : decode cX8_type 1 = .ok (.iconst 0, 1) := by decide +kernel
theorem dX8_type_2 : decode cX8_type 2 = .ok (.sipush 255, 3) := by decide +kernel
theorem dX8_type_5 : decode cX8_type 5 = .ok (.invokestatic 67, 3) := by decide +kernel
theorem dX8_type_8 : decode cX8_type 8 = .ok (.ifCond .ne 5, 3) := by decide +kernel
theorem dX8_type_11 : decode cX8_type 11 = .ok (.iconst (-1), 1) := by decide +kernel
theorem dX8_type_12 : decode cX8_type 12 = .ok (.ireturn, 1) := by decide +kernel
theorem dX8_type_13 : decode cX8_type 13 = .ok (.aload_n 0, 1) := by decide +kernel
theorem dX8_type_14 : decode cX8_type 14 = .ok (.getfield 10, 3) := by decide +kernel
theorem dX8_type_17 : decode cX8_type 17 = .ok (.iload_n 1, 1) := by decide +kernel
theorem dX8_type_18 : decode cX8_type 18 = .ok (.invokevirtual 71, 3) := by decide +kernel
theorem dX8_type_21 : decode cX8_type 21 = .ok (.ifCond .eq 13, 3) := by decide +kernel
theorem dX8_type_24 : decode cX8_type 24 = .ok (.aload_n 0, 1) := by decide +kernel
theorem dX8_type_25 : decode cX8_type 25 = .ok (.getfield 10, 3) := by decide +kernel
theorem dX8_type_28 : decode cX8_type 28 = .ok (.invokevirtual 75, 3) := by decide +kernel
theorem dX8_type_31 : decode cX8_type 31 = .ok (.goto 5, 3) := by decide +kernel
theorem dX8_type_34 : decode cX8_type 34 = .ok (.bipush (-3), 2) := by decide +kernel
theorem dX8_type_36 : decode cX8_type 36 = .ok (.ireturn, 1) := by decide +kernel
theorem dX8_clear_0 : decode cX8_clear 0 = .ok (.aload_n 0, 1) := by decide +kernel
theorem dX8_clear_1 : decode cX8_clear 1 = .ok (.getfield 10, 3) := by decide +kernel
theorem dX8_clear_4 : decode cX8_clear 4 = .ok (.invokevirtual 79, 3) := by decide +kernel
theorem dX8_clear_7 : decode cX8_clear 7 = .ok (.ireturn, 1) := by decide +kernel
theorem dX8_road_0 : decode cX8_road 0 = .ok (.aload_n 0, 1) := by decide +kernel
theorem dX8_road_1 : decode cX8_road 1 = .ok (.getfield 23, 3) := by decide +kernel
theorem dX8_road_4 : decode cX8_road 4 = .ok (.aload_n 0, 1) := by decide +kernel
theorem dX8_road_5 : decode cX8_road 5 = .ok (.getfield 10, 3) := by decide +kernel
theorem dX8_road_8 : decode cX8_road 8 = .ok (.invokevirtual 82, 3) := by decide +kernel
theorem dX8_road_11 : decode cX8_road 11 = .ok (.istore_n 1, 1) := by decide +kernel
theorem dX8_road_12 : decode cX8_road 12 = .ok (.iload_n 1, 1) := by decide +kernel
theorem dX8_road_13 : decode cX8_road 13 = .ok (.ifCond .ge 5, 3) := by decide +kernel
theorem dX8_road_16 : decode cX8_road 16 = .ok (.iload_n 1, 1) := by decide +kernel
theorem dX8_road_17 : decode cX8_road 17 = .ok (.ireturn, 1) := by decide +kernel
theorem dX8_road_18 : decode cX8_road 18 = .ok (.aload_n 0, 1) := by decide +kernel
theorem dX8_road_19 : decode cX8_road 19 = .ok (.getfield 19, 3) := by decide +kernel
theorem dX8_road_22 : decode cX8_road 22 = .ok (.astore_n 2, 1) := by decide +kernel
theorem dX8_road_23 : decode cX8_road 23 = .ok (.aload_n 0, 1) := by decide +kernel
theorem dX8_road_24 : decode cX8_road 24 = .ok (.aload_n 0, 1) := by decide +kernel
theorem dX8_road_25 : decode cX8_road 25 = .ok (.getfield 23, 3) := by decide +kernel
theorem dX8_road_28 : decode cX8_road 28 = .ok (.putfield 19, 3) := by decide +kernel
theorem dX8_road_31 : decode cX8_road 31 = .ok (.aload_n 0, 1) := by decide +kernel
theorem dX8_road_32 : decode cX8_road 32 = .ok (.aload_n 2, 1) := by decide +kernel
theorem dX8_road_33 : decode cX8_road 33 = .ok (.putfield 23, 3) := by decide +kernel
theorem dX8_road_36 : decode cX8_road 36 = .ok (.aload_n 0, 1) := by decide +kernel
theorem dX8_road_37 : decode cX8_road 37 = .ok (.getfield 10, 3) := by decide +kernel
theorem dX8_road_40 : decode cX8_road 40 = .ok (.invokevirtual 79, 3) := by decide +kernel
theorem dX8_road_43 : decode cX8_road 43 = .ok (.pop, 1) := by decide +kernel
theorem dX8_road_44 : decode cX8_road 44 = .ok (.aload_n 0, 1) := by decide +kernel
theorem dX8_road_45 : decode cX8_road 45 = .ok (.getfield 29, 3) := by decide +kernel
theorem dX8_road_48 : decode cX8_road 48 = .ok (.aload_n 0, 1) := by decide +kernel
theorem dX8_road_49 : decode cX8_road 49 = .ok (.getfield 19, 3) := by decide +kernel
theorem dX8_road_52 : decode cX8_road 52 = .ok (.getfield 86, 3) := by decide +kernel
theorem dX8_road_55 : decode cX8_road 55 = .ok (.invokevirtual 90, 3) := by decide +kernel
theorem dX8_road_58 : decode cX8_road 58 = .ok (.aload_n 0, 1) := by decide +kernel
theorem dX8_road_59 : decode cX8_road 59 = .ok (.getfield 42, 3) := by decide +kernel
theorem dX8_road_62 : decode cX8_road 62 = .ok (.invokevirtual 94, 3) := by decide +kernel
theorem dX8_road_65 : decode cX8_road 65 = .ok (.pop, 1) := by decide +kernel
theorem dX8_road_66 : decode cX8_road 66 = .ok (.aload_n 0, 1) := by decide +kernel
theorem dX8_road_67 : decode cX8_road 67 = .ok (.iconst 0, 1) := by decide +kernel
theorem dX8_road_68 : decode cX8_road 68 = .ok (.putfield 97, 3) := by decide +kernel
theorem dX8_road_71 : decode cX8_road 71 = .ok (.iload_n 1, 1) := by decide +kernel
theorem dX8_road_72 : decode cX8_road 72 = .ok (.ireturn, 1) := by decide +kernel
theorem dX8_stage_0 : decode cX8_stage 0 = .ok (.aload_n 0, 1) := by decide +kernel
theorem dX8_stage_1 : decode cX8_stage 1 = .ok (.getfield 19, 3) := by decide +kernel
theorem dX8_stage_4 : decode cX8_stage 4 = .ok (.iload_n 1, 1) := by decide +kernel
theorem dX8_stage_5 : decode cX8_stage 5 = .ok (.invokevirtual 101, 3) := by decide +kernel
theorem dX8_stage_8 : decode cX8_stage 8 = .ok (.ifCond .ne 5, 3) := by decide +kernel
theorem dX8_stage_11 : decode cX8_stage 11 = .ok (.iconst (-1), 1) := by decide +kernel
theorem dX8_stage_12 : decode cX8_stage 12 = .ok (.ireturn, 1) := by decide +kernel
theorem dX8_stage_13 : decode cX8_stage 13 = .ok (.iload_n 2, 1) := by decide +kernel
theorem dX8_stage_14 : decode cX8_stage 14 = .ok (.tableswitch 87 0 4 #[34, 43, 52, 61, 78], 34) := by decide +kernel
theorem dX8_stage_48 : decode cX8_stage 48 = .ok (.aload_n 0, 1) := by decide +kernel
theorem dX8_stage_49 : decode cX8_stage 49 = .ok (.getfield 19, 3) := by decide +kernel
theorem dX8_stage_52 : decode cX8_stage 52 = .ok (.iload_n 1, 1) := by decide +kernel
theorem dX8_stage_53 : decode cX8_stage 53 = .ok (.invokevirtual 104, 3) := by decide +kernel
theorem dX8_stage_56 : decode cX8_stage 56 = .ok (.ireturn, 1) := by decide +kernel
theorem dX8_stage_57 : decode cX8_stage 57 = .ok (.aload_n 0, 1) := by decide +kernel
theorem dX8_stage_58 : decode cX8_stage 58 = .ok (.getfield 19, 3) := by decide +kernel
theorem dX8_stage_61 : decode cX8_stage 61 = .ok (.iload_n 1, 1) := by decide +kernel
theorem dX8_stage_62 : decode cX8_stage 62 = .ok (.invokevirtual 108, 3) := by decide +kernel
theorem dX8_stage_65 : decode cX8_stage 65 = .ok (.ireturn, 1) := by decide +kernel
theorem dX8_stage_66 : decode cX8_stage 66 = .ok (.aload_n 0, 1) := by decide +kernel
theorem dX8_stage_67 : decode cX8_stage 67 = .ok (.getfield 19, 3) := by decide +kernel
theorem dX8_stage_70 : decode cX8_stage 70 = .ok (.iload_n 1, 1) := by decide +kernel
theorem dX8_stage_71 : decode cX8_stage 71 = .ok (.invokevirtual 111, 3) := by decide +kernel
theorem dX8_stage_74 : decode cX8_stage 74 = .ok (.ireturn, 1) := by decide +kernel
theorem dX8_stage_75 : decode cX8_stage 75 = .ok (.aload_n 0, 1) := by decide +kernel
theorem dX8_stage_76 : decode cX8_stage 76 = .ok (.getfield 19, 3) := by decide +kernel
theorem dX8_stage_79 : decode cX8_stage 79 = .ok (.iload_n 1, 1) := by decide +kernel
theorem dX8_stage_80 : decode cX8_stage 80 = .ok (.invokevirtual 114, 3) := by decide +kernel
theorem dX8_stage_83 : decode cX8_stage 83 = .ok (.ifCond .eq 7, 3) := by decide +kernel
theorem dX8_stage_86 : decode cX8_stage 86 = .ok (.iconst 1, 1) := by decide +kernel
theorem dX8_stage_87 : decode cX8_stage 87 = .ok (.goto 4, 3) := by decide +kernel
theorem dX8_stage_90 : decode cX8_stage 90 = .ok (.iconst 0, 1) := by decide +kernel
theorem dX8_stage_91 : decode cX8_stage 91 = .ok (.ireturn, 1) := by decide +kernel
theorem dX8_stage_92 : decode cX8_stage 92 = .ok (.aload_n 0, 1) := by decide +kernel
theorem dX8_stage_93 : decode cX8_stage 93 = .ok (.getfield 19, 3) := by decide +kernel
theorem dX8_stage_96 : decode cX8_stage 96 = .ok (.iload_n 1, 1) := by decide +kernel
theorem dX8_stage_97 : decode cX8_stage 97 = .ok (.invokevirtual 117, 3) := by decide +kernel
theorem dX8_stage_100 : decode cX8_stage 100 = .ok (.ireturn, 1) := by decide +kernel
theorem dX8_stage_101 : decode cX8_stage 101 = .ok (.iconst (-1), 1) := by decide +kernel
theorem dX8_stage_102 : decode cX8_stage 102 = .ok (.ireturn, 1) := by decide +kernel
theorem dX8_caravan_0 : decode cX8_caravan 0 = .ok (.aload_n 0, 1) := by decide +kernel
theorem dX8_caravan_1 : decode cX8_caravan 1 = .ok (.getfield 19, 3) := by decide +kernel
theorem dX8_caravan_4 : decode cX8_caravan 4 = .ok (.iload_n 1, 1) := by decide +kernel
theorem dX8_caravan_5 : decode cX8_caravan 5 = .ok (.invokevirtual 120, 3) := by decide +kernel
theorem dX8_caravan_8 : decode cX8_caravan 8 = .ok (.ifCond .ne 5, 3) := by decide +kernel
theorem dX8_caravan_11 : decode cX8_caravan 11 = .ok (.iconst (-1), 1) := by decide +kernel
theorem dX8_caravan_12 : decode cX8_caravan 12 = .ok (.ireturn, 1) := by decide +kernel
theorem dX8_caravan_13 : decode cX8_caravan 13 = .ok (.aload_n 0, 1) := by decide +kernel
theorem dX8_caravan_14 : decode cX8_caravan 14 = .ok (.getfield 29, 3) := by decide +kernel
theorem dX8_caravan_17 : decode cX8_caravan 17 = .ok (.getfield 123, 3) := by decide +kernel
theorem dX8_caravan_20 : decode cX8_caravan 20 = .ok (.astore_n 3, 1) := by decide +kernel
theorem dX8_caravan_21 : decode cX8_caravan 21 = .ok (.iload_n 2, 1) := by decide +kernel
theorem dX8_caravan_22 : decode cX8_caravan 22 = .ok (.tableswitch 85 0 5 #[38, 44, 50, 59, 65, 79], 38) := by decide +kernel
theorem dX8_caravan_60 : decode cX8_caravan 60 = .ok (.aload_n 3, 1) := by decide +kernel
theorem dX8_caravan_61 : decode cX8_caravan 61 = .ok (.iload_n 1, 1) := by decide +kernel
theorem dX8_caravan_62 : decode cX8_caravan 62 = .ok (.invokevirtual 126, 3) := by decide +kernel
theorem dX8_caravan_65 : decode cX8_caravan 65 = .ok (.ireturn, 1) := by decide +kernel
theorem dX8_caravan_66 : decode cX8_caravan 66 = .ok (.aload_n 3, 1) := by decide +kernel
theorem dX8_caravan_67 : decode cX8_caravan 67 = .ok (.iload_n 1, 1) := by decide +kernel
theorem dX8_caravan_68 : decode cX8_caravan 68 = .ok (.invokevirtual 131, 3) := by decide +kernel
theorem dX8_caravan_71 : decode cX8_caravan 71 = .ok (.ireturn, 1) := by decide +kernel
theorem dX8_caravan_72 : decode cX8_caravan 72 = .ok (.aload_n 0, 1) := by decide +kernel
theorem dX8_caravan_73 : decode cX8_caravan 73 = .ok (.getfield 19, 3) := by decide +kernel
theorem dX8_caravan_76 : decode cX8_caravan 76 = .ok (.iload_n 1, 1) := by decide +kernel
theorem dX8_caravan_77 : decode cX8_caravan 77 = .ok (.invokevirtual 134, 3) := by decide +kernel
theorem dX8_caravan_80 : decode cX8_caravan 80 = .ok (.ireturn, 1) := by decide +kernel
theorem dX8_caravan_81 : decode cX8_caravan 81 = .ok (.aload_n 3, 1) := by decide +kernel
theorem dX8_caravan_82 : decode cX8_caravan 82 = .ok (.iload_n 1, 1) := by decide +kernel
theorem dX8_caravan_83 : decode cX8_caravan 83 = .ok (.invokevirtual 137, 3) := by decide +kernel
theorem dX8_caravan_86 : decode cX8_caravan 86 = .ok (.ireturn, 1) := by decide +kernel
theorem dX8_caravan_87 : decode cX8_caravan 87 = .ok (.aload_n 3, 1) := by decide +kernel
theorem dX8_caravan_88 : decode cX8_caravan 88 = .ok (.iload_n 1, 1) := by decide +kernel
theorem dX8_caravan_89 : decode cX8_caravan 89 = .ok (.invokevirtual 140, 3) := by decide +kernel
theorem dX8_caravan_92 : decode cX8_caravan 92 = .ok (.ifCond .eq 7, 3) := by decide +kernel
theorem dX8_caravan_95 : decode cX8_caravan 95 = .ok (.iconst 1, 1) := by decide +kernel
theorem dX8_caravan_96 : decode cX8_caravan 96 = .ok (.goto 4, 3) := by decide +kernel
theorem dX8_caravan_99 : decode cX8_caravan 99 = .ok (.iconst 0, 1) := by decide +kernel
theorem dX8_caravan_100 : decode cX8_caravan 100 = .ok (.ireturn, 1) := by decide +kernel
theorem dX8_caravan_101 : decode cX8_caravan 101 = .ok (.aload_n 3, 1) := by decide +kernel
theorem dX8_caravan_102 : decode cX8_caravan 102 = .ok (.iload_n 1, 1) := by decide +kernel
theorem dX8_caravan_103 : decode cX8_caravan 103 = .ok (.invokevirtual 143, 3) := by decide +kernel
theorem dX8_caravan_106 : decode cX8_caravan 106 = .ok (.ireturn, 1) := by decide +kernel
theorem dX8_caravan_107 : decode cX8_caravan 107 = .ok (.iconst (-1), 1) := by decide +kernel
theorem dX8_caravan_108 : decode cX8_caravan 108 = .ok (.ireturn, 1) := by decide +kernel
theorem dX8_well_0 : decode cX8_well 0 = .ok (.aload_n 0, 1) := by decide +kernel
theorem dX8_well_1 : decode cX8_well 1 = .ok (.getfield 19, 3) := by decide +kernel
theorem dX8_well_4 : decode cX8_well 4 = .ok (.iload_n 1, 1) := by decide +kernel
theorem dX8_well_5 : decode cX8_well 5 = .ok (.invokevirtual 146, 3) := by decide +kernel
theorem dX8_well_8 : decode cX8_well 8 = .ok (.ifCond .ne 6, 3) := by decide +kernel
theorem dX8_well_11 : decode cX8_well 11 = .ok (.ldc 149, 2) := by decide +kernel
theorem dX8_well_13 : decode cX8_well 13 = .ok (.ireturn, 1) := by decide +kernel
theorem dX8_well_14 : decode cX8_well 14 = .ok (.aload_n 0, 1) := by decide +kernel
theorem dX8_well_15 : decode cX8_well 15 = .ok (.getfield 29, 3) := by decide +kernel
theorem dX8_well_18 : decode cX8_well 18 = .ok (.getfield 123, 3) := by decide +kernel
theorem dX8_well_21 : decode cX8_well 21 = .ok (.astore_n 3, 1) := by decide +kernel
theorem dX8_well_22 : decode cX8_well 22 = .ok (.iload_n 2, 1) := by decide +kernel
theorem dX8_well_23 : decode cX8_well 23 = .ok (.tableswitch 64 0 3 #[29, 46, 52, 58], 29) := by decide +kernel
theorem dX8_well_52 : decode cX8_well 52 = .ok (.aload_n 0, 1) := by decide +kernel
theorem dX8_well_53 : decode cX8_well 53 = .ok (.getfield 19, 3) := by decide +kernel
theorem dX8_well_56 : decode cX8_well 56 = .ok (.iload_n 1, 1) := by decide +kernel
theorem dX8_well_57 : decode cX8_well 57 = .ok (.invokevirtual 150, 3) := by decide +kernel
theorem dX8_well_60 : decode cX8_well 60 = .ok (.ifCond .eq 7, 3) := by decide +kernel
theorem dX8_well_63 : decode cX8_well 63 = .ok (.iconst 1, 1) := by decide +kernel
theorem dX8_well_64 : decode cX8_well 64 = .ok (.goto 4, 3) := by decide +kernel
theorem dX8_well_67 : decode cX8_well 67 = .ok (.iconst 0, 1) := by decide +kernel
theorem dX8_well_68 : decode cX8_well 68 = .ok (.ireturn, 1) := by decide +kernel
theorem dX8_well_69 : decode cX8_well 69 = .ok (.aload_n 3, 1) := by decide +kernel
theorem dX8_well_70 : decode cX8_well 70 = .ok (.iload_n 1, 1) := by decide +kernel
theorem dX8_well_71 : decode cX8_well 71 = .ok (.invokevirtual 153, 3) := by decide +kernel
theorem dX8_well_74 : decode cX8_well 74 = .ok (.ireturn, 1) := by decide +kernel
theorem dX8_well_75 : decode cX8_well 75 = .ok (.aload_n 3, 1) := by decide +kernel
theorem dX8_well_76 : decode cX8_well 76 = .ok (.iload_n 1, 1) := by decide +kernel
theorem dX8_well_77 : decode cX8_well 77 = .ok (.invokevirtual 156, 3) := by decide +kernel
theorem dX8_well_80 : decode cX8_well 80 = .ok (.ireturn, 1) := by decide +kernel
theorem dX8_well_81 : decode cX8_well 81 = .ok (.aload_n 3, 1) := by decide +kernel
theorem dX8_well_82 : decode cX8_well 82 = .ok (.iload_n 1, 1) := by decide +kernel
theorem dX8_well_83 : decode cX8_well 83 = .ok (.invokevirtual 159, 3) := by decide +kernel
theorem dX8_well_86 : decode cX8_well 86 = .ok (.ireturn, 1) := by decide +kernel
theorem dX8_well_87 : decode cX8_well 87 = .ok (.ldc 149, 2) := by decide +kernel
theorem dX8_well_89 : decode cX8_well 89 = .ok (.ireturn, 1) := by decide +kernel
theorem dX8_knots_0 : decode cX8_knots 0 = .ok (.aload_n 0, 1) := by decide +kernel
theorem dX8_knots_1 : decode cX8_knots 1 = .ok (.getfield 19, 3) := by decide +kernel
theorem dX8_knots_4 : decode cX8_knots 4 = .ok (.iload_n 1, 1) := by decide +kernel
theorem dX8_knots_5 : decode cX8_knots 5 = .ok (.invokevirtual 120, 3) := by decide +kernel
theorem dX8_knots_8 : decode cX8_knots 8 = .ok (.ifCond .eq 29, 3) := by decide +kernel
theorem dX8_knots_11 : decode cX8_knots 11 = .ok (.aload_n 0, 1) := by decide +kernel
theorem dX8_knots_12 : decode cX8_knots 12 = .ok (.getfield 19, 3) := by decide +kernel
theorem dX8_knots_15 : decode cX8_knots 15 = .ok (.iload_n 2, 1) := by decide +kernel
theorem dX8_knots_16 : decode cX8_knots 16 = .ok (.invokevirtual 146, 3) := by decide +kernel
theorem dX8_knots_19 : decode cX8_knots 19 = .ok (.ifCond .eq 18, 3) := by decide +kernel
theorem dX8_knots_22 : decode cX8_knots 22 = .ok (.aload_n 0, 1) := by decide +kernel
theorem dX8_knots_23 : decode cX8_knots 23 = .ok (.getfield 29, 3) := by decide +kernel
theorem dX8_knots_26 : decode cX8_knots 26 = .ok (.getfield 123, 3) := by decide +kernel
theorem dX8_knots_29 : decode cX8_knots 29 = .ok (.iload_n 1, 1) := by decide +kernel
theorem dX8_knots_30 : decode cX8_knots 30 = .ok (.iload_n 2, 1) := by decide +kernel
theorem dX8_knots_31 : decode cX8_knots 31 = .ok (.invokevirtual 162, 3) := by decide +kernel
theorem dX8_knots_34 : decode cX8_knots 34 = .ok (.goto 4, 3) := by decide +kernel
theorem dX8_knots_37 : decode cX8_knots 37 = .ok (.iconst (-1), 1) := by decide +kernel
theorem dX8_knots_38 : decode cX8_knots 38 = .ok (.ireturn, 1) := by decide +kernel
theorem dX8_dues_0 : decode cX8_dues 0 = .ok (.aload_n 0, 1) := by decide +kernel
theorem dX8_dues_1 : decode cX8_dues 1 = .ok (.getfield 19, 3) := by decide +kernel
theorem dX8_dues_4 : decode cX8_dues 4 = .ok (.iload_n 1, 1) := by decide +kernel
theorem dX8_dues_5 : decode cX8_dues 5 = .ok (.invokevirtual 146, 3) := by decide +kernel
theorem dX8_dues_8 : decode cX8_dues 8 = .ok (.ifCond .eq 34, 3) := by decide +kernel
theorem dX8_dues_11 : decode cX8_dues 11 = .ok (.aload_n 0, 1) := by decide +kernel
theorem dX8_dues_12 : decode cX8_dues 12 = .ok (.getfield 19, 3) := by decide +kernel
theorem dX8_dues_15 : decode cX8_dues 15 = .ok (.iload_n 2, 1) := by decide +kernel
theorem dX8_dues_16 : decode cX8_dues 16 = .ok (.invokevirtual 146, 3) := by decide +kernel
theorem dX8_dues_19 : decode cX8_dues 19 = .ok (.ifCond .eq 23, 3) := by decide +kernel
theorem dX8_dues_22 : decode cX8_dues 22 = .ok (.iload_n 1, 1) := by decide +kernel
theorem dX8_dues_23 : decode cX8_dues 23 = .ok (.iload_n 2, 1) := by decide +kernel
theorem dX8_dues_24 : decode cX8_dues 24 = .ok (.if_icmp .eq 18, 3) := by decide +kernel
theorem dX8_dues_27 : decode cX8_dues 27 = .ok (.aload_n 0, 1) := by decide +kernel
theorem dX8_dues_28 : decode cX8_dues 28 = .ok (.getfield 29, 3) := by decide +kernel
theorem dX8_dues_31 : decode cX8_dues 31 = .ok (.getfield 123, 3) := by decide +kernel
theorem dX8_dues_34 : decode cX8_dues 34 = .ok (.iload_n 1, 1) := by decide +kernel
theorem dX8_dues_35 : decode cX8_dues 35 = .ok (.iload_n 2, 1) := by decide +kernel
theorem dX8_dues_36 : decode cX8_dues 36 = .ok (.invokevirtual 166, 3) := by decide +kernel
theorem dX8_dues_39 : decode cX8_dues 39 = .ok (.goto 4, 3) := by decide +kernel
theorem dX8_dues_42 : decode cX8_dues 42 = .ok (.iconst (-1), 1) := by decide +kernel
theorem dX8_dues_43 : decode cX8_dues 43 = .ok (.ireturn, 1) := by decide +kernel
theorem dX8_goes_0 : decode cX8_goes 0 = .ok (.aload_n 0, 1) := by decide +kernel
theorem dX8_goes_1 : decode cX8_goes 1 = .ok (.getfield 19, 3) := by decide +kernel
theorem dX8_goes_4 : decode cX8_goes 4 = .ok (.iload_n 1, 1) := by decide +kernel
theorem dX8_goes_5 : decode cX8_goes 5 = .ok (.invokevirtual 120, 3) := by decide +kernel
theorem dX8_goes_8 : decode cX8_goes 8 = .ok (.ifCond .eq 24, 3) := by decide +kernel
theorem dX8_goes_11 : decode cX8_goes 11 = .ok (.aload_n 0, 1) := by decide +kernel
theorem dX8_goes_12 : decode cX8_goes 12 = .ok (.getfield 19, 3) := by decide +kernel
theorem dX8_goes_15 : decode cX8_goes 15 = .ok (.iload_n 2, 1) := by decide +kernel
theorem dX8_goes_16 : decode cX8_goes 16 = .ok (.invokevirtual 101, 3) := by decide +kernel
theorem dX8_goes_19 : decode cX8_goes 19 = .ok (.ifCond .eq 13, 3) := by decide +kernel
theorem dX8_goes_22 : decode cX8_goes 22 = .ok (.iload_n 3, 1) := by decide +kernel
theorem dX8_goes_23 : decode cX8_goes 23 = .ok (.iconst 0, 1) := by decide +kernel
theorem dX8_goes_24 : decode cX8_goes 24 = .ok (.bipush 9, 2) := by decide +kernel
theorem dX8_goes_26 : decode cX8_goes 26 = .ok (.invokestatic 67, 3) := by decide +kernel
theorem dX8_goes_29 : decode cX8_goes 29 = .ok (.ifCond .ne 5, 3) := by decide +kernel
theorem dX8_goes_32 : decode cX8_goes 32 = .ok (.iconst (-1), 1) := by decide +kernel
theorem dX8_goes_33 : decode cX8_goes 33 = .ok (.ireturn, 1) := by decide +kernel
theorem dX8_goes_34 : decode cX8_goes 34 = .ok (.aload_n 0, 1) := by decide +kernel
theorem dX8_goes_35 : decode cX8_goes 35 = .ok (.getfield 29, 3) := by decide +kernel
theorem dX8_goes_38 : decode cX8_goes 38 = .ok (.getfield 123, 3) := by decide +kernel
theorem dX8_goes_41 : decode cX8_goes 41 = .ok (.astore 4, 2) := by decide +kernel
theorem dX8_goes_43 : decode cX8_goes 43 = .ok (.aload_n 0, 1) := by decide +kernel
theorem dX8_goes_44 : decode cX8_goes 44 = .ok (.getfield 19, 3) := by decide +kernel
theorem dX8_goes_47 : decode cX8_goes 47 = .ok (.iload_n 2, 1) := by decide +kernel
theorem dX8_goes_48 : decode cX8_goes 48 = .ok (.aload 4, 2) := by decide +kernel
theorem dX8_goes_50 : decode cX8_goes 50 = .ok (.iload_n 1, 1) := by decide +kernel
theorem dX8_goes_51 : decode cX8_goes 51 = .ok (.invokevirtual 126, 3) := by decide +kernel
theorem dX8_goes_54 : decode cX8_goes 54 = .ok (.invokevirtual 169, 3) := by decide +kernel
theorem dX8_goes_57 : decode cX8_goes 57 = .ok (.istore 5, 2) := by decide +kernel
theorem dX8_goes_59 : decode cX8_goes 59 = .ok (.aload 4, 2) := by decide +kernel
theorem dX8_goes_61 : decode cX8_goes 61 = .ok (.iload_n 1, 1) := by decide +kernel
theorem dX8_goes_62 : decode cX8_goes 62 = .ok (.invokevirtual 140, 3) := by decide +kernel
theorem dX8_goes_65 : decode cX8_goes 65 = .ok (.ifCond .eq 32, 3) := by decide +kernel
theorem dX8_goes_68 : decode cX8_goes 68 = .ok (.iload 5, 2) := by decide +kernel
theorem dX8_goes_70 : decode cX8_goes 70 = .ok (.bipush (-9), 2) := by decide +kernel
theorem dX8_goes_72 : decode cX8_goes 72 = .ok (.if_icmp .eq 25, 3) := by decide +kernel
theorem dX8_goes_75 : decode cX8_goes 75 = .ok (.iload_n 3, 1) := by decide +kernel
theorem dX8_goes_76 : decode cX8_goes 76 = .ok (.aload 4, 2) := by decide +kernel
theorem dX8_goes_78 : decode cX8_goes 78 = .ok (.iload_n 1, 1) := by decide +kernel
theorem dX8_goes_79 : decode cX8_goes 79 = .ok (.invokevirtual 131, 3) := by decide +kernel
theorem dX8_goes_82 : decode cX8_goes 82 = .ok (.if_icmp .gt 15, 3) := by decide +kernel
theorem dX8_goes_85 : decode cX8_goes 85 = .ok (.iload_n 3, 1) := by decide +kernel
theorem dX8_goes_86 : decode cX8_goes 86 = .ok (.aload_n 0, 1) := by decide +kernel
theorem dX8_goes_87 : decode cX8_goes 87 = .ok (.getfield 19, 3) := by decide +kernel
theorem dX8_goes_90 : decode cX8_goes 90 = .ok (.iload_n 2, 1) := by decide +kernel
theorem dX8_goes_91 : decode cX8_goes 91 = .ok (.invokevirtual 111, 3) := by decide +kernel
theorem dX8_goes_94 : decode cX8_goes 94 = .ok (.if_icmp .le 6, 3) := by decide +kernel
theorem dX8_goes_97 : decode cX8_goes 97 = .ok (.bipush (-2), 2) := by decide +kernel
theorem dX8_goes_99 : decode cX8_goes 99 = .ok (.ireturn, 1) := by decide +kernel
theorem dX8_goes_100 : decode cX8_goes 100 = .ok (.aload_n 0, 1) := by decide +kernel
theorem dX8_goes_101 : decode cX8_goes 101 = .ok (.getfield 29, 3) := by decide +kernel
theorem dX8_goes_104 : decode cX8_goes 104 = .ok (.invokevirtual 172, 3) := by decide +kernel
theorem dX8_goes_107 : decode cX8_goes 107 = .ok (.aload_n 0, 1) := by decide +kernel
theorem dX8_goes_108 : decode cX8_goes 108 = .ok (.getfield 19, 3) := by decide +kernel
theorem dX8_goes_111 : decode cX8_goes 111 = .ok (.iload_n 2, 1) := by decide +kernel
theorem dX8_goes_112 : decode cX8_goes 112 = .ok (.invokevirtual 111, 3) := by decide +kernel
theorem dX8_goes_115 : decode cX8_goes 115 = .ok (.iload_n 3, 1) := by decide +kernel
theorem dX8_goes_116 : decode cX8_goes 116 = .ok (.isub, 1) := by decide +kernel
theorem dX8_goes_117 : decode cX8_goes 117 = .ok (.istore 6, 2) := by decide +kernel
theorem dX8_goes_119 : decode cX8_goes 119 = .ok (.aload 4, 2) := by decide +kernel
theorem dX8_goes_121 : decode cX8_goes 121 = .ok (.iload_n 1, 1) := by decide +kernel
theorem dX8_goes_122 : decode cX8_goes 122 = .ok (.aload 4, 2) := by decide +kernel
theorem dX8_goes_124 : decode cX8_goes 124 = .ok (.iload_n 1, 1) := by decide +kernel
theorem dX8_goes_125 : decode cX8_goes 125 = .ok (.invokevirtual 131, 3) := by decide +kernel
theorem dX8_goes_128 : decode cX8_goes 128 = .ok (.iload_n 3, 1) := by decide +kernel
theorem dX8_goes_129 : decode cX8_goes 129 = .ok (.isub, 1) := by decide +kernel
theorem dX8_goes_130 : decode cX8_goes 130 = .ok (.invokevirtual 175, 3) := by decide +kernel
theorem dX8_goes_133 : decode cX8_goes 133 = .ok (.aload 4, 2) := by decide +kernel
theorem dX8_goes_135 : decode cX8_goes 135 = .ok (.iload_n 1, 1) := by decide +kernel
theorem dX8_goes_136 : decode cX8_goes 136 = .ok (.iload 5, 2) := by decide +kernel
theorem dX8_goes_138 : decode cX8_goes 138 = .ok (.invokevirtual 179, 3) := by decide +kernel
theorem dX8_goes_141 : decode cX8_goes 141 = .ok (.aload 4, 2) := by decide +kernel
theorem dX8_goes_143 : decode cX8_goes 143 = .ok (.iload_n 1, 1) := by decide +kernel
theorem dX8_goes_144 : decode cX8_goes 144 = .ok (.aload 4, 2) := by decide +kernel
theorem dX8_goes_146 : decode cX8_goes 146 = .ok (.iload_n 1, 1) := by decide +kernel
theorem dX8_goes_147 : decode cX8_goes 147 = .ok (.invokevirtual 137, 3) := by decide +kernel
theorem dX8_goes_150 : decode cX8_goes 150 = .ok (.iload 6, 2) := by decide +kernel
theorem dX8_goes_152 : decode cX8_goes 152 = .ok (.iadd, 1) := by decide +kernel
theorem dX8_goes_153 : decode cX8_goes 153 = .ok (.invokevirtual 182, 3) := by decide +kernel
theorem dX8_goes_156 : decode cX8_goes 156 = .ok (.aload 4, 2) := by decide +kernel
theorem dX8_goes_158 : decode cX8_goes 158 = .ok (.iload_n 1, 1) := by decide +kernel
theorem dX8_goes_159 : decode cX8_goes 159 = .ok (.invokevirtual 137, 3) := by decide +kernel
theorem dX8_goes_162 : decode cX8_goes 162 = .ok (.aload_n 0, 1) := by decide +kernel
theorem dX8_goes_163 : decode cX8_goes 163 = .ok (.getfield 19, 3) := by decide +kernel
theorem dX8_goes_166 : decode cX8_goes 166 = .ok (.iload_n 1, 1) := by decide +kernel
theorem dX8_goes_167 : decode cX8_goes 167 = .ok (.invokevirtual 134, 3) := by decide +kernel
theorem dX8_goes_170 : decode cX8_goes 170 = .ok (.if_icmp .le 11, 3) := by decide +kernel
theorem dX8_goes_173 : decode cX8_goes 173 = .ok (.aload 4, 2) := by decide +kernel
theorem dX8_goes_175 : decode cX8_goes 175 = .ok (.iload_n 1, 1) := by decide +kernel
theorem dX8_goes_176 : decode cX8_goes 176 = .ok (.invokevirtual 185, 3) := by decide +kernel
theorem dX8_goes_179 : decode cX8_goes 179 = .ok (.iconst 0, 1) := by decide +kernel
theorem dX8_goes_180 : decode cX8_goes 180 = .ok (.ireturn, 1) := by decide +kernel
theorem dX8_goes_181 : decode cX8_goes 181 = .ok (.aload_n 0, 1) := by decide +kernel
theorem dX8_goes_182 : decode cX8_goes 182 = .ok (.getfield 19, 3) := by decide +kernel
theorem dX8_goes_185 : decode cX8_goes 185 = .ok (.iload_n 2, 1) := by decide +kernel
theorem dX8_goes_186 : decode cX8_goes 186 = .ok (.invokevirtual 117, 3) := by decide +kernel
theorem dX8_goes_189 : decode cX8_goes 189 = .ok (.istore 7, 2) := by decide +kernel
theorem dX8_goes_191 : decode cX8_goes 191 = .ok (.aload 4, 2) := by decide +kernel
theorem dX8_goes_193 : decode cX8_goes 193 = .ok (.iload_n 1, 1) := by decide +kernel
theorem dX8_goes_194 : decode cX8_goes 194 = .ok (.iload 7, 2) := by decide +kernel
theorem dX8_goes_196 : decode cX8_goes 196 = .ok (.iconst 0, 1) := by decide +kernel
theorem dX8_goes_197 : decode cX8_goes 197 = .ok (.aload 4, 2) := by decide +kernel
theorem dX8_goes_199 : decode cX8_goes 199 = .ok (.iload_n 1, 1) := by decide +kernel
theorem dX8_goes_200 : decode cX8_goes 200 = .ok (.iload 7, 2) := by decide +kernel
theorem dX8_goes_202 : decode cX8_goes 202 = .ok (.invokevirtual 162, 3) := by decide +kernel
theorem dX8_goes_205 : decode cX8_goes 205 = .ok (.aload_n 0, 1) := by decide +kernel
theorem dX8_goes_206 : decode cX8_goes 206 = .ok (.getfield 19, 3) := by decide +kernel
theorem dX8_goes_209 : decode cX8_goes 209 = .ok (.iload_n 2, 1) := by decide +kernel
theorem dX8_goes_210 : decode cX8_goes 210 = .ok (.iload 6, 2) := by decide +kernel
theorem dX8_goes_212 : decode cX8_goes 212 = .ok (.invokevirtual 189, 3) := by decide +kernel
theorem dX8_goes_215 : decode cX8_goes 215 = .ok (.isub, 1) := by decide +kernel
theorem dX8_goes_216 : decode cX8_goes 216 = .ok (.invokestatic 192, 3) := by decide +kernel
theorem dX8_goes_219 : decode cX8_goes 219 = .ok (.invokevirtual 197, 3) := by decide +kernel
theorem dX8_goes_222 : decode cX8_goes 222 = .ok (.iconst 1, 1) := by decide +kernel
theorem dX8_goes_223 : decode cX8_goes 223 = .ok (.ireturn, 1) := by decide +kernel
theorem dX8_drinks_0 : decode cX8_drinks 0 = .ok (.aload_n 0, 1) := by decide +kernel
end
section
theorem dX8_drinks_1 : decode cX8_drinks 1 = .ok (.getfield 19, 3) := by decide +kernel
theorem dX8_drinks_4 : decode cX8_drinks 4 = .ok (.iload_n 1, 1) := by decide +kernel
theorem dX8_drinks_5 : decode cX8_drinks 5 = .ok (.invokevirtual 120, 3) := by decide +kernel
theorem dX8_drinks_8 : decode cX8_drinks 8 = .ok (.ifCond .eq 13, 3) := by decide +kernel
theorem dX8_drinks_11 : decode cX8_drinks 11 = .ok (.iload_n 2, 1) := by decide +kernel
theorem dX8_drinks_12 : decode cX8_drinks 12 = .ok (.iconst 1, 1) := by decide +kernel
theorem dX8_drinks_13 : decode cX8_drinks 13 = .ok (.bipush 20, 2) := by decide +kernel
theorem dX8_drinks_15 : decode cX8_drinks 15 = .ok (.invokestatic 67, 3) := by decide +kernel
theorem dX8_drinks_18 : decode cX8_drinks 18 = .ok (.ifCond .ne 5, 3) := by decide +kernel
theorem dX8_drinks_21 : decode cX8_drinks 21 = .ok (.iconst (-1), 1) := by decide +kernel
theorem dX8_drinks_22 : decode cX8_drinks 22 = .ok (.ireturn, 1) := by decide +kernel
theorem dX8_drinks_23 : decode cX8_drinks 23 = .ok (.aload_n 0, 1) := by decide +kernel
theorem dX8_drinks_24 : decode cX8_drinks 24 = .ok (.getfield 29, 3) := by decide +kernel
theorem dX8_drinks_27 : decode cX8_drinks 27 = .ok (.getfield 123, 3) := by decide +kernel
theorem dX8_drinks_30 : decode cX8_drinks 30 = .ok (.astore_n 3, 1) := by decide +kernel
theorem dX8_drinks_31 : decode cX8_drinks 31 = .ok (.iload_n 2, 1) := by decide +kernel
theorem dX8_drinks_32 : decode cX8_drinks 32 = .ok (.aload_n 3, 1) := by decide +kernel
theorem dX8_drinks_33 : decode cX8_drinks 33 = .ok (.iload_n 1, 1) := by decide +kernel
theorem dX8_drinks_34 : decode cX8_drinks 34 = .ok (.invokevirtual 137, 3) := by decide +kernel
theorem dX8_drinks_37 : decode cX8_drinks 37 = .ok (.if_icmp .gt 12, 3) := by decide +kernel
theorem dX8_drinks_40 : decode cX8_drinks 40 = .ok (.aload_n 0, 1) := by decide +kernel
theorem dX8_drinks_41 : decode cX8_drinks 41 = .ok (.iload_n 1, 1) := by decide +kernel
theorem dX8_drinks_42 : decode cX8_drinks 42 = .ok (.iload_n 2, 1) := by decide +kernel
theorem dX8_drinks_43 : decode cX8_drinks 43 = .ok (.invokevirtual 201, 3) := by decide +kernel
theorem dX8_drinks_46 : decode cX8_drinks 46 = .ok (.ifCond .ne 6, 3) := by decide +kernel
theorem dX8_drinks_49 : decode cX8_drinks 49 = .ok (.bipush (-2), 2) := by decide +kernel
theorem dX8_drinks_51 : decode cX8_drinks 51 = .ok (.ireturn, 1) := by decide +kernel
theorem dX8_drinks_52 : decode cX8_drinks 52 = .ok (.aload_n 0, 1) := by decide +kernel
theorem dX8_drinks_53 : decode cX8_drinks 53 = .ok (.getfield 29, 3) := by decide +kernel
theorem dX8_drinks_56 : decode cX8_drinks 56 = .ok (.invokevirtual 172, 3) := by decide +kernel
theorem dX8_drinks_59 : decode cX8_drinks 59 = .ok (.aload_n 3, 1) := by decide +kernel
theorem dX8_drinks_60 : decode cX8_drinks 60 = .ok (.iload_n 1, 1) := by decide +kernel
theorem dX8_drinks_61 : decode cX8_drinks 61 = .ok (.aload_n 3, 1) := by decide +kernel
theorem dX8_drinks_62 : decode cX8_drinks 62 = .ok (.iload_n 1, 1) := by decide +kernel
theorem dX8_drinks_63 : decode cX8_drinks 63 = .ok (.invokevirtual 137, 3) := by decide +kernel
theorem dX8_drinks_66 : decode cX8_drinks 66 = .ok (.iload_n 2, 1) := by decide +kernel
theorem dX8_drinks_67 : decode cX8_drinks 67 = .ok (.isub, 1) := by decide +kernel
theorem dX8_drinks_68 : decode cX8_drinks 68 = .ok (.invokevirtual 182, 3) := by decide +kernel
theorem dX8_drinks_71 : decode cX8_drinks 71 = .ok (.aload_n 0, 1) := by decide +kernel
theorem dX8_drinks_72 : decode cX8_drinks 72 = .ok (.iload_n 1, 1) := by decide +kernel
theorem dX8_drinks_73 : decode cX8_drinks 73 = .ok (.iload_n 2, 1) := by decide +kernel
theorem dX8_drinks_74 : decode cX8_drinks 74 = .ok (.invokevirtual 205, 3) := by decide +kernel
theorem dX8_drinks_77 : decode cX8_drinks 77 = .ok (.ireturn, 1) := by decide +kernel
theorem dX8_fills_0 : decode cX8_fills 0 = .ok (.aload_n 0, 1) := by decide +kernel
theorem dX8_fills_1 : decode cX8_fills 1 = .ok (.getfield 19, 3) := by decide +kernel
theorem dX8_fills_4 : decode cX8_fills 4 = .ok (.iload_n 1, 1) := by decide +kernel
theorem dX8_fills_5 : decode cX8_fills 5 = .ok (.invokevirtual 120, 3) := by decide +kernel
theorem dX8_fills_8 : decode cX8_fills 8 = .ok (.ifCond .eq 13, 3) := by decide +kernel
theorem dX8_fills_11 : decode cX8_fills 11 = .ok (.iload_n 2, 1) := by decide +kernel
theorem dX8_fills_12 : decode cX8_fills 12 = .ok (.iconst 1, 1) := by decide +kernel
theorem dX8_fills_13 : decode cX8_fills 13 = .ok (.bipush 20, 2) := by decide +kernel
theorem dX8_fills_15 : decode cX8_fills 15 = .ok (.invokestatic 67, 3) := by decide +kernel
theorem dX8_fills_18 : decode cX8_fills 18 = .ok (.ifCond .ne 5, 3) := by decide +kernel
theorem dX8_fills_21 : decode cX8_fills 21 = .ok (.iconst (-1), 1) := by decide +kernel
theorem dX8_fills_22 : decode cX8_fills 22 = .ok (.ireturn, 1) := by decide +kernel
theorem dX8_fills_23 : decode cX8_fills 23 = .ok (.aload_n 0, 1) := by decide +kernel
theorem dX8_fills_24 : decode cX8_fills 24 = .ok (.getfield 29, 3) := by decide +kernel
theorem dX8_fills_27 : decode cX8_fills 27 = .ok (.getfield 123, 3) := by decide +kernel
theorem dX8_fills_30 : decode cX8_fills 30 = .ok (.astore_n 3, 1) := by decide +kernel
theorem dX8_fills_31 : decode cX8_fills 31 = .ok (.aload_n 3, 1) := by decide +kernel
theorem dX8_fills_32 : decode cX8_fills 32 = .ok (.iload_n 1, 1) := by decide +kernel
theorem dX8_fills_33 : decode cX8_fills 33 = .ok (.invokevirtual 131, 3) := by decide +kernel
theorem dX8_fills_36 : decode cX8_fills 36 = .ok (.iload_n 2, 1) := by decide +kernel
theorem dX8_fills_37 : decode cX8_fills 37 = .ok (.iadd, 1) := by decide +kernel
theorem dX8_fills_38 : decode cX8_fills 38 = .ok (.bipush 20, 2) := by decide +kernel
theorem dX8_fills_40 : decode cX8_fills 40 = .ok (.if_icmp .gt 12, 3) := by decide +kernel
theorem dX8_fills_43 : decode cX8_fills 43 = .ok (.aload_n 0, 1) := by decide +kernel
theorem dX8_fills_44 : decode cX8_fills 44 = .ok (.iload_n 1, 1) := by decide +kernel
theorem dX8_fills_45 : decode cX8_fills 45 = .ok (.iload_n 2, 1) := by decide +kernel
theorem dX8_fills_46 : decode cX8_fills 46 = .ok (.invokevirtual 201, 3) := by decide +kernel
theorem dX8_fills_49 : decode cX8_fills 49 = .ok (.ifCond .ne 6, 3) := by decide +kernel
theorem dX8_fills_52 : decode cX8_fills 52 = .ok (.bipush (-2), 2) := by decide +kernel
theorem dX8_fills_54 : decode cX8_fills 54 = .ok (.ireturn, 1) := by decide +kernel
theorem dX8_fills_55 : decode cX8_fills 55 = .ok (.aload_n 0, 1) := by decide +kernel
theorem dX8_fills_56 : decode cX8_fills 56 = .ok (.getfield 29, 3) := by decide +kernel
theorem dX8_fills_59 : decode cX8_fills 59 = .ok (.invokevirtual 172, 3) := by decide +kernel
theorem dX8_fills_62 : decode cX8_fills 62 = .ok (.aload_n 3, 1) := by decide +kernel
theorem dX8_fills_63 : decode cX8_fills 63 = .ok (.iload_n 1, 1) := by decide +kernel
theorem dX8_fills_64 : decode cX8_fills 64 = .ok (.aload_n 3, 1) := by decide +kernel
theorem dX8_fills_65 : decode cX8_fills 65 = .ok (.iload_n 1, 1) := by decide +kernel
theorem dX8_fills_66 : decode cX8_fills 66 = .ok (.invokevirtual 131, 3) := by decide +kernel
theorem dX8_fills_69 : decode cX8_fills 69 = .ok (.iload_n 2, 1) := by decide +kernel
theorem dX8_fills_70 : decode cX8_fills 70 = .ok (.iadd, 1) := by decide +kernel
theorem dX8_fills_71 : decode cX8_fills 71 = .ok (.invokevirtual 175, 3) := by decide +kernel
theorem dX8_fills_74 : decode cX8_fills 74 = .ok (.aload_n 0, 1) := by decide +kernel
theorem dX8_fills_75 : decode cX8_fills 75 = .ok (.iload_n 1, 1) := by decide +kernel
theorem dX8_fills_76 : decode cX8_fills 76 = .ok (.iload_n 2, 1) := by decide +kernel
theorem dX8_fills_77 : decode cX8_fills 77 = .ok (.invokevirtual 205, 3) := by decide +kernel
theorem dX8_fills_80 : decode cX8_fills 80 = .ok (.ireturn, 1) := by decide +kernel
theorem dX8_hands_0 : decode cX8_hands 0 = .ok (.aload_n 0, 1) := by decide +kernel
theorem dX8_hands_1 : decode cX8_hands 1 = .ok (.getfield 19, 3) := by decide +kernel
theorem dX8_hands_4 : decode cX8_hands 4 = .ok (.iload_n 1, 1) := by decide +kernel
theorem dX8_hands_5 : decode cX8_hands 5 = .ok (.invokevirtual 120, 3) := by decide +kernel
theorem dX8_hands_8 : decode cX8_hands 8 = .ok (.ifCond .eq 19, 3) := by decide +kernel
theorem dX8_hands_11 : decode cX8_hands 11 = .ok (.aload_n 0, 1) := by decide +kernel
theorem dX8_hands_12 : decode cX8_hands 12 = .ok (.getfield 19, 3) := by decide +kernel
theorem dX8_hands_15 : decode cX8_hands 15 = .ok (.iload_n 2, 1) := by decide +kernel
theorem dX8_hands_16 : decode cX8_hands 16 = .ok (.invokevirtual 120, 3) := by decide +kernel
theorem dX8_hands_19 : decode cX8_hands 19 = .ok (.ifCond .eq 8, 3) := by decide +kernel
theorem dX8_hands_22 : decode cX8_hands 22 = .ok (.iload_n 1, 1) := by decide +kernel
theorem dX8_hands_23 : decode cX8_hands 23 = .ok (.iload_n 2, 1) := by decide +kernel
theorem dX8_hands_24 : decode cX8_hands 24 = .ok (.if_icmp .ne 5, 3) := by decide +kernel
theorem dX8_hands_27 : decode cX8_hands 27 = .ok (.iconst (-1), 1) := by decide +kernel
theorem dX8_hands_28 : decode cX8_hands 28 = .ok (.ireturn, 1) := by decide +kernel
theorem dX8_hands_29 : decode cX8_hands 29 = .ok (.aload_n 0, 1) := by decide +kernel
theorem dX8_hands_30 : decode cX8_hands 30 = .ok (.getfield 19, 3) := by decide +kernel
theorem dX8_hands_33 : decode cX8_hands 33 = .ok (.iload_n 3, 1) := by decide +kernel
theorem dX8_hands_34 : decode cX8_hands 34 = .ok (.invokevirtual 146, 3) := by decide +kernel
theorem dX8_hands_37 : decode cX8_hands 37 = .ok (.ifCond .eq 14, 3) := by decide +kernel
theorem dX8_hands_40 : decode cX8_hands 40 = .ok (.iload 4, 2) := by decide +kernel
theorem dX8_hands_42 : decode cX8_hands 42 = .ok (.iconst 1, 1) := by decide +kernel
theorem dX8_hands_43 : decode cX8_hands 43 = .ok (.bipush 99, 2) := by decide +kernel
theorem dX8_hands_45 : decode cX8_hands 45 = .ok (.invokestatic 67, 3) := by decide +kernel
theorem dX8_hands_48 : decode cX8_hands 48 = .ok (.ifCond .ne 5, 3) := by decide +kernel
theorem dX8_hands_51 : decode cX8_hands 51 = .ok (.iconst (-1), 1) := by decide +kernel
theorem dX8_hands_52 : decode cX8_hands 52 = .ok (.ireturn, 1) := by decide +kernel
theorem dX8_hands_53 : decode cX8_hands 53 = .ok (.aload_n 0, 1) := by decide +kernel
theorem dX8_hands_54 : decode cX8_hands 54 = .ok (.getfield 29, 3) := by decide +kernel
theorem dX8_hands_57 : decode cX8_hands 57 = .ok (.getfield 123, 3) := by decide +kernel
theorem dX8_hands_60 : decode cX8_hands 60 = .ok (.astore 5, 2) := by decide +kernel
theorem dX8_hands_62 : decode cX8_hands 62 = .ok (.aload 5, 2) := by decide +kernel
theorem dX8_hands_64 : decode cX8_hands 64 = .ok (.iload_n 1, 1) := by decide +kernel
theorem dX8_hands_65 : decode cX8_hands 65 = .ok (.iload_n 3, 1) := by decide +kernel
theorem dX8_hands_66 : decode cX8_hands 66 = .ok (.invokevirtual 162, 3) := by decide +kernel
theorem dX8_hands_69 : decode cX8_hands 69 = .ok (.iload 4, 2) := by decide +kernel
theorem dX8_hands_71 : decode cX8_hands 71 = .ok (.isub, 1) := by decide +kernel
theorem dX8_hands_72 : decode cX8_hands 72 = .ok (.istore 6, 2) := by decide +kernel
theorem dX8_hands_74 : decode cX8_hands 74 = .ok (.aload 5, 2) := by decide +kernel
theorem dX8_hands_76 : decode cX8_hands 76 = .ok (.iload_n 2, 1) := by decide +kernel
theorem dX8_hands_77 : decode cX8_hands 77 = .ok (.iload_n 3, 1) := by decide +kernel
theorem dX8_hands_78 : decode cX8_hands 78 = .ok (.invokevirtual 162, 3) := by decide +kernel
theorem dX8_hands_81 : decode cX8_hands 81 = .ok (.iload 4, 2) := by decide +kernel
theorem dX8_hands_83 : decode cX8_hands 83 = .ok (.iadd, 1) := by decide +kernel
theorem dX8_hands_84 : decode cX8_hands 84 = .ok (.istore 7, 2) := by decide +kernel
theorem dX8_hands_86 : decode cX8_hands 86 = .ok (.aload 5, 2) := by decide +kernel
theorem dX8_hands_88 : decode cX8_hands 88 = .ok (.iload_n 1, 1) := by decide +kernel
theorem dX8_hands_89 : decode cX8_hands 89 = .ok (.invokevirtual 140, 3) := by decide +kernel
theorem dX8_hands_92 : decode cX8_hands 92 = .ok (.ifCond .eq 24, 3) := by decide +kernel
theorem dX8_hands_95 : decode cX8_hands 95 = .ok (.aload 5, 2) := by decide +kernel
theorem dX8_hands_97 : decode cX8_hands 97 = .ok (.iload_n 2, 1) := by decide +kernel
theorem dX8_hands_98 : decode cX8_hands 98 = .ok (.invokevirtual 140, 3) := by decide +kernel
theorem dX8_hands_101 : decode cX8_hands 101 = .ok (.ifCond .eq 15, 3) := by decide +kernel
theorem dX8_hands_104 : decode cX8_hands 104 = .ok (.iload 6, 2) := by decide +kernel
theorem dX8_hands_106 : decode cX8_hands 106 = .ok (.ifCond .lt 10, 3) := by decide +kernel
theorem dX8_hands_109 : decode cX8_hands 109 = .ok (.iload 7, 2) := by decide +kernel
theorem dX8_hands_111 : decode cX8_hands 111 = .ok (.bipush 99, 2) := by decide +kernel
theorem dX8_hands_113 : decode cX8_hands 113 = .ok (.if_icmp .le 6, 3) := by decide +kernel
theorem dX8_hands_116 : decode cX8_hands 116 = .ok (.bipush (-2), 2) := by decide +kernel
theorem dX8_hands_118 : decode cX8_hands 118 = .ok (.ireturn, 1) := by decide +kernel
theorem dX8_hands_119 : decode cX8_hands 119 = .ok (.aload_n 0, 1) := by decide +kernel
theorem dX8_hands_120 : decode cX8_hands 120 = .ok (.getfield 29, 3) := by decide +kernel
theorem dX8_hands_123 : decode cX8_hands 123 = .ok (.invokevirtual 172, 3) := by decide +kernel
theorem dX8_hands_126 : decode cX8_hands 126 = .ok (.aload 5, 2) := by decide +kernel
theorem dX8_hands_128 : decode cX8_hands 128 = .ok (.iload_n 1, 1) := by decide +kernel
theorem dX8_hands_129 : decode cX8_hands 129 = .ok (.iload_n 3, 1) := by decide +kernel
theorem dX8_hands_130 : decode cX8_hands 130 = .ok (.iload 6, 2) := by decide +kernel
theorem dX8_hands_132 : decode cX8_hands 132 = .ok (.invokevirtual 197, 3) := by decide +kernel
theorem dX8_hands_135 : decode cX8_hands 135 = .ok (.aload 5, 2) := by decide +kernel
theorem dX8_hands_137 : decode cX8_hands 137 = .ok (.iload_n 2, 1) := by decide +kernel
theorem dX8_hands_138 : decode cX8_hands 138 = .ok (.iload_n 3, 1) := by decide +kernel
theorem dX8_hands_139 : decode cX8_hands 139 = .ok (.iload 7, 2) := by decide +kernel
theorem dX8_hands_141 : decode cX8_hands 141 = .ok (.invokevirtual 197, 3) := by decide +kernel
theorem dX8_hands_144 : decode cX8_hands 144 = .ok (.iload 7, 2) := by decide +kernel
theorem dX8_hands_146 : decode cX8_hands 146 = .ok (.ireturn, 1) := by decide +kernel
theorem dX8_strikes_0 : decode cX8_strikes 0 = .ok (.aload_n 0, 1) := by decide +kernel
theorem dX8_strikes_1 : decode cX8_strikes 1 = .ok (.getfield 29, 3) := by decide +kernel
theorem dX8_strikes_4 : decode cX8_strikes 4 = .ok (.getfield 123, 3) := by decide +kernel
theorem dX8_strikes_7 : decode cX8_strikes 7 = .ok (.astore_n 1, 1) := by decide +kernel
theorem dX8_strikes_8 : decode cX8_strikes 8 = .ok (.aload_n 0, 1) := by decide +kernel
theorem dX8_strikes_9 : decode cX8_strikes 9 = .ok (.getfield 49, 3) := by decide +kernel
theorem dX8_strikes_12 : decode cX8_strikes 12 = .ok (.aload_n 1, 1) := by decide +kernel
theorem dX8_strikes_13 : decode cX8_strikes 13 = .ok (.aload_n 0, 1) := by decide +kernel
theorem dX8_strikes_14 : decode cX8_strikes 14 = .ok (.getfield 19, 3) := by decide +kernel
theorem dX8_strikes_17 : decode cX8_strikes 17 = .ok (.getfield 208, 3) := by decide +kernel
theorem dX8_strikes_20 : decode cX8_strikes 20 = .ok (.invokevirtual 211, 3) := by decide +kernel
theorem dX8_strikes_23 : decode cX8_strikes 23 = .ok (.aload_n 0, 1) := by decide +kernel
theorem dX8_strikes_24 : decode cX8_strikes 24 = .ok (.getfield 49, 3) := by decide +kernel
theorem dX8_strikes_27 : decode cX8_strikes 27 = .ok (.getfield 215, 3) := by decide +kernel
theorem dX8_strikes_30 : decode cX8_strikes 30 = .ok (.ifCond .ne 6, 3) := by decide +kernel
theorem dX8_strikes_33 : decode cX8_strikes 33 = .ok (.bipush (-2), 2) := by decide +kernel
theorem dX8_strikes_35 : decode cX8_strikes 35 = .ok (.ireturn, 1) := by decide +kernel
theorem dX8_strikes_36 : decode cX8_strikes 36 = .ok (.aload_n 0, 1) := by decide +kernel
theorem dX8_strikes_37 : decode cX8_strikes 37 = .ok (.getfield 29, 3) := by decide +kernel
theorem dX8_strikes_40 : decode cX8_strikes 40 = .ok (.invokevirtual 172, 3) := by decide +kernel
theorem dX8_strikes_43 : decode cX8_strikes 43 = .ok (.iconst 0, 1) := by decide +kernel
theorem dX8_strikes_44 : decode cX8_strikes 44 = .ok (.istore_n 2, 1) := by decide +kernel
theorem dX8_strikes_45 : decode cX8_strikes 45 = .ok (.iload_n 2, 1) := by decide +kernel
theorem dX8_strikes_46 : decode cX8_strikes 46 = .ok (.aload_n 0, 1) := by decide +kernel
theorem dX8_strikes_47 : decode cX8_strikes 47 = .ok (.getfield 49, 3) := by decide +kernel
theorem dX8_strikes_50 : decode cX8_strikes 50 = .ok (.getfield 215, 3) := by decide +kernel
theorem dX8_strikes_53 : decode cX8_strikes 53 = .ok (.if_icmp .ge 69, 3) := by decide +kernel
theorem dX8_strikes_56 : decode cX8_strikes 56 = .ok (.aload_n 0, 1) := by decide +kernel
theorem dX8_strikes_57 : decode cX8_strikes 57 = .ok (.getfield 49, 3) := by decide +kernel
theorem dX8_strikes_60 : decode cX8_strikes 60 = .ok (.iload_n 2, 1) := by decide +kernel
theorem dX8_strikes_61 : decode cX8_strikes 61 = .ok (.invokevirtual 217, 3) := by decide +kernel
theorem dX8_strikes_64 : decode cX8_strikes 64 = .ok (.istore_n 3, 1) := by decide +kernel
theorem dX8_strikes_65 : decode cX8_strikes 65 = .ok (.aload_n 0, 1) := by decide +kernel
theorem dX8_strikes_66 : decode cX8_strikes 66 = .ok (.getfield 49, 3) := by decide +kernel
theorem dX8_strikes_69 : decode cX8_strikes 69 = .ok (.iload_n 2, 1) := by decide +kernel
theorem dX8_strikes_70 : decode cX8_strikes 70 = .ok (.iconst 1, 1) := by decide +kernel
theorem dX8_strikes_71 : decode cX8_strikes 71 = .ok (.iadd, 1) := by decide +kernel
theorem dX8_strikes_72 : decode cX8_strikes 72 = .ok (.aload_n 0, 1) := by decide +kernel
theorem dX8_strikes_73 : decode cX8_strikes 73 = .ok (.getfield 49, 3) := by decide +kernel
theorem dX8_strikes_76 : decode cX8_strikes 76 = .ok (.getfield 215, 3) := by decide +kernel
theorem dX8_strikes_79 : decode cX8_strikes 79 = .ok (.if_icmp .ge 9, 3) := by decide +kernel
theorem dX8_strikes_82 : decode cX8_strikes 82 = .ok (.iload_n 2, 1) := by decide +kernel
theorem dX8_strikes_83 : decode cX8_strikes 83 = .ok (.iconst 1, 1) := by decide +kernel
theorem dX8_strikes_84 : decode cX8_strikes 84 = .ok (.iadd, 1) := by decide +kernel
theorem dX8_strikes_85 : decode cX8_strikes 85 = .ok (.goto 4, 3) := by decide +kernel
theorem dX8_strikes_88 : decode cX8_strikes 88 = .ok (.iconst 0, 1) := by decide +kernel
theorem dX8_strikes_89 : decode cX8_strikes 89 = .ok (.invokevirtual 217, 3) := by decide +kernel
theorem dX8_strikes_92 : decode cX8_strikes 92 = .ok (.istore 4, 2) := by decide +kernel
theorem dX8_strikes_94 : decode cX8_strikes 94 = .ok (.aload_n 1, 1) := by decide +kernel
theorem dX8_strikes_95 : decode cX8_strikes 95 = .ok (.iload_n 3, 1) := by decide +kernel
theorem dX8_strikes_96 : decode cX8_strikes 96 = .ok (.iload 4, 2) := by decide +kernel
theorem dX8_strikes_98 : decode cX8_strikes 98 = .ok (.aload_n 1, 1) := by decide +kernel
theorem dX8_strikes_99 : decode cX8_strikes 99 = .ok (.iload_n 3, 1) := by decide +kernel
theorem dX8_strikes_100 : decode cX8_strikes 100 = .ok (.iload 4, 2) := by decide +kernel
theorem dX8_strikes_102 : decode cX8_strikes 102 = .ok (.invokevirtual 166, 3) := by decide +kernel
theorem dX8_strikes_105 : decode cX8_strikes 105 = .ok (.aload_n 0, 1) := by decide +kernel
theorem dX8_strikes_106 : decode cX8_strikes 106 = .ok (.getfield 49, 3) := by decide +kernel
theorem dX8_strikes_109 : decode cX8_strikes 109 = .ok (.getfield 220, 3) := by decide +kernel
theorem dX8_strikes_112 : decode cX8_strikes 112 = .ok (.isub, 1) := by decide +kernel
theorem dX8_strikes_113 : decode cX8_strikes 113 = .ok (.invokevirtual 223, 3) := by decide +kernel
theorem dX8_strikes_116 : decode cX8_strikes 116 = .ok (.iinc 2 1, 3) := by decide +kernel
theorem dX8_strikes_119 : decode cX8_strikes 119 = .ok (.goto (-74), 3) := by decide +kernel
theorem dX8_strikes_122 : decode cX8_strikes 122 = .ok (.aload_n 0, 1) := by decide +kernel
theorem dX8_strikes_123 : decode cX8_strikes 123 = .ok (.getfield 49, 3) := by decide +kernel
theorem dX8_strikes_126 : decode cX8_strikes 126 = .ok (.getfield 215, 3) := by decide +kernel
theorem dX8_strikes_129 : decode cX8_strikes 129 = .ok (.aload_n 0, 1) := by decide +kernel
theorem dX8_strikes_130 : decode cX8_strikes 130 = .ok (.getfield 49, 3) := by decide +kernel
theorem dX8_strikes_133 : decode cX8_strikes 133 = .ok (.getfield 220, 3) := by decide +kernel
theorem dX8_strikes_136 : decode cX8_strikes 136 = .ok (.imul, 1) := by decide +kernel
theorem dX8_strikes_137 : decode cX8_strikes 137 = .ok (.ireturn, 1) := by decide +kernel
theorem dX8_undo_0 : decode cX8_undo 0 = .ok (.aload_n 0, 1) := by decide +kernel
theorem dX8_undo_1 : decode cX8_undo 1 = .ok (.getfield 29, 3) := by decide +kernel
theorem dX8_undo_4 : decode cX8_undo 4 = .ok (.invokevirtual 226, 3) := by decide +kernel
theorem dX8_undo_7 : decode cX8_undo 7 = .ok (.ifCond .eq 13, 3) := by decide +kernel
theorem dX8_undo_10 : decode cX8_undo 10 = .ok (.aload_n 0, 1) := by decide +kernel
theorem dX8_undo_11 : decode cX8_undo 11 = .ok (.getfield 29, 3) := by decide +kernel
theorem dX8_undo_14 : decode cX8_undo 14 = .ok (.getfield 230, 3) := by decide +kernel
theorem dX8_undo_17 : decode cX8_undo 17 = .ok (.goto 5, 3) := by decide +kernel
theorem dX8_undo_20 : decode cX8_undo 20 = .ok (.bipush (-2), 2) := by decide +kernel
theorem dX8_undo_22 : decode cX8_undo 22 = .ok (.ireturn, 1) := by decide +kernel
theorem dX8_now_0 : decode cX8_now 0 = .ok (.aload_n 0, 1) := by decide +kernel
theorem dX8_now_1 : decode cX8_now 1 = .ok (.getfield 29, 3) := by decide +kernel
theorem dX8_now_4 : decode cX8_now 4 = .ok (.getfield 123, 3) := by decide +kernel
theorem dX8_now_7 : decode cX8_now 7 = .ok (.astore_n 2, 1) := by decide +kernel
theorem dX8_now_8 : decode cX8_now 8 = .ok (.iload_n 1, 1) := by decide +kernel
theorem dX8_now_9 : decode cX8_now 9 = .ok (.tableswitch 83 0 5 #[39, 44, 49, 54, 59, 75], 39) := by decide +kernel
theorem dX8_now_48 : decode cX8_now 48 = .ok (.aload_n 2, 1) := by decide +kernel
theorem dX8_now_49 : decode cX8_now 49 = .ok (.invokevirtual 233, 3) := by decide +kernel
theorem dX8_now_52 : decode cX8_now 52 = .ok (.ireturn, 1) := by decide +kernel
theorem dX8_now_53 : decode cX8_now 53 = .ok (.aload_n 2, 1) := by decide +kernel
theorem dX8_now_54 : decode cX8_now 54 = .ok (.invokevirtual 236, 3) := by decide +kernel
theorem dX8_now_57 : decode cX8_now 57 = .ok (.ireturn, 1) := by decide +kernel
theorem dX8_now_58 : decode cX8_now 58 = .ok (.aload_n 2, 1) := by decide +kernel
theorem dX8_now_59 : decode cX8_now 59 = .ok (.invokevirtual 239, 3) := by decide +kernel
theorem dX8_now_62 : decode cX8_now 62 = .ok (.ireturn, 1) := by decide +kernel
theorem dX8_now_63 : decode cX8_now 63 = .ok (.aload_n 2, 1) := by decide +kernel
theorem dX8_now_64 : decode cX8_now 64 = .ok (.invokevirtual 242, 3) := by decide +kernel
theorem dX8_now_67 : decode cX8_now 67 = .ok (.ireturn, 1) := by decide +kernel
theorem dX8_now_68 : decode cX8_now 68 = .ok (.aload_n 0, 1) := by decide +kernel
theorem dX8_now_69 : decode cX8_now 69 = .ok (.getfield 63, 3) := by decide +kernel
theorem dX8_now_72 : decode cX8_now 72 = .ok (.aload_n 2, 1) := by decide +kernel
theorem dX8_now_73 : decode cX8_now 73 = .ok (.aload_n 0, 1) := by decide +kernel
theorem dX8_now_74 : decode cX8_now 74 = .ok (.getfield 19, 3) := by decide +kernel
theorem dX8_now_77 : decode cX8_now 77 = .ok (.getfield 208, 3) := by decide +kernel
theorem dX8_now_80 : decode cX8_now 80 = .ok (.invokevirtual 245, 3) := by decide +kernel
theorem dX8_now_83 : decode cX8_now 83 = .ok (.ireturn, 1) := by decide +kernel
theorem dX8_now_84 : decode cX8_now 84 = .ok (.aload_n 0, 1) := by decide +kernel
theorem dX8_now_85 : decode cX8_now 85 = .ok (.getfield 19, 3) := by decide +kernel
theorem dX8_now_88 : decode cX8_now 88 = .ok (.invokevirtual 249, 3) := by decide +kernel
theorem dX8_now_91 : decode cX8_now 91 = .ok (.ireturn, 1) := by decide +kernel
theorem dX8_now_92 : decode cX8_now 92 = .ok (.iconst (-1), 1) := by decide +kernel
theorem dX8_now_93 : decode cX8_now 93 = .ok (.ireturn, 1) := by decide +kernel
theorem dX8_pass_0 : decode cX8_pass 0 = .ok (.aload_n 0, 1) := by decide +kernel
theorem dX8_pass_1 : decode cX8_pass 1 = .ok (.getfield 19, 3) := by decide +kernel
theorem dX8_pass_4 : decode cX8_pass 4 = .ok (.iload_n 1, 1) := by decide +kernel
theorem dX8_pass_5 : decode cX8_pass 5 = .ok (.invokevirtual 120, 3) := by decide +kernel
theorem dX8_pass_8 : decode cX8_pass 8 = .ok (.ifCond .eq 23, 3) := by decide +kernel
theorem dX8_pass_11 : decode cX8_pass 11 = .ok (.aload_n 0, 1) := by decide +kernel
theorem dX8_pass_12 : decode cX8_pass 12 = .ok (.getfield 19, 3) := by decide +kernel
theorem dX8_pass_15 : decode cX8_pass 15 = .ok (.iload_n 2, 1) := by decide +kernel
theorem dX8_pass_16 : decode cX8_pass 16 = .ok (.invokevirtual 146, 3) := by decide +kernel
theorem dX8_pass_19 : decode cX8_pass 19 = .ok (.ifCond .eq 12, 3) := by decide +kernel
theorem dX8_pass_22 : decode cX8_pass 22 = .ok (.iload_n 3, 1) := by decide +kernel
theorem dX8_pass_23 : decode cX8_pass 23 = .ok (.iconst 0, 1) := by decide +kernel
theorem dX8_pass_24 : decode cX8_pass 24 = .ok (.iconst 2, 1) := by decide +kernel
theorem dX8_pass_25 : decode cX8_pass 25 = .ok (.invokestatic 67, 3) := by decide +kernel
theorem dX8_pass_28 : decode cX8_pass 28 = .ok (.ifCond .ne 5, 3) := by decide +kernel
theorem dX8_pass_31 : decode cX8_pass 31 = .ok (.iconst (-1), 1) := by decide +kernel
theorem dX8_pass_32 : decode cX8_pass 32 = .ok (.ireturn, 1) := by decide +kernel
theorem dX8_pass_33 : decode cX8_pass 33 = .ok (.aload_n 0, 1) := by decide +kernel
theorem dX8_pass_34 : decode cX8_pass 34 = .ok (.getfield 29, 3) := by decide +kernel
theorem dX8_pass_37 : decode cX8_pass 37 = .ok (.getfield 123, 3) := by decide +kernel
theorem dX8_pass_40 : decode cX8_pass 40 = .ok (.iload_n 1, 1) := by decide +kernel
theorem dX8_pass_41 : decode cX8_pass 41 = .ok (.invokevirtual 140, 3) := by decide +kernel
theorem dX8_pass_44 : decode cX8_pass 44 = .ok (.ifCond .ne 6, 3) := by decide +kernel
theorem dX8_pass_47 : decode cX8_pass 47 = .ok (.bipush (-2), 2) := by decide +kernel
theorem dX8_pass_49 : decode cX8_pass 49 = .ok (.ireturn, 1) := by decide +kernel
theorem dX8_pass_50 : decode cX8_pass 50 = .ok (.aload_n 0, 1) := by decide +kernel
theorem dX8_pass_51 : decode cX8_pass 51 = .ok (.getfield 56, 3) := by decide +kernel
theorem dX8_pass_54 : decode cX8_pass 54 = .ok (.aload_n 0, 1) := by decide +kernel
theorem dX8_pass_55 : decode cX8_pass 55 = .ok (.getfield 19, 3) := by decide +kernel
theorem dX8_pass_58 : decode cX8_pass 58 = .ok (.aload_n 0, 1) := by decide +kernel
theorem dX8_pass_59 : decode cX8_pass 59 = .ok (.getfield 29, 3) := by decide +kernel
theorem dX8_pass_62 : decode cX8_pass 62 = .ok (.getfield 123, 3) := by decide +kernel
theorem dX8_pass_65 : decode cX8_pass 65 = .ok (.iload_n 1, 1) := by decide +kernel
theorem dX8_pass_66 : decode cX8_pass 66 = .ok (.iload_n 2, 1) := by decide +kernel
theorem dX8_pass_67 : decode cX8_pass 67 = .ok (.invokevirtual 252, 3) := by decide +kernel
theorem dX8_pass_70 : decode cX8_pass 70 = .ok (.iload_n 3, 1) := by decide +kernel
theorem dX8_pass_71 : decode cX8_pass 71 = .ok (.lookupswitch 41 #[(0, 25), (1, 33)], 25) := by decide +kernel
theorem dX8_pass_96 : decode cX8_pass 96 = .ok (.aload_n 0, 1) := by decide +kernel
theorem dX8_pass_97 : decode cX8_pass 97 = .ok (.getfield 56, 3) := by decide +kernel
theorem dX8_pass_100 : decode cX8_pass 100 = .ok (.getfield 255, 3) := by decide +kernel
theorem dX8_pass_103 : decode cX8_pass 103 = .ok (.ireturn, 1) := by decide +kernel
theorem dX8_pass_104 : decode cX8_pass 104 = .ok (.aload_n 0, 1) := by decide +kernel
theorem dX8_pass_105 : decode cX8_pass 105 = .ok (.getfield 56, 3) := by decide +kernel
theorem dX8_pass_108 : decode cX8_pass 108 = .ok (.getfield 258, 3) := by decide +kernel
theorem dX8_pass_111 : decode cX8_pass 111 = .ok (.ireturn, 1) := by decide +kernel
theorem dX8_pass_112 : decode cX8_pass 112 = .ok (.aload_n 0, 1) := by decide +kernel
theorem dX8_pass_113 : decode cX8_pass 113 = .ok (.getfield 56, 3) := by decide +kernel
theorem dX8_pass_116 : decode cX8_pass 116 = .ok (.getfield 261, 3) := by decide +kernel
theorem dX8_pass_119 : decode cX8_pass 119 = .ok (.ireturn, 1) := by decide +kernel
theorem dX8_ring_0 : decode cX8_ring 0 = .ok (.iload_n 1, 1) := by decide +kernel
theorem dX8_ring_1 : decode cX8_ring 1 = .ok (.bipush (-2), 2) := by decide +kernel
theorem dX8_ring_3 : decode cX8_ring 3 = .ok (.iconst 5, 1) := by decide +kernel
theorem dX8_ring_4 : decode cX8_ring 4 = .ok (.invokestatic 67, 3) := by decide +kernel
theorem dX8_ring_7 : decode cX8_ring 7 = .ok (.ifCond .ne 5, 3) := by decide +kernel
theorem dX8_ring_10 : decode cX8_ring 10 = .ok (.iconst (-1), 1) := by decide +kernel
theorem dX8_ring_11 : decode cX8_ring 11 = .ok (.ireturn, 1) := by decide +kernel
theorem dX8_ring_12 : decode cX8_ring 12 = .ok (.aload_n 0, 1) := by decide +kernel
theorem dX8_ring_13 : decode cX8_ring 13 = .ok (.getfield 49, 3) := by decide +kernel
theorem dX8_ring_16 : decode cX8_ring 16 = .ok (.aload_n 0, 1) := by decide +kernel
theorem dX8_ring_17 : decode cX8_ring 17 = .ok (.getfield 29, 3) := by decide +kernel
theorem dX8_ring_20 : decode cX8_ring 20 = .ok (.getfield 123, 3) := by decide +kernel
theorem dX8_ring_23 : decode cX8_ring 23 = .ok (.aload_n 0, 1) := by decide +kernel
theorem dX8_ring_24 : decode cX8_ring 24 = .ok (.getfield 19, 3) := by decide +kernel
theorem dX8_ring_27 : decode cX8_ring 27 = .ok (.getfield 208, 3) := by decide +kernel
theorem dX8_ring_30 : decode cX8_ring 30 = .ok (.invokevirtual 211, 3) := by decide +kernel
theorem dX8_ring_33 : decode cX8_ring 33 = .ok (.aload_n 0, 1) := by decide +kernel
theorem dX8_ring_34 : decode cX8_ring 34 = .ok (.getfield 49, 3) := by decide +kernel
theorem dX8_ring_37 : decode cX8_ring 37 = .ok (.getfield 215, 3) := by decide +kernel
theorem dX8_ring_40 : decode cX8_ring 40 = .ok (.ifCond .ne 6, 3) := by decide +kernel
theorem dX8_ring_43 : decode cX8_ring 43 = .ok (.bipush (-9), 2) := by decide +kernel
theorem dX8_ring_45 : decode cX8_ring 45 = .ok (.ireturn, 1) := by decide +kernel
theorem dX8_ring_46 : decode cX8_ring 46 = .ok (.iload_n 1, 1) := by decide +kernel
theorem dX8_ring_47 : decode cX8_ring 47 = .ok (.lookupswitch 41 #[(-2, 25), (-1, 33)], 25) := by decide +kernel
theorem dX8_ring_72 : decode cX8_ring 72 = .ok (.aload_n 0, 1) := by decide +kernel
theorem dX8_ring_73 : decode cX8_ring 73 = .ok (.getfield 49, 3) := by decide +kernel
theorem dX8_ring_76 : decode cX8_ring 76 = .ok (.getfield 220, 3) := by decide +kernel
theorem dX8_ring_79 : decode cX8_ring 79 = .ok (.ireturn, 1) := by decide +kernel
theorem dX8_ring_80 : decode cX8_ring 80 = .ok (.aload_n 0, 1) := by decide +kernel
theorem dX8_ring_81 : decode cX8_ring 81 = .ok (.getfield 49, 3) := by decide +kernel
theorem dX8_ring_84 : decode cX8_ring 84 = .ok (.getfield 215, 3) := by decide +kernel
theorem dX8_ring_87 : decode cX8_ring 87 = .ok (.ireturn, 1) := by decide +kernel
theorem dX8_ring_88 : decode cX8_ring 88 = .ok (.aload_n 0, 1) := by decide +kernel
theorem dX8_ring_89 : decode cX8_ring 89 = .ok (.getfield 49, 3) := by decide +kernel
theorem dX8_ring_92 : decode cX8_ring 92 = .ok (.iload_n 1, 1) := by decide +kernel
theorem dX8_ring_93 : decode cX8_ring 93 = .ok (.invokevirtual 217, 3) := by decide +kernel
theorem dX8_ring_96 : decode cX8_ring 96 = .ok (.ireturn, 1) := by decide +kernel
theorem dX8_safe_0 : decode cX8_safe 0 = .ok (.aload_n 0, 1) := by decide +kernel
theorem dX8_safe_1 : decode cX8_safe 1 = .ok (.getfield 19, 3) := by decide +kernel
theorem dX8_safe_4 : decode cX8_safe 4 = .ok (.iload_n 1, 1) := by decide +kernel
theorem dX8_safe_5 : decode cX8_safe 5 = .ok (.invokevirtual 120, 3) := by decide +kernel
theorem dX8_safe_8 : decode cX8_safe 8 = .ok (.ifCond .eq 23, 3) := by decide +kernel
theorem dX8_safe_11 : decode cX8_safe 11 = .ok (.iload_n 2, 1) := by decide +kernel
theorem dX8_safe_12 : decode cX8_safe 12 = .ok (.iconst 0, 1) := by decide +kernel
theorem dX8_safe_13 : decode cX8_safe 13 = .ok (.bipush 9, 2) := by decide +kernel
theorem dX8_safe_15 : decode cX8_safe 15 = .ok (.invokestatic 67, 3) := by decide +kernel
theorem dX8_safe_18 : decode cX8_safe 18 = .ok (.ifCond .eq 13, 3) := by decide +kernel
theorem dX8_safe_21 : decode cX8_safe 21 = .ok (.iload_n 3, 1) := by decide +kernel
theorem dX8_safe_22 : decode cX8_safe 22 = .ok (.iconst 0, 1) := by decide +kernel
theorem dX8_safe_23 : decode cX8_safe 23 = .ok (.bipush 9, 2) := by decide +kernel
theorem dX8_safe_25 : decode cX8_safe 25 = .ok (.invokestatic 67, 3) := by decide +kernel
theorem dX8_safe_28 : decode cX8_safe 28 = .ok (.ifCond .ne 5, 3) := by decide +kernel
theorem dX8_safe_31 : decode cX8_safe 31 = .ok (.iconst (-1), 1) := by decide +kernel
theorem dX8_safe_32 : decode cX8_safe 32 = .ok (.ireturn, 1) := by decide +kernel
theorem dX8_safe_33 : decode cX8_safe 33 = .ok (.iload 4, 2) := by decide +kernel
theorem dX8_safe_35 : decode cX8_safe 35 = .ok (.iconst 0, 1) := by decide +kernel
theorem dX8_safe_36 : decode cX8_safe 36 = .ok (.bipush 6, 2) := by decide +kernel
theorem dX8_safe_38 : decode cX8_safe 38 = .ok (.invokestatic 67, 3) := by decide +kernel
theorem dX8_safe_41 : decode cX8_safe 41 = .ok (.ifCond .eq 24, 3) := by decide +kernel
theorem dX8_safe_44 : decode cX8_safe 44 = .ok (.iload 5, 2) := by decide +kernel
theorem dX8_safe_46 : decode cX8_safe 46 = .ok (.iconst 0, 1) := by decide +kernel
theorem dX8_safe_47 : decode cX8_safe 47 = .ok (.bipush 10, 2) := by decide +kernel
theorem dX8_safe_49 : decode cX8_safe 49 = .ok (.invokestatic 67, 3) := by decide +kernel
theorem dX8_safe_52 : decode cX8_safe 52 = .ok (.ifCond .eq 13, 3) := by decide +kernel
theorem dX8_safe_55 : decode cX8_safe 55 = .ok (.iload 6, 2) := by decide +kernel
theorem dX8_safe_57 : decode cX8_safe 57 = .ok (.iconst 0, 1) := by decide +kernel
theorem dX8_safe_58 : decode cX8_safe 58 = .ok (.iconst 1, 1) := by decide +kernel
theorem dX8_safe_59 : decode cX8_safe 59 = .ok (.invokestatic 67, 3) := by decide +kernel
theorem dX8_safe_62 : decode cX8_safe 62 = .ok (.ifCond .ne 5, 3) := by decide +kernel
theorem dX8_safe_65 : decode cX8_safe 65 = .ok (.iconst (-1), 1) := by decide +kernel
theorem dX8_safe_66 : decode cX8_safe 66 = .ok (.ireturn, 1) := by decide +kernel
theorem dX8_safe_67 : decode cX8_safe 67 = .ok (.aload_n 0, 1) := by decide +kernel
theorem dX8_safe_68 : decode cX8_safe 68 = .ok (.getfield 29, 3) := by decide +kernel
theorem dX8_safe_71 : decode cX8_safe 71 = .ok (.getfield 123, 3) := by decide +kernel
theorem dX8_safe_74 : decode cX8_safe 74 = .ok (.iload_n 1, 1) := by decide +kernel
theorem dX8_safe_75 : decode cX8_safe 75 = .ok (.invokevirtual 140, 3) := by decide +kernel
theorem dX8_safe_78 : decode cX8_safe 78 = .ok (.ifCond .ne 6, 3) := by decide +kernel
theorem dX8_safe_81 : decode cX8_safe 81 = .ok (.bipush (-2), 2) := by decide +kernel
theorem dX8_safe_83 : decode cX8_safe 83 = .ok (.ireturn, 1) := by decide +kernel
theorem dX8_safe_84 : decode cX8_safe 84 = .ok (.aload_n 0, 1) := by decide +kernel
theorem dX8_safe_85 : decode cX8_safe 85 = .ok (.getfield 19, 3) := by decide +kernel
theorem dX8_safe_88 : decode cX8_safe 88 = .ok (.iload_n 1, 1) := by decide +kernel
theorem dX8_safe_89 : decode cX8_safe 89 = .ok (.invokevirtual 134, 3) := by decide +kernel
theorem dX8_safe_92 : decode cX8_safe 92 = .ok (.aload_n 0, 1) := by decide +kernel
theorem dX8_safe_93 : decode cX8_safe 93 = .ok (.getfield 29, 3) := by decide +kernel
theorem dX8_safe_96 : decode cX8_safe 96 = .ok (.getfield 123, 3) := by decide +kernel
theorem dX8_safe_99 : decode cX8_safe 99 = .ok (.iload_n 1, 1) := by decide +kernel
theorem dX8_safe_100 : decode cX8_safe 100 = .ok (.invokevirtual 137, 3) := by decide +kernel
theorem dX8_safe_103 : decode cX8_safe 103 = .ok (.isub, 1) := by decide +kernel
theorem dX8_safe_104 : decode cX8_safe 104 = .ok (.istore 7, 2) := by decide +kernel
theorem dX8_safe_106 : decode cX8_safe 106 = .ok (.iload 4, 2) := by decide +kernel
theorem dX8_safe_108 : decode cX8_safe 108 = .ok (.iload 7, 2) := by decide +kernel
theorem dX8_safe_110 : decode cX8_safe 110 = .ok (.iload_n 2, 1) := by decide +kernel
theorem dX8_safe_111 : decode cX8_safe 111 = .ok (.iload_n 3, 1) := by decide +kernel
theorem dX8_safe_112 : decode cX8_safe 112 = .ok (.iload 5, 2) := by decide +kernel
theorem dX8_safe_114 : decode cX8_safe 114 = .ok (.invokestatic 264, 3) := by decide +kernel
theorem dX8_safe_117 : decode cX8_safe 117 = .ok (.istore 8, 2) := by decide +kernel
theorem dX8_safe_119 : decode cX8_safe 119 = .ok (.iconst 1, 1) := by decide +kernel
theorem dX8_safe_120 : decode cX8_safe 120 = .ok (.istore 9, 2) := by decide +kernel
theorem dX8_safe_122 : decode cX8_safe 122 = .ok (.iconst 0, 1) := by decide +kernel
theorem dX8_safe_123 : decode cX8_safe 123 = .ok (.istore 10, 2) := by decide +kernel
theorem dX8_safe_125 : decode cX8_safe 125 = .ok (.iload 10, 2) := by decide +kernel
theorem dX8_safe_127 : decode cX8_safe 127 = .ok (.iload 4, 2) := by decide +kernel
theorem dX8_safe_129 : decode cX8_safe 129 = .ok (.if_icmp .ge 16, 3) := by decide +kernel
theorem dX8_safe_132 : decode cX8_safe 132 = .ok (.iload 9, 2) := by decide +kernel
theorem dX8_safe_134 : decode cX8_safe 134 = .ok (.bipush 10, 2) := by decide +kernel
theorem dX8_safe_136 : decode cX8_safe 136 = .ok (.imul, 1) := by decide +kernel
theorem dX8_safe_137 : decode cX8_safe 137 = .ok (.istore 9, 2) := by decide +kernel
theorem dX8_safe_139 : decode cX8_safe 139 = .ok (.iinc 10 1, 3) := by decide +kernel
theorem dX8_safe_142 : decode cX8_safe 142 = .ok (.goto (-17), 3) := by decide +kernel
theorem dX8_safe_145 : decode cX8_safe 145 = .ok (.iconst 0, 1) := by decide +kernel
theorem dX8_safe_146 : decode cX8_safe 146 = .ok (.istore 10, 2) := by decide +kernel
theorem dX8_safe_148 : decode cX8_safe 148 = .ok (.iload 10, 2) := by decide +kernel
theorem dX8_safe_150 : decode cX8_safe 150 = .ok (.iload 4, 2) := by decide +kernel
theorem dX8_safe_152 : decode cX8_safe 152 = .ok (.if_icmp .ge 47, 3) := by decide +kernel
theorem dX8_safe_155 : decode cX8_safe 155 = .ok (.iload 8, 2) := by decide +kernel
theorem dX8_safe_157 : decode cX8_safe 157 = .ok (.iconst 2, 1) := by decide +kernel
theorem dX8_safe_158 : decode cX8_safe 158 = .ok (.irem, 1) := by decide +kernel
theorem dX8_safe_159 : decode cX8_safe 159 = .ok (.ifCond .ne 15, 3) := by decide +kernel
theorem dX8_safe_162 : decode cX8_safe 162 = .ok (.iload 8, 2) := by decide +kernel
theorem dX8_safe_164 : decode cX8_safe 164 = .ok (.iconst 2, 1) := by decide +kernel
theorem dX8_safe_165 : decode cX8_safe 165 = .ok (.idiv, 1) := by decide +kernel
theorem dX8_safe_166 : decode cX8_safe 166 = .ok (.istore 8, 2) := by decide +kernel
theorem dX8_safe_168 : decode cX8_safe 168 = .ok (.iload 9, 2) := by decide +kernel
theorem dX8_safe_170 : decode cX8_safe 170 = .ok (.iconst 2, 1) := by decide +kernel
theorem dX8_safe_171 : decode cX8_safe 171 = .ok (.idiv, 1) := by decide +kernel
theorem dX8_safe_172 : decode cX8_safe 172 = .ok (.istore 9, 2) := by decide +kernel
theorem dX8_safe_174 : decode cX8_safe 174 = .ok (.iload 8, 2) := by decide +kernel
theorem dX8_safe_176 : decode cX8_safe 176 = .ok (.iconst 5, 1) := by decide +kernel
theorem dX8_safe_177 : decode cX8_safe 177 = .ok (.irem, 1) := by decide +kernel
theorem dX8_safe_178 : decode cX8_safe 178 = .ok (.ifCond .ne 15, 3) := by decide +kernel
theorem dX8_safe_181 : decode cX8_safe 181 = .ok (.iload 8, 2) := by decide +kernel
theorem dX8_safe_183 : decode cX8_safe 183 = .ok (.iconst 5, 1) := by decide +kernel
theorem dX8_safe_184 : decode cX8_safe 184 = .ok (.idiv, 1) := by decide +kernel
theorem dX8_safe_185 : decode cX8_safe 185 = .ok (.istore 8, 2) := by decide +kernel
theorem dX8_safe_187 : decode cX8_safe 187 = .ok (.iload 9, 2) := by decide +kernel
theorem dX8_safe_189 : decode cX8_safe 189 = .ok (.iconst 5, 1) := by decide +kernel
theorem dX8_safe_190 : decode cX8_safe 190 = .ok (.idiv, 1) := by decide +kernel
theorem dX8_safe_191 : decode cX8_safe 191 = .ok (.istore 9, 2) := by decide +kernel
theorem dX8_safe_193 : decode cX8_safe 193 = .ok (.iinc 10 1, 3) := by decide +kernel
theorem dX8_safe_196 : decode cX8_safe 196 = .ok (.goto (-48), 3) := by decide +kernel
theorem dX8_safe_199 : decode cX8_safe 199 = .ok (.iload 6, 2) := by decide +kernel
theorem dX8_safe_201 : decode cX8_safe 201 = .ok (.ifCond .ne 8, 3) := by decide +kernel
theorem dX8_safe_204 : decode cX8_safe 204 = .ok (.iload 8, 2) := by decide +kernel
theorem dX8_safe_206 : decode cX8_safe 206 = .ok (.goto 5, 3) := by decide +kernel
theorem dX8_safe_209 : decode cX8_safe 209 = .ok (.iload 9, 2) := by decide +kernel
theorem dX8_safe_211 : decode cX8_safe 211 = .ok (.ireturn, 1) := by decide +kernel
theorem dX8_hears_0 : decode cX8_hears 0 = .ok (.aload_n 0, 1) := by decide +kernel
theorem dX8_hears_1 : decode cX8_hears 1 = .ok (.getfield 19, 3) := by decide +kernel
theorem dX8_hears_4 : decode cX8_hears 4 = .ok (.iload_n 1, 1) := by decide +kernel
theorem dX8_hears_5 : decode cX8_hears 5 = .ok (.invokevirtual 120, 3) := by decide +kernel
theorem dX8_hears_8 : decode cX8_hears 8 = .ok (.ifCond .eq 14, 3) := by decide +kernel
theorem dX8_hears_11 : decode cX8_hears 11 = .ok (.aload_n 0, 1) := by decide +kernel
theorem dX8_hears_12 : decode cX8_hears 12 = .ok (.getfield 19, 3) := by decide +kernel
theorem dX8_hears_15 : decode cX8_hears 15 = .ok (.iload_n 2, 1) := by decide +kernel
theorem dX8_hears_16 : decode cX8_hears 16 = .ok (.invokevirtual 101, 3) := by decide +kernel
theorem dX8_hears_19 : decode cX8_hears 19 = .ok (.ifCond .ne 5, 3) := by decide +kernel
theorem dX8_hears_22 : decode cX8_hears 22 = .ok (.iconst (-1), 1) := by decide +kernel
theorem dX8_hears_23 : decode cX8_hears 23 = .ok (.ireturn, 1) := by decide +kernel
theorem dX8_hears_24 : decode cX8_hears 24 = .ok (.iload_n 3, 1) := by decide +kernel
theorem dX8_hears_25 : decode cX8_hears 25 = .ok (.iconst 0, 1) := by decide +kernel
theorem dX8_hears_26 : decode cX8_hears 26 = .ok (.bipush 9, 2) := by decide +kernel
theorem dX8_hears_28 : decode cX8_hears 28 = .ok (.invokestatic 67, 3) := by decide +kernel
theorem dX8_hears_31 : decode cX8_hears 31 = .ok (.ifCond .eq 14, 3) := by decide +kernel
theorem dX8_hears_34 : decode cX8_hears 34 = .ok (.iload 4, 2) := by decide +kernel
theorem dX8_hears_36 : decode cX8_hears 36 = .ok (.iconst 0, 1) := by decide +kernel
theorem dX8_hears_37 : decode cX8_hears 37 = .ok (.bipush 9, 2) := by decide +kernel
theorem dX8_hears_39 : decode cX8_hears 39 = .ok (.invokestatic 67, 3) := by decide +kernel
theorem dX8_hears_42 : decode cX8_hears 42 = .ok (.ifCond .ne 5, 3) := by decide +kernel
theorem dX8_hears_45 : decode cX8_hears 45 = .ok (.iconst (-1), 1) := by decide +kernel
theorem dX8_hears_46 : decode cX8_hears 46 = .ok (.ireturn, 1) := by decide +kernel
theorem dX8_hears_47 : decode cX8_hears 47 = .ok (.aload_n 0, 1) := by decide +kernel
theorem dX8_hears_48 : decode cX8_hears 48 = .ok (.getfield 42, 3) := by decide +kernel
theorem dX8_hears_51 : decode cX8_hears 51 = .ok (.iload_n 1, 1) := by decide +kernel
theorem dX8_hears_52 : decode cX8_hears 52 = .ok (.aload_n 0, 1) := by decide +kernel
theorem dX8_hears_53 : decode cX8_hears 53 = .ok (.getfield 19, 3) := by decide +kernel
theorem dX8_hears_56 : decode cX8_hears 56 = .ok (.iload_n 2, 1) := by decide +kernel
theorem dX8_hears_57 : decode cX8_hears 57 = .ok (.invokevirtual 111, 3) := by decide +kernel
theorem dX8_hears_60 : decode cX8_hears 60 = .ok (.iload_n 3, 1) := by decide +kernel
theorem dX8_hears_61 : decode cX8_hears 61 = .ok (.isub, 1) := by decide +kernel
theorem dX8_hears_62 : decode cX8_hears 62 = .ok (.iload 4, 2) := by decide +kernel
theorem dX8_hears_64 : decode cX8_hears 64 = .ok (.isub, 1) := by decide +kernel
theorem dX8_hears_65 : decode cX8_hears 65 = .ok (.invokevirtual 268, 3) := by decide +kernel
theorem dX8_hears_68 : decode cX8_hears 68 = .ok (.ifCond .eq 13, 3) := by decide +kernel
theorem dX8_hears_71 : decode cX8_hears 71 = .ok (.aload_n 0, 1) := by decide +kernel
theorem dX8_hears_72 : decode cX8_hears 72 = .ok (.getfield 42, 3) := by decide +kernel
theorem dX8_hears_75 : decode cX8_hears 75 = .ok (.getfield 270, 3) := by decide +kernel
theorem dX8_hears_78 : decode cX8_hears 78 = .ok (.goto 5, 3) := by decide +kernel
theorem dX8_hears_81 : decode cX8_hears 81 = .ok (.bipush (-3), 2) := by decide +kernel
theorem dX8_hears_83 : decode cX8_hears 83 = .ok (.ireturn, 1) := by decide +kernel
theorem dX8_forget_0 : decode cX8_forget 0 = .ok (.aload_n 0, 1) := by decide +kernel
theorem dX8_forget_1 : decode cX8_forget 1 = .ok (.getfield 42, 3) := by decide +kernel
theorem dX8_forget_4 : decode cX8_forget 4 = .ok (.invokevirtual 94, 3) := by decide +kernel
theorem dX8_forget_7 : decode cX8_forget 7 = .ok (.ireturn, 1) := by decide +kernel
theorem dX8_stones_0 : decode cX8_stones 0 = .ok (.iload_n 1, 1) := by decide +kernel
theorem dX8_stones_1 : decode cX8_stones 1 = .ok (.lookupswitch 43 #[(0, 27), (1, 35)], 27) := by decide +kernel
theorem dX8_stones_28 : decode cX8_stones 28 = .ok (.aload_n 0, 1) := by decide +kernel
theorem dX8_stones_29 : decode cX8_stones 29 = .ok (.getfield 42, 3) := by decide +kernel
theorem dX8_stones_32 : decode cX8_stones 32 = .ok (.invokevirtual 271, 3) := by decide +kernel
theorem dX8_stones_35 : decode cX8_stones 35 = .ok (.ireturn, 1) := by decide +kernel
theorem dX8_stones_36 : decode cX8_stones 36 = .ok (.aload_n 0, 1) := by decide +kernel
theorem dX8_stones_37 : decode cX8_stones 37 = .ok (.getfield 42, 3) := by decide +kernel
theorem dX8_stones_40 : decode cX8_stones 40 = .ok (.invokevirtual 274, 3) := by decide +kernel
theorem dX8_stones_43 : decode cX8_stones 43 = .ok (.ireturn, 1) := by decide +kernel
theorem dX8_stones_44 : decode cX8_stones 44 = .ok (.iconst (-1), 1) := by decide +kernel
theorem dX8_stones_45 : decode cX8_stones 45 = .ok (.ireturn, 1) := by decide +kernel
theorem dX8_mark_0 : decode cX8_mark 0 = .ok (.aload_n 0, 1) := by decide +kernel
theorem dX8_mark_1 : decode cX8_mark 1 = .ok (.getfield 19, 3) := by decide +kernel
theorem dX8_mark_4 : decode cX8_mark 4 = .ok (.iload_n 2, 1) := by decide +kernel
theorem dX8_mark_5 : decode cX8_mark 5 = .ok (.invokevirtual 146, 3) := by decide +kernel
theorem dX8_mark_8 : decode cX8_mark 8 = .ok (.ifCond .ne 6, 3) := by decide +kernel
theorem dX8_mark_11 : decode cX8_mark 11 = .ok (.ldc 149, 2) := by decide +kernel
theorem dX8_mark_13 : decode cX8_mark 13 = .ok (.ireturn, 1) := by decide +kernel
theorem dX8_mark_14 : decode cX8_mark 14 = .ok (.iload_n 1, 1) := by decide +kernel
theorem dX8_mark_15 : decode cX8_mark 15 = .ok (.tableswitch 73 0 5 #[37, 43, 49, 55, 61, 67], 37) := by decide +kernel
theorem dX8_mark_52 : decode cX8_mark 52 = .ok (.aload_n 0, 1) := by decide +kernel
theorem dX8_mark_53 : decode cX8_mark 53 = .ok (.iload_n 2, 1) := by decide +kernel
theorem dX8_mark_54 : decode cX8_mark 54 = .ok (.invokevirtual 277, 3) := by decide +kernel
theorem dX8_mark_57 : decode cX8_mark 57 = .ok (.ireturn, 1) := by decide +kernel
theorem dX8_mark_58 : decode cX8_mark 58 = .ok (.aload_n 0, 1) := by decide +kernel
theorem dX8_mark_59 : decode cX8_mark 59 = .ok (.iload_n 2, 1) := by decide +kernel
theorem dX8_mark_60 : decode cX8_mark 60 = .ok (.invokevirtual 280, 3) := by decide +kernel
theorem dX8_mark_63 : decode cX8_mark 63 = .ok (.ireturn, 1) := by decide +kernel
theorem dX8_mark_64 : decode cX8_mark 64 = .ok (.aload_n 0, 1) := by decide +kernel
theorem dX8_mark_65 : decode cX8_mark 65 = .ok (.iload_n 2, 1) := by decide +kernel
theorem dX8_mark_66 : decode cX8_mark 66 = .ok (.invokevirtual 283, 3) := by decide +kernel
theorem dX8_mark_69 : decode cX8_mark 69 = .ok (.ireturn, 1) := by decide +kernel
theorem dX8_mark_70 : decode cX8_mark 70 = .ok (.aload_n 0, 1) := by decide +kernel
theorem dX8_mark_71 : decode cX8_mark 71 = .ok (.iload_n 2, 1) := by decide +kernel
theorem dX8_mark_72 : decode cX8_mark 72 = .ok (.invokevirtual 286, 3) := by decide +kernel
theorem dX8_mark_75 : decode cX8_mark 75 = .ok (.ireturn, 1) := by decide +kernel
theorem dX8_mark_76 : decode cX8_mark 76 = .ok (.aload_n 0, 1) := by decide +kernel
theorem dX8_mark_77 : decode cX8_mark 77 = .ok (.iload_n 2, 1) := by decide +kernel
theorem dX8_mark_78 : decode cX8_mark 78 = .ok (.invokevirtual 289, 3) := by decide +kernel
theorem dX8_mark_81 : decode cX8_mark 81 = .ok (.ireturn, 1) := by decide +kernel
theorem dX8_mark_82 : decode cX8_mark 82 = .ok (.aload_n 0, 1) := by decide +kernel
theorem dX8_mark_83 : decode cX8_mark 83 = .ok (.iload_n 2, 1) := by decide +kernel
theorem dX8_mark_84 : decode cX8_mark 84 = .ok (.invokevirtual 292, 3) := by decide +kernel
theorem dX8_mark_87 : decode cX8_mark 87 = .ok (.ireturn, 1) := by decide +kernel
theorem dX8_mark_88 : decode cX8_mark 88 = .ok (.ldc 149, 2) := by decide +kernel
theorem dX8_mark_90 : decode cX8_mark 90 = .ok (.ireturn, 1) := by decide +kernel
theorem dX8_keep_0 : decode cX8_keep 0 = .ok (.iload_n 1, 1) := by decide +kernel
theorem dX8_keep_1 : decode cX8_keep 1 = .ok (.iconst 0, 1) := by decide +kernel
theorem dX8_keep_2 : decode cX8_keep 2 = .ok (.iconst 1, 1) := by decide +kernel
theorem dX8_keep_3 : decode cX8_keep 3 = .ok (.invokestatic 67, 3) := by decide +kernel
theorem dX8_keep_6 : decode cX8_keep 6 = .ok (.ifCond .ne 5, 3) := by decide +kernel
theorem dX8_keep_9 : decode cX8_keep 9 = .ok (.iconst (-1), 1) := by decide +kernel
theorem dX8_keep_10 : decode cX8_keep 10 = .ok (.ireturn, 1) := by decide +kernel
theorem dX8_keep_11 : decode cX8_keep 11 = .ok (.aload_n 0, 1) := by decide +kernel
theorem dX8_keep_12 : decode cX8_keep 12 = .ok (.iload_n 1, 1) := by decide +kernel
theorem dX8_keep_13 : decode cX8_keep 13 = .ok (.invokevirtual 295, 3) := by decide +kernel
theorem dX8_keep_16 : decode cX8_keep 16 = .ok (.aload_n 0, 1) := by decide +kernel
theorem dX8_keep_17 : decode cX8_keep 17 = .ok (.getfield 29, 3) := by decide +kernel
theorem dX8_keep_20 : decode cX8_keep 20 = .ok (.invokevirtual 299, 3) := by decide +kernel
theorem dX8_keep_23 : decode cX8_keep 23 = .ok (.aload_n 0, 1) := by decide +kernel
theorem dX8_keep_24 : decode cX8_keep 24 = .ok (.dup, 1) := by decide +kernel
theorem dX8_keep_25 : decode cX8_keep 25 = .ok (.getfield 97, 3) := by decide +kernel
theorem dX8_keep_28 : decode cX8_keep 28 = .ok (.iconst 1, 1) := by decide +kernel
theorem dX8_keep_29 : decode cX8_keep 29 = .ok (.iload_n 1, 1) := by decide +kernel
theorem dX8_keep_30 : decode cX8_keep 30 = .ok (.ishl, 1) := by decide +kernel
theorem dX8_keep_31 : decode cX8_keep 31 = .ok (.ior, 1) := by decide +kernel
theorem dX8_keep_32 : decode cX8_keep 32 = .ok (.putfield 97, 3) := by decide +kernel
theorem dX8_keep_35 : decode cX8_keep 35 = .ok (.aload_n 0, 1) := by decide +kernel
theorem dX8_keep_36 : decode cX8_keep 36 = .ok (.getfield 29, 3) := by decide +kernel
theorem dX8_keep_39 : decode cX8_keep 39 = .ok (.getfield 123, 3) := by decide +kernel
theorem dX8_keep_42 : decode cX8_keep 42 = .ok (.invokevirtual 233, 3) := by decide +kernel
theorem dX8_keep_45 : decode cX8_keep 45 = .ok (.ireturn, 1) := by decide +kernel
theorem dX8_back_0 : decode cX8_back 0 = .ok (.iload_n 1, 1) := by decide +kernel
theorem dX8_back_1 : decode cX8_back 1 = .ok (.iconst 0, 1) := by decide +kernel
theorem dX8_back_2 : decode cX8_back 2 = .ok (.iconst 1, 1) := by decide +kernel
theorem dX8_back_3 : decode cX8_back 3 = .ok (.invokestatic 67, 3) := by decide +kernel
theorem dX8_back_6 : decode cX8_back 6 = .ok (.ifCond .ne 5, 3) := by decide +kernel
theorem dX8_back_9 : decode cX8_back 9 = .ok (.iconst (-1), 1) := by decide +kernel
theorem dX8_back_10 : decode cX8_back 10 = .ok (.ireturn, 1) := by decide +kernel
theorem dX8_back_11 : decode cX8_back 11 = .ok (.aload_n 0, 1) := by decide +kernel
theorem dX8_back_12 : decode cX8_back 12 = .ok (.getfield 97, 3) := by decide +kernel
theorem dX8_back_15 : decode cX8_back 15 = .ok (.iload_n 1, 1) := by decide +kernel
theorem dX8_back_16 : decode cX8_back 16 = .ok (.invokestatic 303, 3) := by decide +kernel
theorem dX8_back_19 : decode cX8_back 19 = .ok (.ifCond .ne 6, 3) := by decide +kernel
theorem dX8_back_22 : decode cX8_back 22 = .ok (.bipush (-2), 2) := by decide +kernel
theorem dX8_back_24 : decode cX8_back 24 = .ok (.ireturn, 1) := by decide +kernel
theorem dX8_back_25 : decode cX8_back 25 = .ok (.aload_n 0, 1) := by decide +kernel
theorem dX8_back_26 : decode cX8_back 26 = .ok (.getfield 29, 3) := by decide +kernel
theorem dX8_back_29 : decode cX8_back 29 = .ok (.aload_n 0, 1) := by decide +kernel
theorem dX8_back_30 : decode cX8_back 30 = .ok (.iload_n 1, 1) := by decide +kernel
theorem dX8_back_31 : decode cX8_back 31 = .ok (.invokevirtual 295, 3) := by decide +kernel
theorem dX8_back_34 : decode cX8_back 34 = .ok (.invokevirtual 299, 3) := by decide +kernel
theorem dX8_back_37 : decode cX8_back 37 = .ok (.aload_n 0, 1) := by decide +kernel
theorem dX8_back_38 : decode cX8_back 38 = .ok (.getfield 29, 3) := by decide +kernel
theorem dX8_back_41 : decode cX8_back 41 = .ok (.getfield 123, 3) := by decide +kernel
theorem dX8_back_44 : decode cX8_back 44 = .ok (.invokevirtual 233, 3) := by decide +kernel
theorem dX8_back_47 : decode cX8_back 47 = .ok (.ireturn, 1) := by decide +kernel
theorem dX8_count_0 : decode cX8_count 0 = .ok (.iload_n 1, 1) := by decide +kernel
theorem dX8_count_1 : decode cX8_count 1 = .ok (.tableswitch 87 0 5 #[39, 47, 55, 63, 71, 79], 39) := by decide +kernel
theorem dX8_count_40 : decode cX8_count 40 = .ok (.aload_n 0, 1) := by decide +kernel
theorem dX8_count_41 : decode cX8_count 41 = .ok (.getfield 19, 3) := by decide +kernel
theorem dX8_count_44 : decode cX8_count 44 = .ok (.getfield 208, 3) := by decide +kernel
theorem dX8_count_47 : decode cX8_count 47 = .ok (.ireturn, 1) := by decide +kernel
theorem dX8_count_48 : decode cX8_count 48 = .ok (.aload_n 0, 1) := by decide +kernel
theorem dX8_count_49 : decode cX8_count 49 = .ok (.getfield 19, 3) := by decide +kernel
theorem dX8_count_52 : decode cX8_count 52 = .ok (.getfield 306, 3) := by decide +kernel
theorem dX8_count_55 : decode cX8_count 55 = .ok (.ireturn, 1) := by decide +kernel
theorem dX8_count_56 : decode cX8_count 56 = .ok (.aload_n 0, 1) := by decide +kernel
theorem dX8_count_57 : decode cX8_count 57 = .ok (.getfield 19, 3) := by decide +kernel
theorem dX8_count_60 : decode cX8_count 60 = .ok (.getfield 309, 3) := by decide +kernel
theorem dX8_count_63 : decode cX8_count 63 = .ok (.ireturn, 1) := by decide +kernel
theorem dX8_count_64 : decode cX8_count 64 = .ok (.aload_n 0, 1) := by decide +kernel
theorem dX8_count_65 : decode cX8_count 65 = .ok (.getfield 42, 3) := by decide +kernel
theorem dX8_count_68 : decode cX8_count 68 = .ok (.getfield 270, 3) := by decide +kernel
theorem dX8_count_71 : decode cX8_count 71 = .ok (.ireturn, 1) := by decide +kernel
theorem dX8_count_72 : decode cX8_count 72 = .ok (.aload_n 0, 1) := by decide +kernel
theorem dX8_count_73 : decode cX8_count 73 = .ok (.getfield 29, 3) := by decide +kernel
theorem dX8_count_76 : decode cX8_count 76 = .ok (.getfield 230, 3) := by decide +kernel
theorem dX8_count_79 : decode cX8_count 79 = .ok (.ireturn, 1) := by decide +kernel
theorem dX8_count_80 : decode cX8_count 80 = .ok (.aload_n 0, 1) := by decide +kernel
theorem dX8_count_81 : decode cX8_count 81 = .ok (.getfield 10, 3) := by decide +kernel
theorem dX8_count_84 : decode cX8_count 84 = .ok (.invokevirtual 75, 3) := by decide +kernel
theorem dX8_count_87 : decode cX8_count 87 = .ok (.ireturn, 1) := by decide +kernel
theorem dX8_count_88 : decode cX8_count 88 = .ok (.iconst (-1), 1) := by decide +kernel
theorem dX8_count_89 : decode cX8_count 89 = .ok (.ireturn, 1) := by decide +kernel
theorem dX8_trace_0 : decode cX8_trace 0 = .ok (.aload_n 0, 1) := by decide +kernel
theorem dX8_trace_1 : decode cX8_trace 1 = .ok (.getfield 312, 3) := by decide +kernel
theorem dX8_trace_4 : decode cX8_trace 4 = .ok (.lreturn, 1) := by decide +kernel
theorem dX8_within_0 : decode cX8_within 0 = .ok (.iload_n 1, 1) := by decide +kernel
theorem dX8_within_1 : decode cX8_within 1 = .ok (.iload_n 0, 1) := by decide +kernel
theorem dX8_within_2 : decode cX8_within 2 = .ok (.if_icmp .gt 12, 3) := by decide +kernel
theorem dX8_within_5 : decode cX8_within 5 = .ok (.iload_n 0, 1) := by decide +kernel
theorem dX8_within_6 : decode cX8_within 6 = .ok (.iload_n 2, 1) := by decide +kernel
theorem dX8_within_7 : decode cX8_within 7 = .ok (.if_icmp .gt 7, 3) := by decide +kernel
theorem dX8_within_10 : decode cX8_within 10 = .ok (.iconst 1, 1) := by decide +kernel
theorem dX8_within_11 : decode cX8_within 11 = .ok (.goto 4, 3) := by decide +kernel
theorem dX8_within_14 : decode cX8_within 14 = .ok (.iconst 0, 1) := by decide +kernel
theorem dX8_within_15 : decode cX8_within 15 = .ok (.ireturn, 1) := by decide +kernel
theorem dX8_hasBit_0 : decode cX8_hasBit 0 = .ok (.iload_n 0, 1) := by decide +kernel
theorem dX8_hasBit_1 : decode cX8_hasBit 1 = .ok (.iload_n 1, 1) := by decide +kernel
theorem dX8_hasBit_2 : decode cX8_hasBit 2 = .ok (.ishr, 1) := by decide +kernel
theorem dX8_hasBit_3 : decode cX8_hasBit 3 = .ok (.iconst 1, 1) := by decide +kernel
theorem dX8_hasBit_4 : decode cX8_hasBit 4 = .ok (.iand, 1) := by decide +kernel
theorem dX8_hasBit_5 : decode cX8_hasBit 5 = .ok (.iconst 1, 1) := by decide +kernel
theorem dX8_hasBit_6 : decode cX8_hasBit 6 = .ok (.if_icmp .ne 7, 3) := by decide +kernel
theorem dX8_hasBit_9 : decode cX8_hasBit 9 = .ok (.iconst 1, 1) := by decide +kernel
theorem dX8_hasBit_10 : decode cX8_hasBit 10 = .ok (.goto 4, 3) := by decide +kernel
theorem dX8_hasBit_13 : decode cX8_hasBit 13 = .ok (.iconst 0, 1) := by decide +kernel
theorem dX8_hasBit_14 : decode cX8_hasBit 14 = .ok (.ireturn, 1) := by decide +kernel
theorem dX8_canBorrow_0 : decode cX8_canBorrow 0 = .ok (.aload_n 0, 1) := by decide +kernel
theorem dX8_canBorrow_1 : decode cX8_canBorrow 1 = .ok (.getfield 29, 3) := by decide +kernel
theorem dX8_canBorrow_4 : decode cX8_canBorrow 4 = .ok (.getfield 123, 3) := by decide +kernel
theorem dX8_canBorrow_7 : decode cX8_canBorrow 7 = .ok (.astore_n 3, 1) := by decide +kernel
theorem dX8_canBorrow_8 : decode cX8_canBorrow 8 = .ok (.aload_n 3, 1) := by decide +kernel
theorem dX8_canBorrow_9 : decode cX8_canBorrow 9 = .ok (.iload_n 1, 1) := by decide +kernel
theorem dX8_canBorrow_10 : decode cX8_canBorrow 10 = .ok (.invokevirtual 140, 3) := by decide +kernel
theorem dX8_canBorrow_13 : decode cX8_canBorrow 13 = .ok (.ifCond .eq 24, 3) := by decide +kernel
theorem dX8_canBorrow_16 : decode cX8_canBorrow 16 = .ok (.aload_n 3, 1) := by decide +kernel
theorem dX8_canBorrow_17 : decode cX8_canBorrow 17 = .ok (.iload_n 1, 1) := by decide +kernel
theorem dX8_canBorrow_18 : decode cX8_canBorrow 18 = .ok (.aload_n 3, 1) := by decide +kernel
theorem dX8_canBorrow_19 : decode cX8_canBorrow 19 = .ok (.iload_n 1, 1) := by decide +kernel
theorem dX8_canBorrow_20 : decode cX8_canBorrow 20 = .ok (.invokevirtual 126, 3) := by decide +kernel
theorem dX8_canBorrow_23 : decode cX8_canBorrow 23 = .ok (.invokevirtual 162, 3) := by decide +kernel
theorem dX8_canBorrow_26 : decode cX8_canBorrow 26 = .ok (.iload_n 2, 1) := by decide +kernel
theorem dX8_canBorrow_27 : decode cX8_canBorrow 27 = .ok (.iadd, 1) := by decide +kernel
theorem dX8_canBorrow_28 : decode cX8_canBorrow 28 = .ok (.bipush 99, 2) := by decide +kernel
theorem dX8_canBorrow_30 : decode cX8_canBorrow 30 = .ok (.if_icmp .gt 7, 3) := by decide +kernel
theorem dX8_canBorrow_33 : decode cX8_canBorrow 33 = .ok (.iconst 1, 1) := by decide +kernel
theorem dX8_canBorrow_34 : decode cX8_canBorrow 34 = .ok (.goto 4, 3) := by decide +kernel
theorem dX8_canBorrow_37 : decode cX8_canBorrow 37 = .ok (.iconst 0, 1) := by decide +kernel
theorem dX8_canBorrow_38 : decode cX8_canBorrow 38 = .ok (.ireturn, 1) := by decide +kernel
theorem dX8_borrow_0 : decode cX8_borrow 0 = .ok (.aload_n 0, 1) := by decide +kernel
theorem dX8_borrow_1 : decode cX8_borrow 1 = .ok (.getfield 29, 3) := by decide +kernel
theorem dX8_borrow_4 : decode cX8_borrow 4 = .ok (.getfield 123, 3) := by decide +kernel
theorem dX8_borrow_7 : decode cX8_borrow 7 = .ok (.astore_n 3, 1) := by decide +kernel
theorem dX8_borrow_8 : decode cX8_borrow 8 = .ok (.aload_n 3, 1) := by decide +kernel
theorem dX8_borrow_9 : decode cX8_borrow 9 = .ok (.iload_n 1, 1) := by decide +kernel
theorem dX8_borrow_10 : decode cX8_borrow 10 = .ok (.invokevirtual 126, 3) := by decide +kernel
theorem dX8_borrow_13 : decode cX8_borrow 13 = .ok (.istore 4, 2) := by decide +kernel
theorem dX8_borrow_15 : decode cX8_borrow 15 = .ok (.aload_n 3, 1) := by decide +kernel
theorem dX8_borrow_16 : decode cX8_borrow 16 = .ok (.iload_n 1, 1) := by decide +kernel
theorem dX8_borrow_17 : decode cX8_borrow 17 = .ok (.iload 4, 2) := by decide +kernel
theorem dX8_borrow_19 : decode cX8_borrow 19 = .ok (.invokevirtual 162, 3) := by decide +kernel
theorem dX8_borrow_22 : decode cX8_borrow 22 = .ok (.iload_n 2, 1) := by decide +kernel
theorem dX8_borrow_23 : decode cX8_borrow 23 = .ok (.iadd, 1) := by decide +kernel
theorem dX8_borrow_24 : decode cX8_borrow 24 = .ok (.istore 5, 2) := by decide +kernel
theorem dX8_borrow_26 : decode cX8_borrow 26 = .ok (.aload_n 3, 1) := by decide +kernel
theorem dX8_borrow_27 : decode cX8_borrow 27 = .ok (.iload_n 1, 1) := by decide +kernel
theorem dX8_borrow_28 : decode cX8_borrow 28 = .ok (.iload 4, 2) := by decide +kernel
theorem dX8_borrow_30 : decode cX8_borrow 30 = .ok (.iload 5, 2) := by decide +kernel
theorem dX8_borrow_32 : decode cX8_borrow 32 = .ok (.invokevirtual 197, 3) := by decide +kernel
theorem dX8_borrow_35 : decode cX8_borrow 35 = .ok (.iload 5, 2) := by decide +kernel
theorem dX8_borrow_37 : decode cX8_borrow 37 = .ok (.ireturn, 1) := by decide +kernel
theorem dX8_chancesAlive_0 : decode cX8_chancesAlive 0 = .ok (.iload_n 1, 1) := by decide +kernel
theorem dX8_chancesAlive_1 : decode cX8_chancesAlive 1 = .ok (.ifCond .ge 5, 3) := by decide +kernel
theorem dX8_chancesAlive_4 : decode cX8_chancesAlive 4 = .ok (.iconst 0, 1) := by decide +kernel
theorem dX8_chancesAlive_5 : decode cX8_chancesAlive 5 = .ok (.ireturn, 1) := by decide +kernel
theorem dX8_chancesAlive_6 : decode cX8_chancesAlive 6 = .ok (.iload_n 0, 1) := by decide +kernel
theorem dX8_chancesAlive_7 : decode cX8_chancesAlive 7 = .ok (.ifCond .gt 5, 3) := by decide +kernel
theorem dX8_chancesAlive_10 : decode cX8_chancesAlive 10 = .ok (.iconst 1, 1) := by decide +kernel
theorem dX8_chancesAlive_11 : decode cX8_chancesAlive 11 = .ok (.ireturn, 1) := by decide +kernel
theorem dX8_chancesAlive_12 : decode cX8_chancesAlive 12 = .ok (.iload 4, 2) := by decide +kernel
theorem dX8_chancesAlive_14 : decode cX8_chancesAlive 14 = .ok (.iload_n 0, 1) := by decide +kernel
theorem dX8_chancesAlive_15 : decode cX8_chancesAlive 15 = .ok (.iconst 1, 1) := by decide +kernel
theorem dX8_chancesAlive_16 : decode cX8_chancesAlive 16 = .ok (.isub, 1) := by decide +kernel
theorem dX8_chancesAlive_17 : decode cX8_chancesAlive 17 = .ok (.iload_n 1, 1) := by decide +kernel
theorem dX8_chancesAlive_18 : decode cX8_chancesAlive 18 = .ok (.iload_n 2, 1) := by decide +kernel
theorem dX8_chancesAlive_19 : decode cX8_chancesAlive 19 = .ok (.isub, 1) := by decide +kernel
theorem dX8_chancesAlive_20 : decode cX8_chancesAlive 20 = .ok (.iload_n 3, 1) := by decide +kernel
theorem dX8_chancesAlive_21 : decode cX8_chancesAlive 21 = .ok (.isub, 1) := by decide +kernel
theorem dX8_chancesAlive_22 : decode cX8_chancesAlive 22 = .ok (.iload_n 2, 1) := by decide +kernel
theorem dX8_chancesAlive_23 : decode cX8_chancesAlive 23 = .ok (.iload_n 3, 1) := by decide +kernel
theorem dX8_chancesAlive_24 : decode cX8_chancesAlive 24 = .ok (.iload 4, 2) := by decide +kernel
theorem dX8_chancesAlive_26 : decode cX8_chancesAlive 26 = .ok (.invokestatic 264, 3) := by decide +kernel
theorem dX8_chancesAlive_29 : decode cX8_chancesAlive 29 = .ok (.imul, 1) := by decide +kernel
theorem dX8_chancesAlive_30 : decode cX8_chancesAlive 30 = .ok (.bipush 10, 2) := by decide +kernel
theorem dX8_chancesAlive_32 : decode cX8_chancesAlive 32 = .ok (.iload 4, 2) := by decide +kernel
theorem dX8_chancesAlive_34 : decode cX8_chancesAlive 34 = .ok (.isub, 1) := by decide +kernel
theorem dX8_chancesAlive_35 : decode cX8_chancesAlive 35 = .ok (.iload_n 0, 1) := by decide +kernel
theorem dX8_chancesAlive_36 : decode cX8_chancesAlive 36 = .ok (.iconst 1, 1) := by decide +kernel
theorem dX8_chancesAlive_37 : decode cX8_chancesAlive 37 = .ok (.isub, 1) := by decide +kernel
theorem dX8_chancesAlive_38 : decode cX8_chancesAlive 38 = .ok (.iload_n 1, 1) := by decide +kernel
theorem dX8_chancesAlive_39 : decode cX8_chancesAlive 39 = .ok (.iload_n 2, 1) := by decide +kernel
theorem dX8_chancesAlive_40 : decode cX8_chancesAlive 40 = .ok (.isub, 1) := by decide +kernel
theorem dX8_chancesAlive_41 : decode cX8_chancesAlive 41 = .ok (.iload_n 2, 1) := by decide +kernel
theorem dX8_chancesAlive_42 : decode cX8_chancesAlive 42 = .ok (.iload_n 3, 1) := by decide +kernel
theorem dX8_chancesAlive_43 : decode cX8_chancesAlive 43 = .ok (.iload 4, 2) := by decide +kernel
theorem dX8_chancesAlive_45 : decode cX8_chancesAlive 45 = .ok (.invokestatic 264, 3) := by decide +kernel
theorem dX8_chancesAlive_48 : decode cX8_chancesAlive 48 = .ok (.imul, 1) := by decide +kernel
theorem dX8_chancesAlive_49 : decode cX8_chancesAlive 49 = .ok (.iadd, 1) := by decide +kernel
theorem dX8_chancesAlive_50 : decode cX8_chancesAlive 50 = .ok (.ireturn, 1) := by decide +kernel
theorem dX8_markAsWell_0 : decode cX8_markAsWell 0 = .ok (.aload_n 0, 1) := by decide +kernel
theorem dX8_markAsWell_1 : decode cX8_markAsWell 1 = .ok (.dup, 1) := by decide +kernel
theorem dX8_markAsWell_2 : decode cX8_markAsWell 2 = .ok (.getfield 312, 3) := by decide +kernel
theorem dX8_markAsWell_5 : decode cX8_markAsWell 5 = .ok (.lconst 1, 1) := by decide +kernel
theorem dX8_markAsWell_6 : decode cX8_markAsWell 6 = .ok (.ladd, 1) := by decide +kernel
theorem dX8_markAsWell_7 : decode cX8_markAsWell 7 = .ok (.putfield 312, 3) := by decide +kernel
theorem dX8_markAsWell_10 : decode cX8_markAsWell 10 = .ok (.aload_n 0, 1) := by decide +kernel
theorem dX8_markAsWell_11 : decode cX8_markAsWell 11 = .ok (.getfield 29, 3) := by decide +kernel
theorem dX8_markAsWell_14 : decode cX8_markAsWell 14 = .ok (.getfield 123, 3) := by decide +kernel
theorem dX8_markAsWell_17 : decode cX8_markAsWell 17 = .ok (.iload_n 1, 1) := by decide +kernel
theorem dX8_markAsWell_18 : decode cX8_markAsWell 18 = .ok (.invokevirtual 153, 3) := by decide +kernel
theorem dX8_markAsWell_21 : decode cX8_markAsWell 21 = .ok (.ireturn, 1) := by decide +kernel
theorem dX8_markAsKnot_0 : decode cX8_markAsKnot 0 = .ok (.aload_n 0, 1) := by decide +kernel
theorem dX8_markAsKnot_1 : decode cX8_markAsKnot 1 = .ok (.dup, 1) := by decide +kernel
theorem dX8_markAsKnot_2 : decode cX8_markAsKnot 2 = .ok (.getfield 312, 3) := by decide +kernel
theorem dX8_markAsKnot_5 : decode cX8_markAsKnot 5 = .ok (.ldc2_w 316, 3) := by decide +kernel
theorem dX8_markAsKnot_8 : decode cX8_markAsKnot 8 = .ok (.ladd, 1) := by decide +kernel
theorem dX8_markAsKnot_9 : decode cX8_markAsKnot 9 = .ok (.putfield 312, 3) := by decide +kernel
theorem dX8_markAsKnot_12 : decode cX8_markAsKnot 12 = .ok (.aload_n 0, 1) := by decide +kernel
theorem dX8_markAsKnot_13 : decode cX8_markAsKnot 13 = .ok (.iload_n 1, 1) := by decide +kernel
theorem dX8_markAsKnot_14 : decode cX8_markAsKnot 14 = .ok (.invokevirtual 277, 3) := by decide +kernel
theorem dX8_markAsKnot_17 : decode cX8_markAsKnot 17 = .ok (.aload_n 0, 1) := by decide +kernel
theorem dX8_markAsKnot_18 : decode cX8_markAsKnot 18 = .ok (.getfield 19, 3) := by decide +kernel
theorem dX8_markAsKnot_21 : decode cX8_markAsKnot 21 = .ok (.iload_n 1, 1) := by decide +kernel
theorem dX8_markAsKnot_22 : decode cX8_markAsKnot 22 = .ok (.invokevirtual 318, 3) := by decide +kernel
theorem dX8_markAsKnot_25 : decode cX8_markAsKnot 25 = .ok (.iadd, 1) := by decide +kernel
theorem dX8_markAsKnot_26 : decode cX8_markAsKnot 26 = .ok (.ireturn, 1) := by decide +kernel
theorem dX8_markAsDew_0 : decode cX8_markAsDew 0 = .ok (.aload_n 0, 1) := by decide +kernel
theorem dX8_markAsDew_1 : decode cX8_markAsDew 1 = .ok (.dup, 1) := by decide +kernel
theorem dX8_markAsDew_2 : decode cX8_markAsDew 2 = .ok (.getfield 312, 3) := by decide +kernel
theorem dX8_markAsDew_5 : decode cX8_markAsDew 5 = .ok (.ldc2_w 321, 3) := by decide +kernel
theorem dX8_markAsDew_8 : decode cX8_markAsDew 8 = .ok (.ladd, 1) := by decide +kernel
theorem dX8_markAsDew_9 : decode cX8_markAsDew 9 = .ok (.putfield 312, 3) := by decide +kernel
theorem dX8_markAsDew_12 : decode cX8_markAsDew 12 = .ok (.aload_n 0, 1) := by decide +kernel
theorem dX8_markAsDew_13 : decode cX8_markAsDew 13 = .ok (.iload_n 1, 1) := by decide +kernel
theorem dX8_markAsDew_14 : decode cX8_markAsDew 14 = .ok (.invokevirtual 277, 3) := by decide +kernel
theorem dX8_markAsDew_17 : decode cX8_markAsDew 17 = .ok (.aload_n 0, 1) := by decide +kernel
theorem dX8_markAsDew_18 : decode cX8_markAsDew 18 = .ok (.getfield 29, 3) := by decide +kernel
theorem dX8_markAsDew_21 : decode cX8_markAsDew 21 = .ok (.getfield 123, 3) := by decide +kernel
theorem dX8_markAsDew_24 : decode cX8_markAsDew 24 = .ok (.iload_n 1, 1) := by decide +kernel
theorem dX8_markAsDew_25 : decode cX8_markAsDew 25 = .ok (.invokevirtual 156, 3) := by decide +kernel
theorem dX8_markAsDew_28 : decode cX8_markAsDew 28 = .ok (.isub, 1) := by decide +kernel
theorem dX8_markAsDew_29 : decode cX8_markAsDew 29 = .ok (.ireturn, 1) := by decide +kernel
theorem dX8_markAsChild_0 : decode cX8_markAsChild 0 = .ok (.aload_n 0, 1) := by decide +kernel
theorem dX8_markAsChild_1 : decode cX8_markAsChild 1 = .ok (.dup, 1) := by decide +kernel
theorem dX8_markAsChild_2 : decode cX8_markAsChild 2 = .ok (.getfield 312, 3) := by decide +kernel
theorem dX8_markAsChild_5 : decode cX8_markAsChild 5 = .ok (.ldc2_w 323, 3) := by decide +kernel
theorem dX8_markAsChild_8 : decode cX8_markAsChild 8 = .ok (.ladd, 1) := by decide +kernel
theorem dX8_markAsChild_9 : decode cX8_markAsChild 9 = .ok (.putfield 312, 3) := by decide +kernel
theorem dX8_markAsChild_12 : decode cX8_markAsChild 12 = .ok (.aload_n 0, 1) := by decide +kernel
theorem dX8_markAsChild_13 : decode cX8_markAsChild 13 = .ok (.iload_n 1, 1) := by decide +kernel
theorem dX8_markAsChild_14 : decode cX8_markAsChild 14 = .ok (.invokevirtual 280, 3) := by decide +kernel
theorem dX8_markAsChild_17 : decode cX8_markAsChild 17 = .ok (.iconst 2, 1) := by decide +kernel
theorem dX8_markAsChild_18 : decode cX8_markAsChild 18 = .ok (.imul, 1) := by decide +kernel
theorem dX8_markAsChild_19 : decode cX8_markAsChild 19 = .ok (.ireturn, 1) := by decide +kernel
theorem dX8_markAsCamel_0 : decode cX8_markAsCamel 0 = .ok (.aload_n 0, 1) := by decide +kernel
theorem dX8_markAsCamel_1 : decode cX8_markAsCamel 1 = .ok (.dup, 1) := by decide +kernel
theorem dX8_markAsCamel_2 : decode cX8_markAsCamel 2 = .ok (.getfield 312, 3) := by decide +kernel
theorem dX8_markAsCamel_5 : decode cX8_markAsCamel 5 = .ok (.ldc2_w 325, 3) := by decide +kernel
theorem dX8_markAsCamel_8 : decode cX8_markAsCamel 8 = .ok (.ladd, 1) := by decide +kernel
theorem dX8_markAsCamel_9 : decode cX8_markAsCamel 9 = .ok (.putfield 312, 3) := by decide +kernel
theorem dX8_markAsCamel_12 : decode cX8_markAsCamel 12 = .ok (.aload_n 0, 1) := by decide +kernel
theorem dX8_markAsCamel_13 : decode cX8_markAsCamel 13 = .ok (.iload_n 1, 1) := by decide +kernel
theorem dX8_markAsCamel_14 : decode cX8_markAsCamel 14 = .ok (.invokevirtual 283, 3) := by decide +kernel
theorem dX8_markAsCamel_17 : decode cX8_markAsCamel 17 = .ok (.iload_n 1, 1) := by decide +kernel
theorem dX8_markAsCamel_18 : decode cX8_markAsCamel 18 = .ok (.iadd, 1) := by decide +kernel
theorem dX8_markAsCamel_19 : decode cX8_markAsCamel 19 = .ok (.ireturn, 1) := by decide +kernel
theorem dX8_markAsMirage_0 : decode cX8_markAsMirage 0 = .ok (.aload_n 0, 1) := by decide +kernel
theorem dX8_markAsMirage_1 : decode cX8_markAsMirage 1 = .ok (.dup, 1) := by decide +kernel
theorem dX8_markAsMirage_2 : decode cX8_markAsMirage 2 = .ok (.getfield 312, 3) := by decide +kernel
theorem dX8_markAsMirage_5 : decode cX8_markAsMirage 5 = .ok (.ldc2_w 327, 3) := by decide +kernel
theorem dX8_markAsMirage_8 : decode cX8_markAsMirage 8 = .ok (.ladd, 1) := by decide +kernel
theorem dX8_markAsMirage_9 : decode cX8_markAsMirage 9 = .ok (.putfield 312, 3) := by decide +kernel
theorem dX8_markAsMirage_12 : decode cX8_markAsMirage 12 = .ok (.aload_n 0, 1) := by decide +kernel
theorem dX8_markAsMirage_13 : decode cX8_markAsMirage 13 = .ok (.iload_n 1, 1) := by decide +kernel
theorem dX8_markAsMirage_14 : decode cX8_markAsMirage 14 = .ok (.invokevirtual 277, 3) := by decide +kernel
theorem dX8_markAsMirage_17 : decode cX8_markAsMirage 17 = .ok (.aload_n 0, 1) := by decide +kernel
theorem dX8_markAsMirage_18 : decode cX8_markAsMirage 18 = .ok (.getfield 29, 3) := by decide +kernel
theorem dX8_markAsMirage_21 : decode cX8_markAsMirage 21 = .ok (.getfield 123, 3) := by decide +kernel
theorem dX8_markAsMirage_24 : decode cX8_markAsMirage 24 = .ok (.invokevirtual 233, 3) := by decide +kernel
theorem dX8_markAsMirage_27 : decode cX8_markAsMirage 27 = .ok (.iadd, 1) := by decide +kernel
theorem dX8_markAsMirage_28 : decode cX8_markAsMirage 28 = .ok (.ireturn, 1) := by decide +kernel
theorem dX8_imageOf_0 : decode cX8_imageOf 0 = .ok (.iload_n 1, 1) := by decide +kernel
theorem dX8_imageOf_1 : decode cX8_imageOf 1 = .ok (.ifCond .ne 10, 3) := by decide +kernel
theorem dX8_imageOf_4 : decode cX8_imageOf 4 = .ok (.aload_n 0, 1) := by decide +kernel
theorem dX8_imageOf_5 : decode cX8_imageOf 5 = .ok (.getfield 33, 3) := by decide +kernel
theorem dX8_imageOf_8 : decode cX8_imageOf 8 = .ok (.goto 7, 3) := by decide +kernel
theorem dX8_imageOf_11 : decode cX8_imageOf 11 = .ok (.aload_n 0, 1) := by decide +kernel
theorem dX8_imageOf_12 : decode cX8_imageOf 12 = .ok (.getfield 36, 3) := by decide +kernel
theorem dX8_imageOf_15 : decode cX8_imageOf 15 = .ok (.areturn, 1) := by decide +kernel
theorem dX9_init_0 : decode cX9_init 0 = .ok (.aload_n 0, 1) := by decide +kernel
theorem dX9_init_1 : decode cX9_init 1 = .ok (.invokespecial 1, 3) := by decide +kernel
theorem dX9_init_4 : decode cX9_init 4 = .ok (.aload_n 0, 1) := by decide +kernel
theorem dX9_init_5 : decode cX9_init 5 = .ok (.sipush 200, 3) := by decide +kernel
theorem dX9_init_8 : decode cX9_init 8 = .ok (.newarray .int, 2) := by decide +kernel
theorem dX9_init_10 : decode cX9_init 10 = .ok (.putfield 7, 3) := by decide +kernel
theorem dX9_init_13 : decode cX9_init 13 = .ok (.aload_n 0, 1) := by decide +kernel
theorem dX9_init_14 : decode cX9_init 14 = .ok (.bipush 54, 2) := by decide +kernel
theorem dX9_init_16 : decode cX9_init 16 = .ok (.newarray .int, 2) := by decide +kernel
theorem dX9_init_18 : decode cX9_init 18 = .ok (.putfield 13, 3) := by decide +kernel
theorem dX9_init_21 : decode cX9_init 21 = .ok (.aload_n 0, 1) := by decide +kernel
theorem dX9_init_22 : decode cX9_init 22 = .ok (.bipush 54, 2) := by decide +kernel
theorem dX9_init_24 : decode cX9_init 24 = .ok (.newarray .int, 2) := by decide +kernel
theorem dX9_init_26 : decode cX9_init 26 = .ok (.putfield 16, 3) := by decide +kernel
theorem dX9_init_29 : decode cX9_init 29 = .ok (.aload_n 0, 1) := by decide +kernel
theorem dX9_init_30 : decode cX9_init 30 = .ok (.bipush 74, 2) := by decide +kernel
theorem dX9_init_32 : decode cX9_init 32 = .ok (.newarray .int, 2) := by decide +kernel
theorem dX9_init_34 : decode cX9_init 34 = .ok (.putfield 19, 3) := by decide +kernel
theorem dX9_init_37 : decode cX9_init 37 = .ok (.aload_n 0, 1) := by decide +kernel
theorem dX9_init_38 : decode cX9_init 38 = .ok (.sipush 815, 3) := by decide +kernel
theorem dX9_init_41 : decode cX9_init 41 = .ok (.newarray .int, 2) := by decide +kernel
theorem dX9_init_43 : decode cX9_init 43 = .ok (.putfield 22, 3) := by decide +kernel
theorem dX9_init_46 : decode cX9_init 46 = .ok (.aload_n 0, 1) := by decide +kernel
theorem dX9_init_47 : decode cX9_init 47 = .ok (.sipush 1630, 3) := by decide +kernel
theorem dX9_init_50 : decode cX9_init 50 = .ok (.newarray .int, 2) := by decide +kernel
theorem dX9_init_52 : decode cX9_init 52 = .ok (.putfield 25, 3) := by decide +kernel
theorem dX9_init_55 : decode cX9_init 55 = .ok (.aload_n 0, 1) := by decide +kernel
theorem dX9_init_56 : decode cX9_init 56 = .ok (.iconst 2, 1) := by decide +kernel
theorem dX9_init_57 : decode cX9_init 57 = .ok (.newarray .boolean, 2) := by decide +kernel
theorem dX9_init_59 : decode cX9_init 59 = .ok (.putfield 28, 3) := by decide +kernel
theorem dX9_init_62 : decode cX9_init 62 = .ok (.aload_n 0, 1) := by decide +kernel
theorem dX9_init_63 : decode cX9_init 63 = .ok (.bipush 6, 2) := by decide +kernel
theorem dX9_init_65 : decode cX9_init 65 = .ok (.newarray .int, 2) := by decide +kernel
theorem dX9_init_67 : decode cX9_init 67 = .ok (.putfield 32, 3) := by decide +kernel
theorem dX9_init_70 : decode cX9_init 70 = .ok (.aload_n 0, 1) := by decide +kernel
theorem dX9_init_71 : decode cX9_init 71 = .ok (.bipush 6, 2) := by decide +kernel
theorem dX9_init_73 : decode cX9_init 73 = .ok (.newarray .int, 2) := by decide +kernel
theorem dX9_init_75 : decode cX9_init 75 = .ok (.putfield 35, 3) := by decide +kernel
theorem dX9_init_78 : decode cX9_init 78 = .ok (.aload_n 0, 1) := by decide +kernel
theorem dX9_init_79 : decode cX9_init 79 = .ok (.bipush 6, 2) := by decide +kernel
theorem dX9_init_81 : decode cX9_init 81 = .ok (.newarray .int, 2) := by decide +kernel
theorem dX9_init_83 : decode cX9_init 83 = .ok (.putfield 38, 3) := by decide +kernel
theorem dX9_init_86 : decode cX9_init 86 = .ok (.aload_n 0, 1) := by decide +kernel
theorem dX9_init_87 : decode cX9_init 87 = .ok (.bipush 64, 2) := by decide +kernel
theorem dX9_init_89 : decode cX9_init 89 = .ok (.newarray .int, 2) := by decide +kernel
theorem dX9_init_91 : decode cX9_init 91 = .ok (.putfield 41, 3) := by decide +kernel
theorem dX9_init_94 : decode cX9_init 94 = .ok (.aload_n 0, 1) := by decide +kernel
theorem dX9_init_95 : decode cX9_init 95 = .ok (.bipush 42, 2) := by decide +kernel
theorem dX9_init_97 : decode cX9_init 97 = .ok (.newarray .int, 2) := by decide +kernel
theorem dX9_init_99 : decode cX9_init 99 = .ok (.putfield 44, 3) := by decide +kernel
theorem dX9_init_102 : decode cX9_init 102 = .ok (.aload_n 0, 1) := by decide +kernel
theorem dX9_init_103 : decode cX9_init 103 = .ok (.invokevirtual 47, 3) := by decide +kernel
theorem dX9_init_106 : decode cX9_init 106 = .ok (.pop, 1) := by decide +kernel
theorem dX9_init_107 : decode cX9_init 107 = .ok (.aload_n 0, 1) := by decide +kernel
theorem dX9_init_108 : decode cX9_init 108 = .ok (.invokevirtual 51, 3) := by decide +kernel
theorem dX9_init_111 : decode cX9_init 111 = .ok (.return_, 1) := by decide +kernel
theorem dX9_in_0 : decode cX9_in 0 = .ok (.iload_n 0, 1) := by decide +kernel
theorem dX9_in_1 : decode cX9_in 1 = .ok (.iload_n 1, 1) := by decide +kernel
theorem dX9_in_2 : decode cX9_in 2 = .ok (.if_icmp .lt 12, 3) := by decide +kernel
theorem dX9_in_5 : decode cX9_in 5 = .ok (.iload_n 0, 1) := by decide +kernel
theorem dX9_in_6 : decode cX9_in 6 = .ok (.iload_n 2, 1) := by decide +kernel
theorem dX9_in_7 : decode cX9_in 7 = .ok (.if_icmp .gt 7, 3) := by decide +kernel
theorem dX9_in_10 : decode cX9_in 10 = .ok (.iconst 1, 1) := by decide +kernel
theorem dX9_in_11 : decode cX9_in 11 = .ok (.goto 4, 3) := by decide +kernel
theorem dX9_in_14 : decode cX9_in 14 = .ok (.iconst 0, 1) := by decide +kernel
theorem dX9_in_15 : decode cX9_in 15 = .ok (.ireturn, 1) := by decide +kernel
theorem dX9_has_0 : decode cX9_has 0 = .ok (.iload_n 0, 1) := by decide +kernel
theorem dX9_has_1 : decode cX9_has 1 = .ok (.iload_n 1, 1) := by decide +kernel
theorem dX9_has_2 : decode cX9_has 2 = .ok (.ishr, 1) := by decide +kernel
theorem dX9_has_3 : decode cX9_has 3 = .ok (.iconst 1, 1) := by decide +kernel
theorem dX9_has_4 : decode cX9_has 4 = .ok (.iand, 1) := by decide +kernel
theorem dX9_has_5 : decode cX9_has 5 = .ok (.iconst 1, 1) := by decide +kernel
theorem dX9_has_6 : decode cX9_has 6 = .ok (.if_icmp .ne 7, 3) := by decide +kernel
theorem dX9_has_9 : decode cX9_has 9 = .ok (.iconst 1, 1) := by decide +kernel
theorem dX9_has_10 : decode cX9_has 10 = .ok (.goto 4, 3) := by decide +kernel
theorem dX9_has_13 : decode cX9_has 13 = .ok (.iconst 0, 1) := by decide +kernel
theorem dX9_has_14 : decode cX9_has 14 = .ok (.ireturn, 1) := by decide +kernel
theorem dX9_ones_0 : decode cX9_ones 0 = .ok (.iconst 0, 1) := by decide +kernel
theorem dX9_ones_1 : decode cX9_ones 1 = .ok (.istore_n 1, 1) := by decide +kernel
theorem dX9_ones_2 : decode cX9_ones 2 = .ok (.iconst 0, 1) := by decide +kernel
theorem dX9_ones_3 : decode cX9_ones 3 = .ok (.istore_n 2, 1) := by decide +kernel
theorem dX9_ones_4 : decode cX9_ones 4 = .ok (.iload_n 2, 1) := by decide +kernel
theorem dX9_ones_5 : decode cX9_ones 5 = .ok (.bipush 6, 2) := by decide +kernel
theorem dX9_ones_7 : decode cX9_ones 7 = .ok (.if_icmp .ge 17, 3) := by decide +kernel
theorem dX9_ones_10 : decode cX9_ones 10 = .ok (.iload_n 1, 1) := by decide +kernel
theorem dX9_ones_11 : decode cX9_ones 11 = .ok (.iload_n 0, 1) := by decide +kernel
theorem dX9_ones_12 : decode cX9_ones 12 = .ok (.iload_n 2, 1) := by decide +kernel
theorem dX9_ones_13 : decode cX9_ones 13 = .ok (.ishr, 1) := by decide +kernel
theorem dX9_ones_14 : decode cX9_ones 14 = .ok (.iconst 1, 1) := by decide +kernel
theorem dX9_ones_15 : decode cX9_ones 15 = .ok (.iand, 1) := by decide +kernel
theorem dX9_ones_16 : decode cX9_ones 16 = .ok (.iadd, 1) := by decide +kernel
theorem dX9_ones_17 : decode cX9_ones 17 = .ok (.istore_n 1, 1) := by decide +kernel
theorem dX9_ones_18 : decode cX9_ones 18 = .ok (.iinc 2 1, 3) := by decide +kernel
theorem dX9_ones_21 : decode cX9_ones 21 = .ok (.goto (-17), 3) := by decide +kernel
theorem dX9_ones_24 : decode cX9_ones 24 = .ok (.iload_n 1, 1) := by decide +kernel
theorem dX9_ones_25 : decode cX9_ones 25 = .ok (.ireturn, 1) := by decide +kernel
theorem dX9_isWell_0 : decode cX9_isWell 0 = .ok (.iload_n 1, 1) := by decide +kernel
theorem dX9_isWell_1 : decode cX9_isWell 1 = .ok (.iconst 0, 1) := by decide +kernel
theorem dX9_isWell_2 : decode cX9_isWell 2 = .ok (.aload_n 0, 1) := by decide +kernel
theorem dX9_isWell_3 : decode cX9_isWell 3 = .ok (.getfield 13, 3) := by decide +kernel
theorem dX9_isWell_6 : decode cX9_isWell 6 = .ok (.iconst 0, 1) := by decide +kernel
theorem dX9_isWell_7 : decode cX9_isWell 7 = .ok (.iaload, 1) := by decide +kernel
theorem dX9_isWell_8 : decode cX9_isWell 8 = .ok (.iconst 1, 1) := by decide +kernel
theorem dX9_isWell_9 : decode cX9_isWell 9 = .ok (.isub, 1) := by decide +kernel
theorem dX9_isWell_10 : decode cX9_isWell 10 = .ok (.invokestatic 54, 3) := by decide +kernel
theorem dX9_isWell_13 : decode cX9_isWell 13 = .ok (.ireturn, 1) := by decide +kernel
theorem dX9_isStage_0 : decode cX9_isStage 0 = .ok (.iload_n 1, 1) := by decide +kernel
theorem dX9_isStage_1 : decode cX9_isStage 1 = .ok (.iconst 0, 1) := by decide +kernel
theorem dX9_isStage_2 : decode cX9_isStage 2 = .ok (.aload_n 0, 1) := by decide +kernel
theorem dX9_isStage_3 : decode cX9_isStage 3 = .ok (.getfield 13, 3) := by decide +kernel
theorem dX9_isStage_6 : decode cX9_isStage 6 = .ok (.iconst 1, 1) := by decide +kernel
theorem dX9_isStage_7 : decode cX9_isStage 7 = .ok (.iaload, 1) := by decide +kernel
theorem dX9_isStage_8 : decode cX9_isStage 8 = .ok (.iconst 1, 1) := by decide +kernel
theorem dX9_isStage_9 : decode cX9_isStage 9 = .ok (.isub, 1) := by decide +kernel
theorem dX9_isStage_10 : decode cX9_isStage 10 = .ok (.invokestatic 54, 3) := by decide +kernel
theorem dX9_isStage_13 : decode cX9_isStage 13 = .ok (.ireturn, 1) := by decide +kernel
theorem dX9_isCaravan_0 : decode cX9_isCaravan 0 = .ok (.iload_n 1, 1) := by decide +kernel
theorem dX9_isCaravan_1 : decode cX9_isCaravan 1 = .ok (.iconst 0, 1) := by decide +kernel
theorem dX9_isCaravan_2 : decode cX9_isCaravan 2 = .ok (.aload_n 0, 1) := by decide +kernel
theorem dX9_isCaravan_3 : decode cX9_isCaravan 3 = .ok (.getfield 13, 3) := by decide +kernel
theorem dX9_isCaravan_6 : decode cX9_isCaravan 6 = .ok (.iconst 2, 1) := by decide +kernel
theorem dX9_isCaravan_7 : decode cX9_isCaravan 7 = .ok (.iaload, 1) := by decide +kernel
theorem dX9_isCaravan_8 : decode cX9_isCaravan 8 = .ok (.iconst 1, 1) := by decide +kernel
theorem dX9_isCaravan_9 : decode cX9_isCaravan 9 = .ok (.isub, 1) := by decide +kernel
theorem dX9_isCaravan_10 : decode cX9_isCaravan 10 = .ok (.invokestatic 54, 3) := by decide +kernel
theorem dX9_isCaravan_13 : decode cX9_isCaravan 13 = .ok (.ireturn, 1) := by decide +kernel
theorem dX9_type_0 : decode cX9_type 0 = .ok (.iload_n 1, 1) := by decide +kernel
theorem dX9_type_1 : decode cX9_type 1 = .ok (.iconst 0, 1) := by decide +kernel
theorem dX9_type_2 : decode cX9_type 2 = .ok (.sipush 255, 3) := by decide +kernel
theorem dX9_type_5 : decode cX9_type 5 = .ok (.invokestatic 54, 3) := by decide +kernel
theorem dX9_type_8 : decode cX9_type 8 = .ok (.ifCond .ne 5, 3) := by decide +kernel
theorem dX9_type_11 : decode cX9_type 11 = .ok (.iconst (-1), 1) := by decide +kernel
theorem dX9_type_12 : decode cX9_type 12 = .ok (.ireturn, 1) := by decide +kernel
theorem dX9_type_13 : decode cX9_type 13 = .ok (.aload_n 0, 1) := by decide +kernel
theorem dX9_type_14 : decode cX9_type 14 = .ok (.getfield 58, 3) := by decide +kernel
theorem dX9_type_17 : decode cX9_type 17 = .ok (.sipush 200, 3) := by decide +kernel
theorem dX9_type_20 : decode cX9_type 20 = .ok (.if_icmp .ne 6, 3) := by decide +kernel
theorem dX9_type_23 : decode cX9_type 23 = .ok (.bipush (-3), 2) := by decide +kernel
theorem dX9_type_25 : decode cX9_type 25 = .ok (.ireturn, 1) := by decide +kernel
theorem dX9_type_26 : decode cX9_type 26 = .ok (.aload_n 0, 1) := by decide +kernel
theorem dX9_type_27 : decode cX9_type 27 = .ok (.getfield 7, 3) := by decide +kernel
theorem dX9_type_30 : decode cX9_type 30 = .ok (.aload_n 0, 1) := by decide +kernel
theorem dX9_type_31 : decode cX9_type 31 = .ok (.getfield 58, 3) := by decide +kernel
theorem dX9_type_34 : decode cX9_type 34 = .ok (.iload_n 1, 1) := by decide +kernel
theorem dX9_type_35 : decode cX9_type 35 = .ok (.iastore, 1) := by decide +kernel
theorem dX9_type_36 : decode cX9_type 36 = .ok (.aload_n 0, 1) := by decide +kernel
theorem dX9_type_37 : decode cX9_type 37 = .ok (.dup, 1) := by decide +kernel
theorem dX9_type_38 : decode cX9_type 38 = .ok (.getfield 58, 3) := by decide +kernel
theorem dX9_type_41 : decode cX9_type 41 = .ok (.iconst 1, 1) := by decide +kernel
theorem dX9_type_42 : decode cX9_type 42 = .ok (.iadd, 1) := by decide +kernel
theorem dX9_type_43 : decode cX9_type 43 = .ok (.putfield 58, 3) := by decide +kernel
theorem dX9_type_46 : decode cX9_type 46 = .ok (.aload_n 0, 1) := by decide +kernel
theorem dX9_type_47 : decode cX9_type 47 = .ok (.getfield 58, 3) := by decide +kernel
theorem dX9_type_50 : decode cX9_type 50 = .ok (.ireturn, 1) := by decide +kernel
theorem dX9_clear_0 : decode cX9_clear 0 = .ok (.aload_n 0, 1) := by decide +kernel
theorem dX9_clear_1 : decode cX9_clear 1 = .ok (.getfield 58, 3) := by decide +kernel
theorem dX9_clear_4 : decode cX9_clear 4 = .ok (.istore_n 1, 1) := by decide +kernel
theorem dX9_clear_5 : decode cX9_clear 5 = .ok (.aload_n 0, 1) := by decide +kernel
theorem dX9_clear_6 : decode cX9_clear 6 = .ok (.iconst 0, 1) := by decide +kernel
theorem dX9_clear_7 : decode cX9_clear 7 = .ok (.putfield 58, 3) := by decide +kernel
theorem dX9_clear_10 : decode cX9_clear 10 = .ok (.iload_n 1, 1) := by decide +kernel
theorem dX9_clear_11 : decode cX9_clear 11 = .ok (.ireturn, 1) := by decide +kernel
theorem dX9_letterAt_0 : decode cX9_letterAt 0 = .ok (.iload_n 1, 1) := by decide +kernel
theorem dX9_letterAt_1 : decode cX9_letterAt 1 = .ok (.aload_n 0, 1) := by decide +kernel
theorem dX9_letterAt_2 : decode cX9_letterAt 2 = .ok (.getfield 58, 3) := by decide +kernel
theorem dX9_letterAt_5 : decode cX9_letterAt 5 = .ok (.if_icmp .ge 12, 3) := by decide +kernel
theorem dX9_letterAt_8 : decode cX9_letterAt 8 = .ok (.aload_n 0, 1) := by decide +kernel
theorem dX9_letterAt_9 : decode cX9_letterAt 9 = .ok (.getfield 7, 3) := by decide +kernel
theorem dX9_letterAt_12 : decode cX9_letterAt 12 = .ok (.iload_n 1, 1) := by decide +kernel
theorem dX9_letterAt_13 : decode cX9_letterAt 13 = .ok (.iaload, 1) := by decide +kernel
theorem dX9_letterAt_14 : decode cX9_letterAt 14 = .ok (.goto 4, 3) := by decide +kernel
theorem dX9_letterAt_17 : decode cX9_letterAt 17 = .ok (.iconst (-1), 1) := by decide +kernel
theorem dX9_letterAt_18 : decode cX9_letterAt 18 = .ok (.ireturn, 1) := by decide +kernel
theorem dX9_isLetter_0 : decode cX9_isLetter 0 = .ok (.iload_n 0, 1) := by decide +kernel
theorem dX9_isLetter_1 : decode cX9_isLetter 1 = .ok (.bipush 97, 2) := by decide +kernel
theorem dX9_isLetter_3 : decode cX9_isLetter 3 = .ok (.bipush 122, 2) := by decide +kernel
theorem dX9_isLetter_5 : decode cX9_isLetter 5 = .ok (.invokestatic 54, 3) := by decide +kernel
theorem dX9_isLetter_8 : decode cX9_isLetter 8 = .ok (.ireturn, 1) := by decide +kernel
theorem dX9_isDigit_0 : decode cX9_isDigit 0 = .ok (.iload_n 0, 1) := by decide +kernel
theorem dX9_isDigit_1 : decode cX9_isDigit 1 = .ok (.bipush 48, 2) := by decide +kernel
theorem dX9_isDigit_3 : decode cX9_isDigit 3 = .ok (.bipush 57, 2) := by decide +kernel
theorem dX9_isDigit_5 : decode cX9_isDigit 5 = .ok (.invokestatic 54, 3) := by decide +kernel
theorem dX9_isDigit_8 : decode cX9_isDigit 8 = .ok (.ireturn, 1) := by decide +kernel
theorem dX9_token_0 : decode cX9_token 0 = .ok (.aload_n 0, 1) := by decide +kernel
theorem dX9_token_1 : decode cX9_token 1 = .ok (.aload_n 0, 1) := by decide +kernel
theorem dX9_token_2 : decode cX9_token 2 = .ok (.getfield 62, 3) := by decide +kernel
theorem dX9_token_5 : decode cX9_token 5 = .ok (.invokevirtual 65, 3) := by decide +kernel
theorem dX9_token_8 : decode cX9_token 8 = .ok (.bipush 32, 2) := by decide +kernel
theorem dX9_token_10 : decode cX9_token 10 = .ok (.if_icmp .ne 16, 3) := by decide +kernel
theorem dX9_token_13 : decode cX9_token 13 = .ok (.aload_n 0, 1) := by decide +kernel
theorem dX9_token_14 : decode cX9_token 14 = .ok (.dup, 1) := by decide +kernel
theorem dX9_token_15 : decode cX9_token 15 = .ok (.getfield 62, 3) := by decide +kernel
theorem dX9_token_18 : decode cX9_token 18 = .ok (.iconst 1, 1) := by decide +kernel
theorem dX9_token_19 : decode cX9_token 19 = .ok (.iadd, 1) := by decide +kernel
theorem dX9_token_20 : decode cX9_token 20 = .ok (.putfield 62, 3) := by decide +kernel
theorem dX9_token_23 : decode cX9_token 23 = .ok (.goto (-23), 3) := by decide +kernel
theorem dX9_token_26 : decode cX9_token 26 = .ok (.aload_n 0, 1) := by decide +kernel
theorem dX9_token_27 : decode cX9_token 27 = .ok (.aload_n 0, 1) := by decide +kernel
theorem dX9_token_28 : decode cX9_token 28 = .ok (.getfield 62, 3) := by decide +kernel
theorem dX9_token_31 : decode cX9_token 31 = .ok (.putfield 69, 3) := by decide +kernel
theorem dX9_token_34 : decode cX9_token 34 = .ok (.aload_n 0, 1) := by decide +kernel
theorem dX9_token_35 : decode cX9_token 35 = .ok (.aload_n 0, 1) := by decide +kernel
theorem dX9_token_36 : decode cX9_token 36 = .ok (.getfield 62, 3) := by decide +kernel
theorem dX9_token_39 : decode cX9_token 39 = .ok (.invokevirtual 65, 3) := by decide +kernel
theorem dX9_token_42 : decode cX9_token 42 = .ok (.istore_n 1, 1) := by decide +kernel
theorem dX9_token_43 : decode cX9_token 43 = .ok (.aload_n 0, 1) := by decide +kernel
theorem dX9_token_44 : decode cX9_token 44 = .ok (.iload_n 1, 1) := by decide +kernel
theorem dX9_token_45 : decode cX9_token 45 = .ok (.ifCond .ge 7, 3) := by decide +kernel
theorem dX9_token_48 : decode cX9_token 48 = .ok (.iconst 0, 1) := by decide +kernel
theorem dX9_token_49 : decode cX9_token 49 = .ok (.goto 36, 3) := by decide +kernel
theorem dX9_token_52 : decode cX9_token 52 = .ok (.iload_n 1, 1) := by decide +kernel
theorem dX9_token_53 : decode cX9_token 53 = .ok (.invokestatic 72, 3) := by decide +kernel
theorem dX9_token_56 : decode cX9_token 56 = .ok (.ifCond .eq 7, 3) := by decide +kernel
theorem dX9_token_59 : decode cX9_token 59 = .ok (.iconst 1, 1) := by decide +kernel
theorem dX9_token_60 : decode cX9_token 60 = .ok (.goto 25, 3) := by decide +kernel
theorem dX9_token_63 : decode cX9_token 63 = .ok (.iload_n 1, 1) := by decide +kernel
theorem dX9_token_64 : decode cX9_token 64 = .ok (.invokestatic 76, 3) := by decide +kernel
theorem dX9_token_67 : decode cX9_token 67 = .ok (.ifCond .eq 7, 3) := by decide +kernel
theorem dX9_token_70 : decode cX9_token 70 = .ok (.iconst 2, 1) := by decide +kernel
theorem dX9_token_71 : decode cX9_token 71 = .ok (.goto 14, 3) := by decide +kernel
theorem dX9_token_74 : decode cX9_token 74 = .ok (.iload_n 1, 1) := by decide +kernel
theorem dX9_token_75 : decode cX9_token 75 = .ok (.bipush 59, 2) := by decide +kernel
theorem dX9_token_77 : decode cX9_token 77 = .ok (.if_icmp .ne 7, 3) := by decide +kernel
theorem dX9_token_80 : decode cX9_token 80 = .ok (.iconst 3, 1) := by decide +kernel
theorem dX9_token_81 : decode cX9_token 81 = .ok (.goto 4, 3) := by decide +kernel
theorem dX9_token_84 : decode cX9_token 84 = .ok (.iconst 4, 1) := by decide +kernel
theorem dX9_token_85 : decode cX9_token 85 = .ok (.putfield 79, 3) := by decide +kernel
theorem dX9_token_88 : decode cX9_token 88 = .ok (.aload_n 0, 1) := by decide +kernel
theorem dX9_token_89 : decode cX9_token 89 = .ok (.iload_n 1, 1) := by decide +kernel
theorem dX9_token_90 : decode cX9_token 90 = .ok (.putfield 82, 3) := by decide +kernel
theorem dX9_token_93 : decode cX9_token 93 = .ok (.aload_n 0, 1) := by decide +kernel
theorem dX9_token_94 : decode cX9_token 94 = .ok (.dup, 1) := by decide +kernel
theorem dX9_token_95 : decode cX9_token 95 = .ok (.getfield 62, 3) := by decide +kernel
theorem dX9_token_98 : decode cX9_token 98 = .ok (.aload_n 0, 1) := by decide +kernel
theorem dX9_token_99 : decode cX9_token 99 = .ok (.getfield 79, 3) := by decide +kernel
theorem dX9_token_102 : decode cX9_token 102 = .ok (.ifCond .ne 7, 3) := by decide +kernel
theorem dX9_token_105 : decode cX9_token 105 = .ok (.iconst 0, 1) := by decide +kernel
theorem dX9_token_106 : decode cX9_token 106 = .ok (.goto 4, 3) := by decide +kernel
theorem dX9_token_109 : decode cX9_token 109 = .ok (.iconst 1, 1) := by decide +kernel
theorem dX9_token_110 : decode cX9_token 110 = .ok (.iadd, 1) := by decide +kernel
theorem dX9_token_111 : decode cX9_token 111 = .ok (.putfield 62, 3) := by decide +kernel
theorem dX9_token_114 : decode cX9_token 114 = .ok (.aload_n 0, 1) := by decide +kernel
theorem dX9_token_115 : decode cX9_token 115 = .ok (.getfield 79, 3) := by decide +kernel
theorem dX9_token_118 : decode cX9_token 118 = .ok (.iconst 1, 1) := by decide +kernel
theorem dX9_token_119 : decode cX9_token 119 = .ok (.if_icmp .ne 35, 3) := by decide +kernel
theorem dX9_token_122 : decode cX9_token 122 = .ok (.aload_n 0, 1) := by decide +kernel
theorem dX9_token_123 : decode cX9_token 123 = .ok (.aload_n 0, 1) := by decide +kernel
theorem dX9_token_124 : decode cX9_token 124 = .ok (.getfield 62, 3) := by decide +kernel
theorem dX9_token_127 : decode cX9_token 127 = .ok (.invokevirtual 65, 3) := by decide +kernel
theorem dX9_token_130 : decode cX9_token 130 = .ok (.invokestatic 72, 3) := by decide +kernel
theorem dX9_token_133 : decode cX9_token 133 = .ok (.ifCond .eq 21, 3) := by decide +kernel
theorem dX9_token_136 : decode cX9_token 136 = .ok (.aload_n 0, 1) := by decide +kernel
theorem dX9_token_137 : decode cX9_token 137 = .ok (.iconst 0, 1) := by decide +kernel
theorem dX9_token_138 : decode cX9_token 138 = .ok (.putfield 82, 3) := by decide +kernel
theorem dX9_token_141 : decode cX9_token 141 = .ok (.aload_n 0, 1) := by decide +kernel
theorem dX9_token_142 : decode cX9_token 142 = .ok (.dup, 1) := by decide +kernel
theorem dX9_token_143 : decode cX9_token 143 = .ok (.getfield 62, 3) := by decide +kernel
theorem dX9_token_146 : decode cX9_token 146 = .ok (.iconst 1, 1) := by decide +kernel
theorem dX9_token_147 : decode cX9_token 147 = .ok (.iadd, 1) := by decide +kernel
theorem dX9_token_148 : decode cX9_token 148 = .ok (.putfield 62, 3) := by decide +kernel
theorem dX9_token_151 : decode cX9_token 151 = .ok (.goto (-37), 3) := by decide +kernel
theorem dX9_token_154 : decode cX9_token 154 = .ok (.aload_n 0, 1) := by decide +kernel
theorem dX9_token_155 : decode cX9_token 155 = .ok (.getfield 79, 3) := by decide +kernel
theorem dX9_token_158 : decode cX9_token 158 = .ok (.iconst 2, 1) := by decide +kernel
theorem dX9_token_159 : decode cX9_token 159 = .ok (.if_icmp .ne 83, 3) := by decide +kernel
theorem dX9_token_162 : decode cX9_token 162 = .ok (.aload_n 0, 1) := by decide +kernel
theorem dX9_token_163 : decode cX9_token 163 = .ok (.iload_n 1, 1) := by decide +kernel
theorem dX9_token_164 : decode cX9_token 164 = .ok (.bipush 48, 2) := by decide +kernel
theorem dX9_token_166 : decode cX9_token 166 = .ok (.isub, 1) := by decide +kernel
theorem dX9_token_167 : decode cX9_token 167 = .ok (.putfield 82, 3) := by decide +kernel
theorem dX9_token_170 : decode cX9_token 170 = .ok (.aload_n 0, 1) := by decide +kernel
theorem dX9_token_171 : decode cX9_token 171 = .ok (.aload_n 0, 1) := by decide +kernel
theorem dX9_token_172 : decode cX9_token 172 = .ok (.getfield 62, 3) := by decide +kernel
theorem dX9_token_175 : decode cX9_token 175 = .ok (.invokevirtual 65, 3) := by decide +kernel
theorem dX9_token_178 : decode cX9_token 178 = .ok (.invokestatic 76, 3) := by decide +kernel
theorem dX9_token_181 : decode cX9_token 181 = .ok (.ifCond .eq 61, 3) := by decide +kernel
theorem dX9_token_184 : decode cX9_token 184 = .ok (.aload_n 0, 1) := by decide +kernel
theorem dX9_token_185 : decode cX9_token 185 = .ok (.iload_n 1, 1) := by decide +kernel
theorem dX9_token_186 : decode cX9_token 186 = .ok (.bipush 48, 2) := by decide +kernel
theorem dX9_token_188 : decode cX9_token 188 = .ok (.if_icmp .eq 12, 3) := by decide +kernel
theorem dX9_token_191 : decode cX9_token 191 = .ok (.aload_n 0, 1) := by decide +kernel
theorem dX9_token_192 : decode cX9_token 192 = .ok (.getfield 82, 3) := by decide +kernel
theorem dX9_token_195 : decode cX9_token 195 = .ok (.bipush 99, 2) := by decide +kernel
theorem dX9_token_197 : decode cX9_token 197 = .ok (.if_icmp .le 9, 3) := by decide +kernel
theorem dX9_token_200 : decode cX9_token 200 = .ok (.sipush 1000, 3) := by decide +kernel
theorem dX9_token_203 : decode cX9_token 203 = .ok (.goto 23, 3) := by decide +kernel
theorem dX9_token_206 : decode cX9_token 206 = .ok (.bipush 10, 2) := by decide +kernel
theorem dX9_token_208 : decode cX9_token 208 = .ok (.aload_n 0, 1) := by decide +kernel
theorem dX9_token_209 : decode cX9_token 209 = .ok (.getfield 82, 3) := by decide +kernel
theorem dX9_token_212 : decode cX9_token 212 = .ok (.imul, 1) := by decide +kernel
theorem dX9_token_213 : decode cX9_token 213 = .ok (.aload_n 0, 1) := by decide +kernel
theorem dX9_token_214 : decode cX9_token 214 = .ok (.getfield 7, 3) := by decide +kernel
theorem dX9_token_217 : decode cX9_token 217 = .ok (.aload_n 0, 1) := by decide +kernel
theorem dX9_token_218 : decode cX9_token 218 = .ok (.getfield 62, 3) := by decide +kernel
theorem dX9_token_221 : decode cX9_token 221 = .ok (.iaload, 1) := by decide +kernel
theorem dX9_token_222 : decode cX9_token 222 = .ok (.iadd, 1) := by decide +kernel
theorem dX9_token_223 : decode cX9_token 223 = .ok (.bipush 48, 2) := by decide +kernel
theorem dX9_token_225 : decode cX9_token 225 = .ok (.isub, 1) := by decide +kernel
theorem dX9_token_226 : decode cX9_token 226 = .ok (.putfield 82, 3) := by decide +kernel
theorem dX9_token_229 : decode cX9_token 229 = .ok (.aload_n 0, 1) := by decide +kernel
theorem dX9_token_230 : decode cX9_token 230 = .ok (.dup, 1) := by decide +kernel
theorem dX9_token_231 : decode cX9_token 231 = .ok (.getfield 62, 3) := by decide +kernel
theorem dX9_token_234 : decode cX9_token 234 = .ok (.iconst 1, 1) := by decide +kernel
theorem dX9_token_235 : decode cX9_token 235 = .ok (.iadd, 1) := by decide +kernel
theorem dX9_token_236 : decode cX9_token 236 = .ok (.putfield 62, 3) := by decide +kernel
theorem dX9_token_239 : decode cX9_token 239 = .ok (.goto (-69), 3) := by decide +kernel
theorem dX9_token_242 : decode cX9_token 242 = .ok (.return_, 1) := by decide +kernel
theorem dX9_number_0 : decode cX9_number 0 = .ok (.aload_n 0, 1) := by decide +kernel
theorem dX9_number_1 : decode cX9_number 1 = .ok (.invokevirtual 85, 3) := by decide +kernel
theorem dX9_number_4 : decode cX9_number 4 = .ok (.aload_n 0, 1) := by decide +kernel
theorem dX9_number_5 : decode cX9_number 5 = .ok (.getfield 79, 3) := by decide +kernel
theorem dX9_number_8 : decode cX9_number 8 = .ok (.iconst 2, 1) := by decide +kernel
theorem dX9_number_9 : decode cX9_number 9 = .ok (.if_icmp .ne 19, 3) := by decide +kernel
theorem dX9_number_12 : decode cX9_number 12 = .ok (.aload_n 0, 1) := by decide +kernel
theorem dX9_number_13 : decode cX9_number 13 = .ok (.getfield 82, 3) := by decide +kernel
theorem dX9_number_16 : decode cX9_number 16 = .ok (.iload_n 1, 1) := by decide +kernel
theorem dX9_number_17 : decode cX9_number 17 = .ok (.iload_n 2, 1) := by decide +kernel
theorem dX9_number_18 : decode cX9_number 18 = .ok (.invokestatic 54, 3) := by decide +kernel
theorem dX9_number_21 : decode cX9_number 21 = .ok (.ifCond .eq 7, 3) := by decide +kernel
theorem dX9_number_24 : decode cX9_number 24 = .ok (.iconst 1, 1) := by decide +kernel
theorem dX9_number_25 : decode cX9_number 25 = .ok (.goto 4, 3) := by decide +kernel
theorem dX9_number_28 : decode cX9_number 28 = .ok (.iconst 0, 1) := by decide +kernel
theorem dX9_number_29 : decode cX9_number 29 = .ok (.ireturn, 1) := by decide +kernel
theorem dX9_readsStage_0 : decode cX9_readsStage 0 = .ok (.aload_n 0, 1) := by decide +kernel
theorem dX9_readsStage_1 : decode cX9_readsStage 1 = .ok (.getfield 16, 3) := by decide +kernel
theorem dX9_readsStage_4 : decode cX9_readsStage 4 = .ok (.iconst 1, 1) := by decide +kernel
theorem dX9_readsStage_5 : decode cX9_readsStage 5 = .ok (.iaload, 1) := by decide +kernel
theorem dX9_readsStage_6 : decode cX9_readsStage 6 = .ok (.istore_n 1, 1) := by decide +kernel
theorem dX9_readsStage_7 : decode cX9_readsStage 7 = .ok (.aload_n 0, 1) := by decide +kernel
theorem dX9_readsStage_8 : decode cX9_readsStage 8 = .ok (.getfield 16, 3) := by decide +kernel
theorem dX9_readsStage_11 : decode cX9_readsStage 11 = .ok (.iconst 0, 1) := by decide +kernel
theorem dX9_readsStage_12 : decode cX9_readsStage 12 = .ok (.iaload, 1) := by decide +kernel
theorem dX9_readsStage_13 : decode cX9_readsStage 13 = .ok (.iconst 1, 1) := by decide +kernel
theorem dX9_readsStage_14 : decode cX9_readsStage 14 = .ok (.isub, 1) := by decide +kernel
theorem dX9_readsStage_15 : decode cX9_readsStage 15 = .ok (.istore_n 2, 1) := by decide +kernel
theorem dX9_readsStage_16 : decode cX9_readsStage 16 = .ok (.iload_n 1, 1) := by decide +kernel
theorem dX9_readsStage_17 : decode cX9_readsStage 17 = .ok (.bipush 8, 2) := by decide +kernel
theorem dX9_readsStage_19 : decode cX9_readsStage 19 = .ok (.if_icmp .eq 12, 3) := by decide +kernel
theorem dX9_readsStage_22 : decode cX9_readsStage 22 = .ok (.aload_n 0, 1) := by decide +kernel
theorem dX9_readsStage_23 : decode cX9_readsStage 23 = .ok (.iconst 0, 1) := by decide +kernel
theorem dX9_readsStage_24 : decode cX9_readsStage 24 = .ok (.iload_n 2, 1) := by decide +kernel
theorem dX9_readsStage_25 : decode cX9_readsStage 25 = .ok (.invokevirtual 88, 3) := by decide +kernel
theorem dX9_readsStage_28 : decode cX9_readsStage 28 = .ok (.ifCond .ne 5, 3) := by decide +kernel
theorem dX9_readsStage_31 : decode cX9_readsStage 31 = .ok (.iconst 0, 1) := by decide +kernel
theorem dX9_readsStage_32 : decode cX9_readsStage 32 = .ok (.ireturn, 1) := by decide +kernel
theorem dX9_readsStage_33 : decode cX9_readsStage 33 = .ok (.aload_n 0, 1) := by decide +kernel
theorem dX9_readsStage_34 : decode cX9_readsStage 34 = .ok (.getfield 16, 3) := by decide +kernel
theorem dX9_readsStage_37 : decode cX9_readsStage 37 = .ok (.bipush 10, 2) := by decide +kernel
theorem dX9_readsStage_39 : decode cX9_readsStage 39 = .ok (.iload_n 1, 1) := by decide +kernel
theorem dX9_readsStage_40 : decode cX9_readsStage 40 = .ok (.iadd, 1) := by decide +kernel
theorem dX9_readsStage_41 : decode cX9_readsStage 41 = .ok (.aload_n 0, 1) := by decide +kernel
theorem dX9_readsStage_42 : decode cX9_readsStage 42 = .ok (.getfield 82, 3) := by decide +kernel
theorem dX9_readsStage_45 : decode cX9_readsStage 45 = .ok (.iastore, 1) := by decide +kernel
theorem dX9_readsStage_46 : decode cX9_readsStage 46 = .ok (.aload_n 0, 1) := by decide +kernel
theorem dX9_readsStage_47 : decode cX9_readsStage 47 = .ok (.iconst 0, 1) := by decide +kernel
theorem dX9_readsStage_48 : decode cX9_readsStage 48 = .ok (.iload_n 2, 1) := by decide +kernel
theorem dX9_readsStage_49 : decode cX9_readsStage 49 = .ok (.invokevirtual 88, 3) := by decide +kernel
theorem dX9_readsStage_52 : decode cX9_readsStage 52 = .ok (.ifCond .eq 19, 3) := by decide +kernel
theorem dX9_readsStage_55 : decode cX9_readsStage 55 = .ok (.aload_n 0, 1) := by decide +kernel
end
section
theorem dX9_readsStage_56 : decode cX9_readsStage 56 = .ok (.getfield 82, 3) := by decide +kernel
theorem dX9_readsStage_59 : decode cX9_readsStage 59 = .ok (.aload_n 0, 1) := by decide +kernel
theorem dX9_readsStage_60 : decode cX9_readsStage 60 = .ok (.getfield 16, 3) := by decide +kernel
theorem dX9_readsStage_63 : decode cX9_readsStage 63 = .ok (.bipush 10, 2) := by decide +kernel
theorem dX9_readsStage_65 : decode cX9_readsStage 65 = .ok (.iload_n 1, 1) := by decide +kernel
theorem dX9_readsStage_66 : decode cX9_readsStage 66 = .ok (.iadd, 1) := by decide +kernel
theorem dX9_readsStage_67 : decode cX9_readsStage 67 = .ok (.iaload, 1) := by decide +kernel
theorem dX9_readsStage_68 : decode cX9_readsStage 68 = .ok (.if_icmp .ne 5, 3) := by decide +kernel
theorem dX9_readsStage_71 : decode cX9_readsStage 71 = .ok (.iconst 0, 1) := by decide +kernel
theorem dX9_readsStage_72 : decode cX9_readsStage 72 = .ok (.ireturn, 1) := by decide +kernel
theorem dX9_readsStage_73 : decode cX9_readsStage 73 = .ok (.aload_n 0, 1) := by decide +kernel
theorem dX9_readsStage_74 : decode cX9_readsStage 74 = .ok (.getfield 16, 3) := by decide +kernel
theorem dX9_readsStage_77 : decode cX9_readsStage 77 = .ok (.bipush 18, 2) := by decide +kernel
theorem dX9_readsStage_79 : decode cX9_readsStage 79 = .ok (.iload_n 1, 1) := by decide +kernel
theorem dX9_readsStage_80 : decode cX9_readsStage 80 = .ok (.iadd, 1) := by decide +kernel
theorem dX9_readsStage_81 : decode cX9_readsStage 81 = .ok (.aload_n 0, 1) := by decide +kernel
theorem dX9_readsStage_82 : decode cX9_readsStage 82 = .ok (.getfield 82, 3) := by decide +kernel
theorem dX9_readsStage_85 : decode cX9_readsStage 85 = .ok (.iastore, 1) := by decide +kernel
theorem dX9_readsStage_86 : decode cX9_readsStage 86 = .ok (.aload_n 0, 1) := by decide +kernel
theorem dX9_readsStage_87 : decode cX9_readsStage 87 = .ok (.iconst 1, 1) := by decide +kernel
theorem dX9_readsStage_88 : decode cX9_readsStage 88 = .ok (.bipush 9, 2) := by decide +kernel
theorem dX9_readsStage_90 : decode cX9_readsStage 90 = .ok (.invokevirtual 88, 3) := by decide +kernel
theorem dX9_readsStage_93 : decode cX9_readsStage 93 = .ok (.ifCond .ne 5, 3) := by decide +kernel
theorem dX9_readsStage_96 : decode cX9_readsStage 96 = .ok (.iconst 0, 1) := by decide +kernel
theorem dX9_readsStage_97 : decode cX9_readsStage 97 = .ok (.ireturn, 1) := by decide +kernel
theorem dX9_readsStage_98 : decode cX9_readsStage 98 = .ok (.aload_n 0, 1) := by decide +kernel
theorem dX9_readsStage_99 : decode cX9_readsStage 99 = .ok (.getfield 16, 3) := by decide +kernel
theorem dX9_readsStage_102 : decode cX9_readsStage 102 = .ok (.bipush 26, 2) := by decide +kernel
theorem dX9_readsStage_104 : decode cX9_readsStage 104 = .ok (.iload_n 1, 1) := by decide +kernel
theorem dX9_readsStage_105 : decode cX9_readsStage 105 = .ok (.iadd, 1) := by decide +kernel
theorem dX9_readsStage_106 : decode cX9_readsStage 106 = .ok (.aload_n 0, 1) := by decide +kernel
theorem dX9_readsStage_107 : decode cX9_readsStage 107 = .ok (.getfield 82, 3) := by decide +kernel
theorem dX9_readsStage_110 : decode cX9_readsStage 110 = .ok (.iastore, 1) := by decide +kernel
theorem dX9_readsStage_111 : decode cX9_readsStage 111 = .ok (.aload_n 0, 1) := by decide +kernel
theorem dX9_readsStage_112 : decode cX9_readsStage 112 = .ok (.iconst 0, 1) := by decide +kernel
theorem dX9_readsStage_113 : decode cX9_readsStage 113 = .ok (.iconst 1, 1) := by decide +kernel
theorem dX9_readsStage_114 : decode cX9_readsStage 114 = .ok (.invokevirtual 88, 3) := by decide +kernel
theorem dX9_readsStage_117 : decode cX9_readsStage 117 = .ok (.ifCond .ne 5, 3) := by decide +kernel
theorem dX9_readsStage_120 : decode cX9_readsStage 120 = .ok (.iconst 0, 1) := by decide +kernel
theorem dX9_readsStage_121 : decode cX9_readsStage 121 = .ok (.ireturn, 1) := by decide +kernel
theorem dX9_readsStage_122 : decode cX9_readsStage 122 = .ok (.aload_n 0, 1) := by decide +kernel
theorem dX9_readsStage_123 : decode cX9_readsStage 123 = .ok (.getfield 16, 3) := by decide +kernel
theorem dX9_readsStage_126 : decode cX9_readsStage 126 = .ok (.bipush 34, 2) := by decide +kernel
theorem dX9_readsStage_128 : decode cX9_readsStage 128 = .ok (.iload_n 1, 1) := by decide +kernel
theorem dX9_readsStage_129 : decode cX9_readsStage 129 = .ok (.iadd, 1) := by decide +kernel
theorem dX9_readsStage_130 : decode cX9_readsStage 130 = .ok (.aload_n 0, 1) := by decide +kernel
theorem dX9_readsStage_131 : decode cX9_readsStage 131 = .ok (.getfield 82, 3) := by decide +kernel
theorem dX9_readsStage_134 : decode cX9_readsStage 134 = .ok (.iastore, 1) := by decide +kernel
theorem dX9_readsStage_135 : decode cX9_readsStage 135 = .ok (.aload_n 0, 1) := by decide +kernel
theorem dX9_readsStage_136 : decode cX9_readsStage 136 = .ok (.iconst 0, 1) := by decide +kernel
theorem dX9_readsStage_137 : decode cX9_readsStage 137 = .ok (.iload_n 2, 1) := by decide +kernel
theorem dX9_readsStage_138 : decode cX9_readsStage 138 = .ok (.invokevirtual 88, 3) := by decide +kernel
theorem dX9_readsStage_141 : decode cX9_readsStage 141 = .ok (.ifCond .ne 5, 3) := by decide +kernel
theorem dX9_readsStage_144 : decode cX9_readsStage 144 = .ok (.iconst 0, 1) := by decide +kernel
theorem dX9_readsStage_145 : decode cX9_readsStage 145 = .ok (.ireturn, 1) := by decide +kernel
theorem dX9_readsStage_146 : decode cX9_readsStage 146 = .ok (.aload_n 0, 1) := by decide +kernel
theorem dX9_readsStage_147 : decode cX9_readsStage 147 = .ok (.getfield 16, 3) := by decide +kernel
theorem dX9_readsStage_150 : decode cX9_readsStage 150 = .ok (.bipush 42, 2) := by decide +kernel
theorem dX9_readsStage_152 : decode cX9_readsStage 152 = .ok (.iload_n 1, 1) := by decide +kernel
theorem dX9_readsStage_153 : decode cX9_readsStage 153 = .ok (.iadd, 1) := by decide +kernel
theorem dX9_readsStage_154 : decode cX9_readsStage 154 = .ok (.aload_n 0, 1) := by decide +kernel
theorem dX9_readsStage_155 : decode cX9_readsStage 155 = .ok (.getfield 82, 3) := by decide +kernel
theorem dX9_readsStage_158 : decode cX9_readsStage 158 = .ok (.iastore, 1) := by decide +kernel
theorem dX9_readsStage_159 : decode cX9_readsStage 159 = .ok (.aload_n 0, 1) := by decide +kernel
theorem dX9_readsStage_160 : decode cX9_readsStage 160 = .ok (.getfield 16, 3) := by decide +kernel
theorem dX9_readsStage_163 : decode cX9_readsStage 163 = .ok (.iconst 1, 1) := by decide +kernel
theorem dX9_readsStage_164 : decode cX9_readsStage 164 = .ok (.dup2, 1) := by decide +kernel
theorem dX9_readsStage_165 : decode cX9_readsStage 165 = .ok (.iaload, 1) := by decide +kernel
theorem dX9_readsStage_166 : decode cX9_readsStage 166 = .ok (.iconst 1, 1) := by decide +kernel
theorem dX9_readsStage_167 : decode cX9_readsStage 167 = .ok (.iadd, 1) := by decide +kernel
theorem dX9_readsStage_168 : decode cX9_readsStage 168 = .ok (.iastore, 1) := by decide +kernel
theorem dX9_readsStage_169 : decode cX9_readsStage 169 = .ok (.iconst 1, 1) := by decide +kernel
theorem dX9_readsStage_170 : decode cX9_readsStage 170 = .ok (.ireturn, 1) := by decide +kernel
theorem dX9_readsCaravan_0 : decode cX9_readsCaravan 0 = .ok (.aload_n 0, 1) := by decide +kernel
theorem dX9_readsCaravan_1 : decode cX9_readsCaravan 1 = .ok (.getfield 16, 3) := by decide +kernel
theorem dX9_readsCaravan_4 : decode cX9_readsCaravan 4 = .ok (.iconst 2, 1) := by decide +kernel
theorem dX9_readsCaravan_5 : decode cX9_readsCaravan 5 = .ok (.iaload, 1) := by decide +kernel
theorem dX9_readsCaravan_6 : decode cX9_readsCaravan 6 = .ok (.istore_n 1, 1) := by decide +kernel
theorem dX9_readsCaravan_7 : decode cX9_readsCaravan 7 = .ok (.iload_n 1, 1) := by decide +kernel
theorem dX9_readsCaravan_8 : decode cX9_readsCaravan 8 = .ok (.iconst 4, 1) := by decide +kernel
theorem dX9_readsCaravan_9 : decode cX9_readsCaravan 9 = .ok (.if_icmp .eq 19, 3) := by decide +kernel
theorem dX9_readsCaravan_12 : decode cX9_readsCaravan 12 = .ok (.aload_n 0, 1) := by decide +kernel
theorem dX9_readsCaravan_13 : decode cX9_readsCaravan 13 = .ok (.iconst 0, 1) := by decide +kernel
theorem dX9_readsCaravan_14 : decode cX9_readsCaravan 14 = .ok (.aload_n 0, 1) := by decide +kernel
theorem dX9_readsCaravan_15 : decode cX9_readsCaravan 15 = .ok (.getfield 16, 3) := by decide +kernel
theorem dX9_readsCaravan_18 : decode cX9_readsCaravan 18 = .ok (.iconst 0, 1) := by decide +kernel
theorem dX9_readsCaravan_19 : decode cX9_readsCaravan 19 = .ok (.iaload, 1) := by decide +kernel
theorem dX9_readsCaravan_20 : decode cX9_readsCaravan 20 = .ok (.iconst 1, 1) := by decide +kernel
theorem dX9_readsCaravan_21 : decode cX9_readsCaravan 21 = .ok (.isub, 1) := by decide +kernel
theorem dX9_readsCaravan_22 : decode cX9_readsCaravan 22 = .ok (.invokevirtual 88, 3) := by decide +kernel
theorem dX9_readsCaravan_25 : decode cX9_readsCaravan 25 = .ok (.ifCond .ne 5, 3) := by decide +kernel
theorem dX9_readsCaravan_28 : decode cX9_readsCaravan 28 = .ok (.iconst 0, 1) := by decide +kernel
theorem dX9_readsCaravan_29 : decode cX9_readsCaravan 29 = .ok (.ireturn, 1) := by decide +kernel
theorem dX9_readsCaravan_30 : decode cX9_readsCaravan 30 = .ok (.aload_n 0, 1) := by decide +kernel
theorem dX9_readsCaravan_31 : decode cX9_readsCaravan 31 = .ok (.getfield 19, 3) := by decide +kernel
theorem dX9_readsCaravan_34 : decode cX9_readsCaravan 34 = .ok (.iload_n 1, 1) := by decide +kernel
theorem dX9_readsCaravan_35 : decode cX9_readsCaravan 35 = .ok (.aload_n 0, 1) := by decide +kernel
theorem dX9_readsCaravan_36 : decode cX9_readsCaravan 36 = .ok (.getfield 82, 3) := by decide +kernel
theorem dX9_readsCaravan_39 : decode cX9_readsCaravan 39 = .ok (.iastore, 1) := by decide +kernel
theorem dX9_readsCaravan_40 : decode cX9_readsCaravan 40 = .ok (.aload_n 0, 1) := by decide +kernel
theorem dX9_readsCaravan_41 : decode cX9_readsCaravan 41 = .ok (.iconst 0, 1) := by decide +kernel
theorem dX9_readsCaravan_42 : decode cX9_readsCaravan 42 = .ok (.bipush 20, 2) := by decide +kernel
theorem dX9_readsCaravan_44 : decode cX9_readsCaravan 44 = .ok (.invokevirtual 88, 3) := by decide +kernel
theorem dX9_readsCaravan_47 : decode cX9_readsCaravan 47 = .ok (.ifCond .ne 5, 3) := by decide +kernel
theorem dX9_readsCaravan_50 : decode cX9_readsCaravan 50 = .ok (.iconst 0, 1) := by decide +kernel
theorem dX9_readsCaravan_51 : decode cX9_readsCaravan 51 = .ok (.ireturn, 1) := by decide +kernel
theorem dX9_readsCaravan_52 : decode cX9_readsCaravan 52 = .ok (.aload_n 0, 1) := by decide +kernel
theorem dX9_readsCaravan_53 : decode cX9_readsCaravan 53 = .ok (.getfield 19, 3) := by decide +kernel
theorem dX9_readsCaravan_56 : decode cX9_readsCaravan 56 = .ok (.iconst 4, 1) := by decide +kernel
theorem dX9_readsCaravan_57 : decode cX9_readsCaravan 57 = .ok (.iload_n 1, 1) := by decide +kernel
theorem dX9_readsCaravan_58 : decode cX9_readsCaravan 58 = .ok (.iadd, 1) := by decide +kernel
theorem dX9_readsCaravan_59 : decode cX9_readsCaravan 59 = .ok (.aload_n 0, 1) := by decide +kernel
theorem dX9_readsCaravan_60 : decode cX9_readsCaravan 60 = .ok (.getfield 82, 3) := by decide +kernel
theorem dX9_readsCaravan_63 : decode cX9_readsCaravan 63 = .ok (.iastore, 1) := by decide +kernel
theorem dX9_readsCaravan_64 : decode cX9_readsCaravan 64 = .ok (.aload_n 0, 1) := by decide +kernel
theorem dX9_readsCaravan_65 : decode cX9_readsCaravan 65 = .ok (.iconst 1, 1) := by decide +kernel
theorem dX9_readsCaravan_66 : decode cX9_readsCaravan 66 = .ok (.bipush 20, 2) := by decide +kernel
theorem dX9_readsCaravan_68 : decode cX9_readsCaravan 68 = .ok (.invokevirtual 88, 3) := by decide +kernel
theorem dX9_readsCaravan_71 : decode cX9_readsCaravan 71 = .ok (.ifCond .ne 5, 3) := by decide +kernel
theorem dX9_readsCaravan_74 : decode cX9_readsCaravan 74 = .ok (.iconst 0, 1) := by decide +kernel
theorem dX9_readsCaravan_75 : decode cX9_readsCaravan 75 = .ok (.ireturn, 1) := by decide +kernel
theorem dX9_readsCaravan_76 : decode cX9_readsCaravan 76 = .ok (.aload_n 0, 1) := by decide +kernel
theorem dX9_readsCaravan_77 : decode cX9_readsCaravan 77 = .ok (.getfield 16, 3) := by decide +kernel
theorem dX9_readsCaravan_80 : decode cX9_readsCaravan 80 = .ok (.bipush 50, 2) := by decide +kernel
theorem dX9_readsCaravan_82 : decode cX9_readsCaravan 82 = .ok (.iload_n 1, 1) := by decide +kernel
theorem dX9_readsCaravan_83 : decode cX9_readsCaravan 83 = .ok (.iadd, 1) := by decide +kernel
theorem dX9_readsCaravan_84 : decode cX9_readsCaravan 84 = .ok (.aload_n 0, 1) := by decide +kernel
theorem dX9_readsCaravan_85 : decode cX9_readsCaravan 85 = .ok (.getfield 82, 3) := by decide +kernel
theorem dX9_readsCaravan_88 : decode cX9_readsCaravan 88 = .ok (.iastore, 1) := by decide +kernel
theorem dX9_readsCaravan_89 : decode cX9_readsCaravan 89 = .ok (.aload_n 0, 1) := by decide +kernel
theorem dX9_readsCaravan_90 : decode cX9_readsCaravan 90 = .ok (.getfield 16, 3) := by decide +kernel
theorem dX9_readsCaravan_93 : decode cX9_readsCaravan 93 = .ok (.iconst 2, 1) := by decide +kernel
theorem dX9_readsCaravan_94 : decode cX9_readsCaravan 94 = .ok (.dup2, 1) := by decide +kernel
theorem dX9_readsCaravan_95 : decode cX9_readsCaravan 95 = .ok (.iaload, 1) := by decide +kernel
theorem dX9_readsCaravan_96 : decode cX9_readsCaravan 96 = .ok (.iconst 1, 1) := by decide +kernel
theorem dX9_readsCaravan_97 : decode cX9_readsCaravan 97 = .ok (.iadd, 1) := by decide +kernel
theorem dX9_readsCaravan_98 : decode cX9_readsCaravan 98 = .ok (.iastore, 1) := by decide +kernel
theorem dX9_readsCaravan_99 : decode cX9_readsCaravan 99 = .ok (.iconst 1, 1) := by decide +kernel
theorem dX9_readsCaravan_100 : decode cX9_readsCaravan 100 = .ok (.ireturn, 1) := by decide +kernel
theorem dX9_readsDebt_0 : decode cX9_readsDebt 0 = .ok (.aload_n 0, 1) := by decide +kernel
theorem dX9_readsDebt_1 : decode cX9_readsDebt 1 = .ok (.iconst 0, 1) := by decide +kernel
theorem dX9_readsDebt_2 : decode cX9_readsDebt 2 = .ok (.aload_n 0, 1) := by decide +kernel
theorem dX9_readsDebt_3 : decode cX9_readsDebt 3 = .ok (.getfield 16, 3) := by decide +kernel
theorem dX9_readsDebt_6 : decode cX9_readsDebt 6 = .ok (.iload_n 1, 1) := by decide +kernel
theorem dX9_readsDebt_7 : decode cX9_readsDebt 7 = .ok (.ifCond .eq 7, 3) := by decide +kernel
theorem dX9_readsDebt_10 : decode cX9_readsDebt 10 = .ok (.iconst 0, 1) := by decide +kernel
theorem dX9_readsDebt_11 : decode cX9_readsDebt 11 = .ok (.goto 4, 3) := by decide +kernel
theorem dX9_readsDebt_14 : decode cX9_readsDebt 14 = .ok (.iconst 2, 1) := by decide +kernel
theorem dX9_readsDebt_15 : decode cX9_readsDebt 15 = .ok (.iaload, 1) := by decide +kernel
theorem dX9_readsDebt_16 : decode cX9_readsDebt 16 = .ok (.iconst 1, 1) := by decide +kernel
theorem dX9_readsDebt_17 : decode cX9_readsDebt 17 = .ok (.isub, 1) := by decide +kernel
theorem dX9_readsDebt_18 : decode cX9_readsDebt 18 = .ok (.invokevirtual 88, 3) := by decide +kernel
theorem dX9_readsDebt_21 : decode cX9_readsDebt 21 = .ok (.ifCond .ne 5, 3) := by decide +kernel
theorem dX9_readsDebt_24 : decode cX9_readsDebt 24 = .ok (.iconst 0, 1) := by decide +kernel
theorem dX9_readsDebt_25 : decode cX9_readsDebt 25 = .ok (.ireturn, 1) := by decide +kernel
theorem dX9_readsDebt_26 : decode cX9_readsDebt 26 = .ok (.aload_n 0, 1) := by decide +kernel
theorem dX9_readsDebt_27 : decode cX9_readsDebt 27 = .ok (.getfield 82, 3) := by decide +kernel
theorem dX9_readsDebt_30 : decode cX9_readsDebt 30 = .ok (.istore_n 2, 1) := by decide +kernel
theorem dX9_readsDebt_31 : decode cX9_readsDebt 31 = .ok (.aload_n 0, 1) := by decide +kernel
theorem dX9_readsDebt_32 : decode cX9_readsDebt 32 = .ok (.iconst 0, 1) := by decide +kernel
theorem dX9_readsDebt_33 : decode cX9_readsDebt 33 = .ok (.aload_n 0, 1) := by decide +kernel
theorem dX9_readsDebt_34 : decode cX9_readsDebt 34 = .ok (.getfield 16, 3) := by decide +kernel
theorem dX9_readsDebt_37 : decode cX9_readsDebt 37 = .ok (.iconst 0, 1) := by decide +kernel
theorem dX9_readsDebt_38 : decode cX9_readsDebt 38 = .ok (.iaload, 1) := by decide +kernel
theorem dX9_readsDebt_39 : decode cX9_readsDebt 39 = .ok (.iconst 1, 1) := by decide +kernel
theorem dX9_readsDebt_40 : decode cX9_readsDebt 40 = .ok (.isub, 1) := by decide +kernel
theorem dX9_readsDebt_41 : decode cX9_readsDebt 41 = .ok (.invokevirtual 88, 3) := by decide +kernel
theorem dX9_readsDebt_44 : decode cX9_readsDebt 44 = .ok (.ifCond .eq 15, 3) := by decide +kernel
theorem dX9_readsDebt_47 : decode cX9_readsDebt 47 = .ok (.iload_n 1, 1) := by decide +kernel
theorem dX9_readsDebt_48 : decode cX9_readsDebt 48 = .ok (.ifCond .eq 13, 3) := by decide +kernel
theorem dX9_readsDebt_51 : decode cX9_readsDebt 51 = .ok (.aload_n 0, 1) := by decide +kernel
theorem dX9_readsDebt_52 : decode cX9_readsDebt 52 = .ok (.getfield 82, 3) := by decide +kernel
theorem dX9_readsDebt_55 : decode cX9_readsDebt 55 = .ok (.iload_n 2, 1) := by decide +kernel
theorem dX9_readsDebt_56 : decode cX9_readsDebt 56 = .ok (.if_icmp .ne 5, 3) := by decide +kernel
theorem dX9_readsDebt_59 : decode cX9_readsDebt 59 = .ok (.iconst 0, 1) := by decide +kernel
theorem dX9_readsDebt_60 : decode cX9_readsDebt 60 = .ok (.ireturn, 1) := by decide +kernel
theorem dX9_readsDebt_61 : decode cX9_readsDebt 61 = .ok (.iload_n 1, 1) := by decide +kernel
theorem dX9_readsDebt_62 : decode cX9_readsDebt 62 = .ok (.ifCond .eq 8, 3) := by decide +kernel
theorem dX9_readsDebt_65 : decode cX9_readsDebt 65 = .ok (.bipush 38, 2) := by decide +kernel
theorem dX9_readsDebt_67 : decode cX9_readsDebt 67 = .ok (.goto 5, 3) := by decide +kernel
theorem dX9_readsDebt_70 : decode cX9_readsDebt 70 = .ok (.bipush 14, 2) := by decide +kernel
theorem dX9_readsDebt_72 : decode cX9_readsDebt 72 = .ok (.bipush 6, 2) := by decide +kernel
theorem dX9_readsDebt_74 : decode cX9_readsDebt 74 = .ok (.iload_n 2, 1) := by decide +kernel
theorem dX9_readsDebt_75 : decode cX9_readsDebt 75 = .ok (.imul, 1) := by decide +kernel
theorem dX9_readsDebt_76 : decode cX9_readsDebt 76 = .ok (.iadd, 1) := by decide +kernel
theorem dX9_readsDebt_77 : decode cX9_readsDebt 77 = .ok (.aload_n 0, 1) := by decide +kernel
theorem dX9_readsDebt_78 : decode cX9_readsDebt 78 = .ok (.getfield 82, 3) := by decide +kernel
theorem dX9_readsDebt_81 : decode cX9_readsDebt 81 = .ok (.iadd, 1) := by decide +kernel
theorem dX9_readsDebt_82 : decode cX9_readsDebt 82 = .ok (.istore_n 3, 1) := by decide +kernel
theorem dX9_readsDebt_83 : decode cX9_readsDebt 83 = .ok (.aload_n 0, 1) := by decide +kernel
theorem dX9_readsDebt_84 : decode cX9_readsDebt 84 = .ok (.iconst 0, 1) := by decide +kernel
theorem dX9_readsDebt_85 : decode cX9_readsDebt 85 = .ok (.bipush 60, 2) := by decide +kernel
theorem dX9_readsDebt_87 : decode cX9_readsDebt 87 = .ok (.invokevirtual 88, 3) := by decide +kernel
theorem dX9_readsDebt_90 : decode cX9_readsDebt 90 = .ok (.istore 4, 2) := by decide +kernel
theorem dX9_readsDebt_92 : decode cX9_readsDebt 92 = .ok (.aload_n 0, 1) := by decide +kernel
theorem dX9_readsDebt_93 : decode cX9_readsDebt 93 = .ok (.getfield 19, 3) := by decide +kernel
theorem dX9_readsDebt_96 : decode cX9_readsDebt 96 = .ok (.iload_n 3, 1) := by decide +kernel
theorem dX9_readsDebt_97 : decode cX9_readsDebt 97 = .ok (.aload_n 0, 1) := by decide +kernel
theorem dX9_readsDebt_98 : decode cX9_readsDebt 98 = .ok (.getfield 82, 3) := by decide +kernel
theorem dX9_readsDebt_101 : decode cX9_readsDebt 101 = .ok (.iastore, 1) := by decide +kernel
theorem dX9_readsDebt_102 : decode cX9_readsDebt 102 = .ok (.iload 4, 2) := by decide +kernel
theorem dX9_readsDebt_104 : decode cX9_readsDebt 104 = .ok (.ireturn, 1) := by decide +kernel
theorem dX9_readsItem_0 : decode cX9_readsItem 0 = .ok (.aload_n 0, 1) := by decide +kernel
theorem dX9_readsItem_1 : decode cX9_readsItem 1 = .ok (.getfield 79, 3) := by decide +kernel
theorem dX9_readsItem_4 : decode cX9_readsItem 4 = .ok (.iconst 1, 1) := by decide +kernel
theorem dX9_readsItem_5 : decode cX9_readsItem 5 = .ok (.if_icmp .ne 10, 3) := by decide +kernel
theorem dX9_readsItem_8 : decode cX9_readsItem 8 = .ok (.aload_n 0, 1) := by decide +kernel
theorem dX9_readsItem_9 : decode cX9_readsItem 9 = .ok (.getfield 82, 3) := by decide +kernel
theorem dX9_readsItem_12 : decode cX9_readsItem 12 = .ok (.goto 4, 3) := by decide +kernel
theorem dX9_readsItem_15 : decode cX9_readsItem 15 = .ok (.iconst 0, 1) := by decide +kernel
theorem dX9_readsItem_16 : decode cX9_readsItem 16 = .ok (.istore_n 1, 1) := by decide +kernel
theorem dX9_readsItem_17 : decode cX9_readsItem 17 = .ok (.aload_n 0, 1) := by decide +kernel
theorem dX9_readsItem_18 : decode cX9_readsItem 18 = .ok (.getfield 16, 3) := by decide +kernel
theorem dX9_readsItem_21 : decode cX9_readsItem 21 = .ok (.iconst 0, 1) := by decide +kernel
theorem dX9_readsItem_22 : decode cX9_readsItem 22 = .ok (.iaload, 1) := by decide +kernel
theorem dX9_readsItem_23 : decode cX9_readsItem 23 = .ok (.istore_n 2, 1) := by decide +kernel
theorem dX9_readsItem_24 : decode cX9_readsItem 24 = .ok (.iload_n 1, 1) := by decide +kernel
theorem dX9_readsItem_25 : decode cX9_readsItem 25 = .ok (.lookupswitch 114 #[(99, 97), (100, 108), (107, 102), (115, 92), (119, 51)], 51) := by decide +kernel
theorem dX9_readsItem_76 : decode cX9_readsItem 76 = .ok (.iload_n 2, 1) := by decide +kernel
theorem dX9_readsItem_77 : decode cX9_readsItem 77 = .ok (.bipush 6, 2) := by decide +kernel
theorem dX9_readsItem_79 : decode cX9_readsItem 79 = .ok (.if_icmp .eq 12, 3) := by decide +kernel
theorem dX9_readsItem_82 : decode cX9_readsItem 82 = .ok (.aload_n 0, 1) := by decide +kernel
theorem dX9_readsItem_83 : decode cX9_readsItem 83 = .ok (.iconst 0, 1) := by decide +kernel
theorem dX9_readsItem_84 : decode cX9_readsItem 84 = .ok (.iconst 1, 1) := by decide +kernel
theorem dX9_readsItem_85 : decode cX9_readsItem 85 = .ok (.invokevirtual 88, 3) := by decide +kernel
theorem dX9_readsItem_88 : decode cX9_readsItem 88 = .ok (.ifCond .ne 5, 3) := by decide +kernel
theorem dX9_readsItem_91 : decode cX9_readsItem 91 = .ok (.iconst 0, 1) := by decide +kernel
theorem dX9_readsItem_92 : decode cX9_readsItem 92 = .ok (.ireturn, 1) := by decide +kernel
theorem dX9_readsItem_93 : decode cX9_readsItem 93 = .ok (.aload_n 0, 1) := by decide +kernel
theorem dX9_readsItem_94 : decode cX9_readsItem 94 = .ok (.getfield 16, 3) := by decide +kernel
theorem dX9_readsItem_97 : decode cX9_readsItem 97 = .ok (.iconst 4, 1) := by decide +kernel
theorem dX9_readsItem_98 : decode cX9_readsItem 98 = .ok (.iload_n 2, 1) := by decide +kernel
theorem dX9_readsItem_99 : decode cX9_readsItem 99 = .ok (.iadd, 1) := by decide +kernel
theorem dX9_readsItem_100 : decode cX9_readsItem 100 = .ok (.aload_n 0, 1) := by decide +kernel
theorem dX9_readsItem_101 : decode cX9_readsItem 101 = .ok (.getfield 82, 3) := by decide +kernel
theorem dX9_readsItem_104 : decode cX9_readsItem 104 = .ok (.iastore, 1) := by decide +kernel
theorem dX9_readsItem_105 : decode cX9_readsItem 105 = .ok (.aload_n 0, 1) := by decide +kernel
theorem dX9_readsItem_106 : decode cX9_readsItem 106 = .ok (.getfield 16, 3) := by decide +kernel
theorem dX9_readsItem_109 : decode cX9_readsItem 109 = .ok (.iconst 0, 1) := by decide +kernel
theorem dX9_readsItem_110 : decode cX9_readsItem 110 = .ok (.dup2, 1) := by decide +kernel
theorem dX9_readsItem_111 : decode cX9_readsItem 111 = .ok (.iaload, 1) := by decide +kernel
theorem dX9_readsItem_112 : decode cX9_readsItem 112 = .ok (.iconst 1, 1) := by decide +kernel
theorem dX9_readsItem_113 : decode cX9_readsItem 113 = .ok (.iadd, 1) := by decide +kernel
theorem dX9_readsItem_114 : decode cX9_readsItem 114 = .ok (.iastore, 1) := by decide +kernel
theorem dX9_readsItem_115 : decode cX9_readsItem 115 = .ok (.iconst 1, 1) := by decide +kernel
theorem dX9_readsItem_116 : decode cX9_readsItem 116 = .ok (.ireturn, 1) := by decide +kernel
theorem dX9_readsItem_117 : decode cX9_readsItem 117 = .ok (.aload_n 0, 1) := by decide +kernel
theorem dX9_readsItem_118 : decode cX9_readsItem 118 = .ok (.invokevirtual 92, 3) := by decide +kernel
theorem dX9_readsItem_121 : decode cX9_readsItem 121 = .ok (.ireturn, 1) := by decide +kernel
theorem dX9_readsItem_122 : decode cX9_readsItem 122 = .ok (.aload_n 0, 1) := by decide +kernel
theorem dX9_readsItem_123 : decode cX9_readsItem 123 = .ok (.invokevirtual 95, 3) := by decide +kernel
theorem dX9_readsItem_126 : decode cX9_readsItem 126 = .ok (.ireturn, 1) := by decide +kernel
theorem dX9_readsItem_127 : decode cX9_readsItem 127 = .ok (.aload_n 0, 1) := by decide +kernel
theorem dX9_readsItem_128 : decode cX9_readsItem 128 = .ok (.iconst 0, 1) := by decide +kernel
theorem dX9_readsItem_129 : decode cX9_readsItem 129 = .ok (.invokevirtual 98, 3) := by decide +kernel
theorem dX9_readsItem_132 : decode cX9_readsItem 132 = .ok (.ireturn, 1) := by decide +kernel
theorem dX9_readsItem_133 : decode cX9_readsItem 133 = .ok (.aload_n 0, 1) := by decide +kernel
theorem dX9_readsItem_134 : decode cX9_readsItem 134 = .ok (.iconst 1, 1) := by decide +kernel
theorem dX9_readsItem_135 : decode cX9_readsItem 135 = .ok (.invokevirtual 98, 3) := by decide +kernel
theorem dX9_readsItem_138 : decode cX9_readsItem 138 = .ok (.ireturn, 1) := by decide +kernel
theorem dX9_readsItem_139 : decode cX9_readsItem 139 = .ok (.iconst 0, 1) := by decide +kernel
theorem dX9_readsItem_140 : decode cX9_readsItem 140 = .ok (.ireturn, 1) := by decide +kernel
theorem dX9_reads_0 : decode cX9_reads 0 = .ok (.iconst 0, 1) := by decide +kernel
theorem dX9_reads_1 : decode cX9_reads 1 = .ok (.istore_n 1, 1) := by decide +kernel
theorem dX9_reads_2 : decode cX9_reads 2 = .ok (.iload_n 1, 1) := by decide +kernel
theorem dX9_reads_3 : decode cX9_reads 3 = .ok (.bipush 54, 2) := by decide +kernel
theorem dX9_reads_5 : decode cX9_reads 5 = .ok (.if_icmp .ge 16, 3) := by decide +kernel
theorem dX9_reads_8 : decode cX9_reads 8 = .ok (.aload_n 0, 1) := by decide +kernel
theorem dX9_reads_9 : decode cX9_reads 9 = .ok (.getfield 16, 3) := by decide +kernel
theorem dX9_reads_12 : decode cX9_reads 12 = .ok (.iload_n 1, 1) := by decide +kernel
theorem dX9_reads_13 : decode cX9_reads 13 = .ok (.iconst 0, 1) := by decide +kernel
theorem dX9_reads_14 : decode cX9_reads 14 = .ok (.iastore, 1) := by decide +kernel
theorem dX9_reads_15 : decode cX9_reads 15 = .ok (.iinc 1 1, 3) := by decide +kernel
theorem dX9_reads_18 : decode cX9_reads 18 = .ok (.goto (-16), 3) := by decide +kernel
theorem dX9_reads_21 : decode cX9_reads 21 = .ok (.iconst 0, 1) := by decide +kernel
theorem dX9_reads_22 : decode cX9_reads 22 = .ok (.istore_n 1, 1) := by decide +kernel
theorem dX9_reads_23 : decode cX9_reads 23 = .ok (.iload_n 1, 1) := by decide +kernel
theorem dX9_reads_24 : decode cX9_reads 24 = .ok (.bipush 74, 2) := by decide +kernel
theorem dX9_reads_26 : decode cX9_reads 26 = .ok (.if_icmp .ge 16, 3) := by decide +kernel
theorem dX9_reads_29 : decode cX9_reads 29 = .ok (.aload_n 0, 1) := by decide +kernel
theorem dX9_reads_30 : decode cX9_reads 30 = .ok (.getfield 19, 3) := by decide +kernel
theorem dX9_reads_33 : decode cX9_reads 33 = .ok (.iload_n 1, 1) := by decide +kernel
theorem dX9_reads_34 : decode cX9_reads 34 = .ok (.iconst 0, 1) := by decide +kernel
theorem dX9_reads_35 : decode cX9_reads 35 = .ok (.iastore, 1) := by decide +kernel
theorem dX9_reads_36 : decode cX9_reads 36 = .ok (.iinc 1 1, 3) := by decide +kernel
theorem dX9_reads_39 : decode cX9_reads 39 = .ok (.goto (-16), 3) := by decide +kernel
theorem dX9_reads_42 : decode cX9_reads 42 = .ok (.aload_n 0, 1) := by decide +kernel
theorem dX9_reads_43 : decode cX9_reads 43 = .ok (.iconst 0, 1) := by decide +kernel
theorem dX9_reads_44 : decode cX9_reads 44 = .ok (.putfield 62, 3) := by decide +kernel
theorem dX9_reads_47 : decode cX9_reads 47 = .ok (.aload_n 0, 1) := by decide +kernel
theorem dX9_reads_48 : decode cX9_reads 48 = .ok (.invokevirtual 85, 3) := by decide +kernel
theorem dX9_reads_51 : decode cX9_reads 51 = .ok (.aload_n 0, 1) := by decide +kernel
theorem dX9_reads_52 : decode cX9_reads 52 = .ok (.getfield 79, 3) := by decide +kernel
theorem dX9_reads_55 : decode cX9_reads 55 = .ok (.ifCond .eq 43, 3) := by decide +kernel
theorem dX9_reads_58 : decode cX9_reads 58 = .ok (.aload_n 0, 1) := by decide +kernel
theorem dX9_reads_59 : decode cX9_reads 59 = .ok (.invokevirtual 102, 3) := by decide +kernel
theorem dX9_reads_62 : decode cX9_reads 62 = .ok (.ifCond .ne 5, 3) := by decide +kernel
theorem dX9_reads_65 : decode cX9_reads 65 = .ok (.iconst 0, 1) := by decide +kernel
theorem dX9_reads_66 : decode cX9_reads 66 = .ok (.ireturn, 1) := by decide +kernel
theorem dX9_reads_67 : decode cX9_reads 67 = .ok (.aload_n 0, 1) := by decide +kernel
theorem dX9_reads_68 : decode cX9_reads 68 = .ok (.invokevirtual 85, 3) := by decide +kernel
theorem dX9_reads_71 : decode cX9_reads 71 = .ok (.aload_n 0, 1) := by decide +kernel
theorem dX9_reads_72 : decode cX9_reads 72 = .ok (.getfield 79, 3) := by decide +kernel
theorem dX9_reads_75 : decode cX9_reads 75 = .ok (.iconst 3, 1) := by decide +kernel
theorem dX9_reads_76 : decode cX9_reads 76 = .ok (.if_icmp .eq 5, 3) := by decide +kernel
theorem dX9_reads_79 : decode cX9_reads 79 = .ok (.iconst 0, 1) := by decide +kernel
theorem dX9_reads_80 : decode cX9_reads 80 = .ok (.ireturn, 1) := by decide +kernel
theorem dX9_reads_81 : decode cX9_reads 81 = .ok (.aload_n 0, 1) := by decide +kernel
theorem dX9_reads_82 : decode cX9_reads 82 = .ok (.getfield 16, 3) := by decide +kernel
theorem dX9_reads_85 : decode cX9_reads 85 = .ok (.iconst 3, 1) := by decide +kernel
theorem dX9_reads_86 : decode cX9_reads 86 = .ok (.dup2, 1) := by decide +kernel
theorem dX9_reads_87 : decode cX9_reads 87 = .ok (.iaload, 1) := by decide +kernel
theorem dX9_reads_88 : decode cX9_reads 88 = .ok (.iconst 1, 1) := by decide +kernel
theorem dX9_reads_89 : decode cX9_reads 89 = .ok (.iadd, 1) := by decide +kernel
theorem dX9_reads_90 : decode cX9_reads 90 = .ok (.iastore, 1) := by decide +kernel
theorem dX9_reads_91 : decode cX9_reads 91 = .ok (.aload_n 0, 1) := by decide +kernel
theorem dX9_reads_92 : decode cX9_reads 92 = .ok (.invokevirtual 85, 3) := by decide +kernel
theorem dX9_reads_95 : decode cX9_reads 95 = .ok (.goto (-44), 3) := by decide +kernel
theorem dX9_reads_98 : decode cX9_reads 98 = .ok (.iconst 1, 1) := by decide +kernel
theorem dX9_reads_99 : decode cX9_reads 99 = .ok (.ireturn, 1) := by decide +kernel
theorem dX9_begins_0 : decode cX9_begins 0 = .ok (.iconst 0, 1) := by decide +kernel
theorem dX9_begins_1 : decode cX9_begins 1 = .ok (.istore_n 1, 1) := by decide +kernel
theorem dX9_begins_2 : decode cX9_begins 2 = .ok (.iload_n 1, 1) := by decide +kernel
theorem dX9_begins_3 : decode cX9_begins 3 = .ok (.bipush 54, 2) := by decide +kernel
theorem dX9_begins_5 : decode cX9_begins 5 = .ok (.if_icmp .ge 21, 3) := by decide +kernel
theorem dX9_begins_8 : decode cX9_begins 8 = .ok (.aload_n 0, 1) := by decide +kernel
theorem dX9_begins_9 : decode cX9_begins 9 = .ok (.getfield 13, 3) := by decide +kernel
theorem dX9_begins_12 : decode cX9_begins 12 = .ok (.iload_n 1, 1) := by decide +kernel
theorem dX9_begins_13 : decode cX9_begins 13 = .ok (.aload_n 0, 1) := by decide +kernel
theorem dX9_begins_14 : decode cX9_begins 14 = .ok (.getfield 16, 3) := by decide +kernel
theorem dX9_begins_17 : decode cX9_begins 17 = .ok (.iload_n 1, 1) := by decide +kernel
theorem dX9_begins_18 : decode cX9_begins 18 = .ok (.iaload, 1) := by decide +kernel
theorem dX9_begins_19 : decode cX9_begins 19 = .ok (.iastore, 1) := by decide +kernel
theorem dX9_begins_20 : decode cX9_begins 20 = .ok (.iinc 1 1, 3) := by decide +kernel
theorem dX9_begins_23 : decode cX9_begins 23 = .ok (.goto (-21), 3) := by decide +kernel
theorem dX9_begins_26 : decode cX9_begins 26 = .ok (.iconst 0, 1) := by decide +kernel
theorem dX9_begins_27 : decode cX9_begins 27 = .ok (.istore_n 1, 1) := by decide +kernel
theorem dX9_begins_28 : decode cX9_begins 28 = .ok (.iload_n 1, 1) := by decide +kernel
theorem dX9_begins_29 : decode cX9_begins 29 = .ok (.bipush 74, 2) := by decide +kernel
theorem dX9_begins_31 : decode cX9_begins 31 = .ok (.if_icmp .ge 21, 3) := by decide +kernel
theorem dX9_begins_34 : decode cX9_begins 34 = .ok (.aload_n 0, 1) := by decide +kernel
theorem dX9_begins_35 : decode cX9_begins 35 = .ok (.getfield 22, 3) := by decide +kernel
theorem dX9_begins_38 : decode cX9_begins 38 = .ok (.iload_n 1, 1) := by decide +kernel
theorem dX9_begins_39 : decode cX9_begins 39 = .ok (.aload_n 0, 1) := by decide +kernel
theorem dX9_begins_40 : decode cX9_begins 40 = .ok (.getfield 19, 3) := by decide +kernel
theorem dX9_begins_43 : decode cX9_begins 43 = .ok (.iload_n 1, 1) := by decide +kernel
theorem dX9_begins_44 : decode cX9_begins 44 = .ok (.iaload, 1) := by decide +kernel
theorem dX9_begins_45 : decode cX9_begins 45 = .ok (.iastore, 1) := by decide +kernel
theorem dX9_begins_46 : decode cX9_begins 46 = .ok (.iinc 1 1, 3) := by decide +kernel
theorem dX9_begins_49 : decode cX9_begins 49 = .ok (.goto (-21), 3) := by decide +kernel
theorem dX9_begins_52 : decode cX9_begins 52 = .ok (.aload_n 0, 1) := by decide +kernel
theorem dX9_begins_53 : decode cX9_begins 53 = .ok (.getfield 22, 3) := by decide +kernel
theorem dX9_begins_56 : decode cX9_begins 56 = .ok (.bipush 12, 2) := by decide +kernel
theorem dX9_begins_58 : decode cX9_begins 58 = .ok (.iconst 1, 1) := by decide +kernel
theorem dX9_begins_59 : decode cX9_begins 59 = .ok (.aload_n 0, 1) := by decide +kernel
theorem dX9_begins_60 : decode cX9_begins 60 = .ok (.getfield 13, 3) := by decide +kernel
theorem dX9_begins_63 : decode cX9_begins 63 = .ok (.iconst 2, 1) := by decide +kernel
theorem dX9_begins_64 : decode cX9_begins 64 = .ok (.iaload, 1) := by decide +kernel
theorem dX9_begins_65 : decode cX9_begins 65 = .ok (.ishl, 1) := by decide +kernel
theorem dX9_begins_66 : decode cX9_begins 66 = .ok (.iconst 1, 1) := by decide +kernel
theorem dX9_begins_67 : decode cX9_begins 67 = .ok (.isub, 1) := by decide +kernel
theorem dX9_begins_68 : decode cX9_begins 68 = .ok (.iastore, 1) := by decide +kernel
theorem dX9_begins_69 : decode cX9_begins 69 = .ok (.aload_n 0, 1) := by decide +kernel
theorem dX9_begins_70 : decode cX9_begins 70 = .ok (.getfield 22, 3) := by decide +kernel
theorem dX9_begins_73 : decode cX9_begins 73 = .ok (.bipush 74, 2) := by decide +kernel
theorem dX9_begins_75 : decode cX9_begins 75 = .ok (.iconst 0, 1) := by decide +kernel
theorem dX9_begins_76 : decode cX9_begins 76 = .ok (.iastore, 1) := by decide +kernel
theorem dX9_begins_77 : decode cX9_begins 77 = .ok (.aload_n 0, 1) := by decide +kernel
theorem dX9_begins_78 : decode cX9_begins 78 = .ok (.iconst 0, 1) := by decide +kernel
theorem dX9_begins_79 : decode cX9_begins 79 = .ok (.putfield 105, 3) := by decide +kernel
theorem dX9_begins_82 : decode cX9_begins 82 = .ok (.aload_n 0, 1) := by decide +kernel
theorem dX9_begins_83 : decode cX9_begins 83 = .ok (.getfield 28, 3) := by decide +kernel
theorem dX9_begins_86 : decode cX9_begins 86 = .ok (.iconst 0, 1) := by decide +kernel
theorem dX9_begins_87 : decode cX9_begins 87 = .ok (.iconst 0, 1) := by decide +kernel
theorem dX9_begins_88 : decode cX9_begins 88 = .ok (.bastore, 1) := by decide +kernel
theorem dX9_begins_89 : decode cX9_begins 89 = .ok (.aload_n 0, 1) := by decide +kernel
theorem dX9_begins_90 : decode cX9_begins 90 = .ok (.getfield 28, 3) := by decide +kernel
theorem dX9_begins_93 : decode cX9_begins 93 = .ok (.iconst 1, 1) := by decide +kernel
theorem dX9_begins_94 : decode cX9_begins 94 = .ok (.iconst 0, 1) := by decide +kernel
theorem dX9_begins_95 : decode cX9_begins 95 = .ok (.bastore, 1) := by decide +kernel
theorem dX9_begins_96 : decode cX9_begins 96 = .ok (.return_, 1) := by decide +kernel
theorem dX9_road_0 : decode cX9_road 0 = .ok (.aload_n 0, 1) := by decide +kernel
theorem dX9_road_1 : decode cX9_road 1 = .ok (.invokevirtual 47, 3) := by decide +kernel
theorem dX9_road_4 : decode cX9_road 4 = .ok (.ifCond .ne 11, 3) := by decide +kernel
theorem dX9_road_7 : decode cX9_road 7 = .ok (.bipush (-10), 2) := by decide +kernel
theorem dX9_road_9 : decode cX9_road 9 = .ok (.aload_n 0, 1) := by decide +kernel
theorem dX9_road_10 : decode cX9_road 10 = .ok (.getfield 69, 3) := by decide +kernel
theorem dX9_road_13 : decode cX9_road 13 = .ok (.isub, 1) := by decide +kernel
theorem dX9_road_14 : decode cX9_road 14 = .ok (.ireturn, 1) := by decide +kernel
theorem dX9_road_15 : decode cX9_road 15 = .ok (.aload_n 0, 1) := by decide +kernel
theorem dX9_road_16 : decode cX9_road 16 = .ok (.invokevirtual 51, 3) := by decide +kernel
theorem dX9_road_19 : decode cX9_road 19 = .ok (.aload_n 0, 1) := by decide +kernel
theorem dX9_road_20 : decode cX9_road 20 = .ok (.iconst 0, 1) := by decide +kernel
theorem dX9_road_21 : decode cX9_road 21 = .ok (.putfield 58, 3) := by decide +kernel
theorem dX9_road_24 : decode cX9_road 24 = .ok (.aload_n 0, 1) := by decide +kernel
theorem dX9_road_25 : decode cX9_road 25 = .ok (.getfield 13, 3) := by decide +kernel
theorem dX9_road_28 : decode cX9_road 28 = .ok (.iconst 3, 1) := by decide +kernel
theorem dX9_road_29 : decode cX9_road 29 = .ok (.iaload, 1) := by decide +kernel
theorem dX9_road_30 : decode cX9_road 30 = .ok (.ireturn, 1) := by decide +kernel
theorem dX9_stage_0 : decode cX9_stage 0 = .ok (.aload_n 0, 1) := by decide +kernel
theorem dX9_stage_1 : decode cX9_stage 1 = .ok (.iload_n 1, 1) := by decide +kernel
theorem dX9_stage_2 : decode cX9_stage 2 = .ok (.invokevirtual 108, 3) := by decide +kernel
theorem dX9_stage_5 : decode cX9_stage 5 = .ok (.ifCond .ne 5, 3) := by decide +kernel
theorem dX9_stage_8 : decode cX9_stage 8 = .ok (.iconst (-1), 1) := by decide +kernel
theorem dX9_stage_9 : decode cX9_stage 9 = .ok (.ireturn, 1) := by decide +kernel
theorem dX9_stage_10 : decode cX9_stage 10 = .ok (.iload_n 2, 1) := by decide +kernel
theorem dX9_stage_11 : decode cX9_stage 11 = .ok (.tableswitch 83 0 4 #[33, 43, 53, 63, 73], 33) := by decide +kernel
theorem dX9_stage_44 : decode cX9_stage 44 = .ok (.aload_n 0, 1) := by decide +kernel
theorem dX9_stage_45 : decode cX9_stage 45 = .ok (.getfield 13, 3) := by decide +kernel
theorem dX9_stage_48 : decode cX9_stage 48 = .ok (.bipush 10, 2) := by decide +kernel
theorem dX9_stage_50 : decode cX9_stage 50 = .ok (.iload_n 1, 1) := by decide +kernel
theorem dX9_stage_51 : decode cX9_stage 51 = .ok (.iadd, 1) := by decide +kernel
theorem dX9_stage_52 : decode cX9_stage 52 = .ok (.iaload, 1) := by decide +kernel
theorem dX9_stage_53 : decode cX9_stage 53 = .ok (.ireturn, 1) := by decide +kernel
theorem dX9_stage_54 : decode cX9_stage 54 = .ok (.aload_n 0, 1) := by decide +kernel
theorem dX9_stage_55 : decode cX9_stage 55 = .ok (.getfield 13, 3) := by decide +kernel
theorem dX9_stage_58 : decode cX9_stage 58 = .ok (.bipush 18, 2) := by decide +kernel
theorem dX9_stage_60 : decode cX9_stage 60 = .ok (.iload_n 1, 1) := by decide +kernel
theorem dX9_stage_61 : decode cX9_stage 61 = .ok (.iadd, 1) := by decide +kernel
theorem dX9_stage_62 : decode cX9_stage 62 = .ok (.iaload, 1) := by decide +kernel
theorem dX9_stage_63 : decode cX9_stage 63 = .ok (.ireturn, 1) := by decide +kernel
theorem dX9_stage_64 : decode cX9_stage 64 = .ok (.aload_n 0, 1) := by decide +kernel
theorem dX9_stage_65 : decode cX9_stage 65 = .ok (.getfield 13, 3) := by decide +kernel
theorem dX9_stage_68 : decode cX9_stage 68 = .ok (.bipush 26, 2) := by decide +kernel
theorem dX9_stage_70 : decode cX9_stage 70 = .ok (.iload_n 1, 1) := by decide +kernel
theorem dX9_stage_71 : decode cX9_stage 71 = .ok (.iadd, 1) := by decide +kernel
theorem dX9_stage_72 : decode cX9_stage 72 = .ok (.iaload, 1) := by decide +kernel
theorem dX9_stage_73 : decode cX9_stage 73 = .ok (.ireturn, 1) := by decide +kernel
theorem dX9_stage_74 : decode cX9_stage 74 = .ok (.aload_n 0, 1) := by decide +kernel
theorem dX9_stage_75 : decode cX9_stage 75 = .ok (.getfield 13, 3) := by decide +kernel
theorem dX9_stage_78 : decode cX9_stage 78 = .ok (.bipush 34, 2) := by decide +kernel
theorem dX9_stage_80 : decode cX9_stage 80 = .ok (.iload_n 1, 1) := by decide +kernel
theorem dX9_stage_81 : decode cX9_stage 81 = .ok (.iadd, 1) := by decide +kernel
theorem dX9_stage_82 : decode cX9_stage 82 = .ok (.iaload, 1) := by decide +kernel
theorem dX9_stage_83 : decode cX9_stage 83 = .ok (.ireturn, 1) := by decide +kernel
theorem dX9_stage_84 : decode cX9_stage 84 = .ok (.aload_n 0, 1) := by decide +kernel
theorem dX9_stage_85 : decode cX9_stage 85 = .ok (.getfield 13, 3) := by decide +kernel
theorem dX9_stage_88 : decode cX9_stage 88 = .ok (.bipush 42, 2) := by decide +kernel
theorem dX9_stage_90 : decode cX9_stage 90 = .ok (.iload_n 1, 1) := by decide +kernel
theorem dX9_stage_91 : decode cX9_stage 91 = .ok (.iadd, 1) := by decide +kernel
theorem dX9_stage_92 : decode cX9_stage 92 = .ok (.iaload, 1) := by decide +kernel
theorem dX9_stage_93 : decode cX9_stage 93 = .ok (.ireturn, 1) := by decide +kernel
theorem dX9_stage_94 : decode cX9_stage 94 = .ok (.iconst (-1), 1) := by decide +kernel
theorem dX9_stage_95 : decode cX9_stage 95 = .ok (.ireturn, 1) := by decide +kernel
theorem dX9_isAlive_0 : decode cX9_isAlive 0 = .ok (.aload_n 0, 1) := by decide +kernel
theorem dX9_isAlive_1 : decode cX9_isAlive 1 = .ok (.getfield 22, 3) := by decide +kernel
theorem dX9_isAlive_4 : decode cX9_isAlive 4 = .ok (.bipush 12, 2) := by decide +kernel
theorem dX9_isAlive_6 : decode cX9_isAlive 6 = .ok (.iaload, 1) := by decide +kernel
theorem dX9_isAlive_7 : decode cX9_isAlive 7 = .ok (.iload_n 1, 1) := by decide +kernel
theorem dX9_isAlive_8 : decode cX9_isAlive 8 = .ok (.invokestatic 111, 3) := by decide +kernel
theorem dX9_isAlive_11 : decode cX9_isAlive 11 = .ok (.ireturn, 1) := by decide +kernel
theorem dX9_knotsOf_0 : decode cX9_knotsOf 0 = .ok (.iconst 0, 1) := by decide +kernel
theorem dX9_knotsOf_1 : decode cX9_knotsOf 1 = .ok (.istore_n 2, 1) := by decide +kernel
theorem dX9_knotsOf_2 : decode cX9_knotsOf 2 = .ok (.iconst 0, 1) := by decide +kernel
theorem dX9_knotsOf_3 : decode cX9_knotsOf 3 = .ok (.istore_n 3, 1) := by decide +kernel
theorem dX9_knotsOf_4 : decode cX9_knotsOf 4 = .ok (.iload_n 3, 1) := by decide +kernel
theorem dX9_knotsOf_5 : decode cX9_knotsOf 5 = .ok (.bipush 6, 2) := by decide +kernel
theorem dX9_knotsOf_7 : decode cX9_knotsOf 7 = .ok (.if_icmp .ge 26, 3) := by decide +kernel
theorem dX9_knotsOf_10 : decode cX9_knotsOf 10 = .ok (.iload_n 2, 1) := by decide +kernel
theorem dX9_knotsOf_11 : decode cX9_knotsOf 11 = .ok (.aload_n 0, 1) := by decide +kernel
theorem dX9_knotsOf_12 : decode cX9_knotsOf 12 = .ok (.getfield 22, 3) := by decide +kernel
theorem dX9_knotsOf_15 : decode cX9_knotsOf 15 = .ok (.bipush 14, 2) := by decide +kernel
theorem dX9_knotsOf_17 : decode cX9_knotsOf 17 = .ok (.bipush 6, 2) := by decide +kernel
theorem dX9_knotsOf_19 : decode cX9_knotsOf 19 = .ok (.iload_n 1, 1) := by decide +kernel
theorem dX9_knotsOf_20 : decode cX9_knotsOf 20 = .ok (.imul, 1) := by decide +kernel
theorem dX9_knotsOf_21 : decode cX9_knotsOf 21 = .ok (.iadd, 1) := by decide +kernel
theorem dX9_knotsOf_22 : decode cX9_knotsOf 22 = .ok (.iload_n 3, 1) := by decide +kernel
theorem dX9_knotsOf_23 : decode cX9_knotsOf 23 = .ok (.iadd, 1) := by decide +kernel
theorem dX9_knotsOf_24 : decode cX9_knotsOf 24 = .ok (.iaload, 1) := by decide +kernel
theorem dX9_knotsOf_25 : decode cX9_knotsOf 25 = .ok (.iadd, 1) := by decide +kernel
theorem dX9_knotsOf_26 : decode cX9_knotsOf 26 = .ok (.istore_n 2, 1) := by decide +kernel
theorem dX9_knotsOf_27 : decode cX9_knotsOf 27 = .ok (.iinc 3 1, 3) := by decide +kernel
theorem dX9_knotsOf_30 : decode cX9_knotsOf 30 = .ok (.goto (-26), 3) := by decide +kernel
theorem dX9_knotsOf_33 : decode cX9_knotsOf 33 = .ok (.iload_n 2, 1) := by decide +kernel
theorem dX9_knotsOf_34 : decode cX9_knotsOf 34 = .ok (.ireturn, 1) := by decide +kernel
theorem dX9_caravan_0 : decode cX9_caravan 0 = .ok (.aload_n 0, 1) := by decide +kernel
theorem dX9_caravan_1 : decode cX9_caravan 1 = .ok (.iload_n 1, 1) := by decide +kernel
theorem dX9_caravan_2 : decode cX9_caravan 2 = .ok (.invokevirtual 114, 3) := by decide +kernel
theorem dX9_caravan_5 : decode cX9_caravan 5 = .ok (.ifCond .ne 5, 3) := by decide +kernel
theorem dX9_caravan_8 : decode cX9_caravan 8 = .ok (.iconst (-1), 1) := by decide +kernel
theorem dX9_caravan_9 : decode cX9_caravan 9 = .ok (.ireturn, 1) := by decide +kernel
theorem dX9_caravan_10 : decode cX9_caravan 10 = .ok (.iload_n 2, 1) := by decide +kernel
theorem dX9_caravan_11 : decode cX9_caravan 11 = .ok (.tableswitch 93 0 5 #[37, 44, 53, 63, 73, 87], 37) := by decide +kernel
theorem dX9_caravan_48 : decode cX9_caravan 48 = .ok (.aload_n 0, 1) := by decide +kernel
theorem dX9_caravan_49 : decode cX9_caravan 49 = .ok (.getfield 22, 3) := by decide +kernel
theorem dX9_caravan_52 : decode cX9_caravan 52 = .ok (.iload_n 1, 1) := by decide +kernel
theorem dX9_caravan_53 : decode cX9_caravan 53 = .ok (.iaload, 1) := by decide +kernel
theorem dX9_caravan_54 : decode cX9_caravan 54 = .ok (.ireturn, 1) := by decide +kernel
theorem dX9_caravan_55 : decode cX9_caravan 55 = .ok (.aload_n 0, 1) := by decide +kernel
theorem dX9_caravan_56 : decode cX9_caravan 56 = .ok (.getfield 22, 3) := by decide +kernel
theorem dX9_caravan_59 : decode cX9_caravan 59 = .ok (.iconst 4, 1) := by decide +kernel
theorem dX9_caravan_60 : decode cX9_caravan 60 = .ok (.iload_n 1, 1) := by decide +kernel
theorem dX9_caravan_61 : decode cX9_caravan 61 = .ok (.iadd, 1) := by decide +kernel
theorem dX9_caravan_62 : decode cX9_caravan 62 = .ok (.iaload, 1) := by decide +kernel
theorem dX9_caravan_63 : decode cX9_caravan 63 = .ok (.ireturn, 1) := by decide +kernel
theorem dX9_caravan_64 : decode cX9_caravan 64 = .ok (.aload_n 0, 1) := by decide +kernel
theorem dX9_caravan_65 : decode cX9_caravan 65 = .ok (.getfield 13, 3) := by decide +kernel
theorem dX9_caravan_68 : decode cX9_caravan 68 = .ok (.bipush 50, 2) := by decide +kernel
theorem dX9_caravan_70 : decode cX9_caravan 70 = .ok (.iload_n 1, 1) := by decide +kernel
theorem dX9_caravan_71 : decode cX9_caravan 71 = .ok (.iadd, 1) := by decide +kernel
theorem dX9_caravan_72 : decode cX9_caravan 72 = .ok (.iaload, 1) := by decide +kernel
theorem dX9_caravan_73 : decode cX9_caravan 73 = .ok (.ireturn, 1) := by decide +kernel
theorem dX9_caravan_74 : decode cX9_caravan 74 = .ok (.aload_n 0, 1) := by decide +kernel
theorem dX9_caravan_75 : decode cX9_caravan 75 = .ok (.getfield 22, 3) := by decide +kernel
theorem dX9_caravan_78 : decode cX9_caravan 78 = .ok (.bipush 8, 2) := by decide +kernel
theorem dX9_caravan_80 : decode cX9_caravan 80 = .ok (.iload_n 1, 1) := by decide +kernel
theorem dX9_caravan_81 : decode cX9_caravan 81 = .ok (.iadd, 1) := by decide +kernel
theorem dX9_caravan_82 : decode cX9_caravan 82 = .ok (.iaload, 1) := by decide +kernel
theorem dX9_caravan_83 : decode cX9_caravan 83 = .ok (.ireturn, 1) := by decide +kernel
theorem dX9_caravan_84 : decode cX9_caravan 84 = .ok (.aload_n 0, 1) := by decide +kernel
theorem dX9_caravan_85 : decode cX9_caravan 85 = .ok (.iload_n 1, 1) := by decide +kernel
theorem dX9_caravan_86 : decode cX9_caravan 86 = .ok (.invokevirtual 117, 3) := by decide +kernel
theorem dX9_caravan_89 : decode cX9_caravan 89 = .ok (.ifCond .eq 7, 3) := by decide +kernel
theorem dX9_caravan_92 : decode cX9_caravan 92 = .ok (.iconst 1, 1) := by decide +kernel
theorem dX9_caravan_93 : decode cX9_caravan 93 = .ok (.goto 4, 3) := by decide +kernel
theorem dX9_caravan_96 : decode cX9_caravan 96 = .ok (.iconst 0, 1) := by decide +kernel
theorem dX9_caravan_97 : decode cX9_caravan 97 = .ok (.ireturn, 1) := by decide +kernel
theorem dX9_caravan_98 : decode cX9_caravan 98 = .ok (.aload_n 0, 1) := by decide +kernel
theorem dX9_caravan_99 : decode cX9_caravan 99 = .ok (.iload_n 1, 1) := by decide +kernel
theorem dX9_caravan_100 : decode cX9_caravan 100 = .ok (.invokevirtual 120, 3) := by decide +kernel
theorem dX9_caravan_103 : decode cX9_caravan 103 = .ok (.ireturn, 1) := by decide +kernel
theorem dX9_caravan_104 : decode cX9_caravan 104 = .ok (.iconst (-1), 1) := by decide +kernel
theorem dX9_caravan_105 : decode cX9_caravan 105 = .ok (.ireturn, 1) := by decide +kernel
theorem dX9_knotsAt_0 : decode cX9_knotsAt 0 = .ok (.iconst 0, 1) := by decide +kernel
theorem dX9_knotsAt_1 : decode cX9_knotsAt 1 = .ok (.istore_n 2, 1) := by decide +kernel
theorem dX9_knotsAt_2 : decode cX9_knotsAt 2 = .ok (.iconst 0, 1) := by decide +kernel
theorem dX9_knotsAt_3 : decode cX9_knotsAt 3 = .ok (.istore_n 3, 1) := by decide +kernel
theorem dX9_knotsAt_4 : decode cX9_knotsAt 4 = .ok (.iload_n 3, 1) := by decide +kernel
theorem dX9_knotsAt_5 : decode cX9_knotsAt 5 = .ok (.iconst 4, 1) := by decide +kernel
theorem dX9_knotsAt_6 : decode cX9_knotsAt 6 = .ok (.if_icmp .ge 26, 3) := by decide +kernel
theorem dX9_knotsAt_9 : decode cX9_knotsAt 9 = .ok (.iload_n 2, 1) := by decide +kernel
theorem dX9_knotsAt_10 : decode cX9_knotsAt 10 = .ok (.aload_n 0, 1) := by decide +kernel
theorem dX9_knotsAt_11 : decode cX9_knotsAt 11 = .ok (.getfield 22, 3) := by decide +kernel
theorem dX9_knotsAt_14 : decode cX9_knotsAt 14 = .ok (.bipush 14, 2) := by decide +kernel
theorem dX9_knotsAt_16 : decode cX9_knotsAt 16 = .ok (.bipush 6, 2) := by decide +kernel
theorem dX9_knotsAt_18 : decode cX9_knotsAt 18 = .ok (.iload_n 3, 1) := by decide +kernel
theorem dX9_knotsAt_19 : decode cX9_knotsAt 19 = .ok (.imul, 1) := by decide +kernel
theorem dX9_knotsAt_20 : decode cX9_knotsAt 20 = .ok (.iadd, 1) := by decide +kernel
theorem dX9_knotsAt_21 : decode cX9_knotsAt 21 = .ok (.iload_n 1, 1) := by decide +kernel
theorem dX9_knotsAt_22 : decode cX9_knotsAt 22 = .ok (.iadd, 1) := by decide +kernel
theorem dX9_knotsAt_23 : decode cX9_knotsAt 23 = .ok (.iaload, 1) := by decide +kernel
theorem dX9_knotsAt_24 : decode cX9_knotsAt 24 = .ok (.iadd, 1) := by decide +kernel
theorem dX9_knotsAt_25 : decode cX9_knotsAt 25 = .ok (.istore_n 2, 1) := by decide +kernel
theorem dX9_knotsAt_26 : decode cX9_knotsAt 26 = .ok (.iinc 3 1, 3) := by decide +kernel
theorem dX9_knotsAt_29 : decode cX9_knotsAt 29 = .ok (.goto (-25), 3) := by decide +kernel
theorem dX9_knotsAt_32 : decode cX9_knotsAt 32 = .ok (.iload_n 2, 1) := by decide +kernel
theorem dX9_knotsAt_33 : decode cX9_knotsAt 33 = .ok (.ireturn, 1) := by decide +kernel
theorem dX9_duesOf_0 : decode cX9_duesOf 0 = .ok (.iconst 0, 1) := by decide +kernel
theorem dX9_duesOf_1 : decode cX9_duesOf 1 = .ok (.istore_n 2, 1) := by decide +kernel
theorem dX9_duesOf_2 : decode cX9_duesOf 2 = .ok (.iconst 0, 1) := by decide +kernel
theorem dX9_duesOf_3 : decode cX9_duesOf 3 = .ok (.istore_n 3, 1) := by decide +kernel
theorem dX9_duesOf_4 : decode cX9_duesOf 4 = .ok (.iload_n 3, 1) := by decide +kernel
theorem dX9_duesOf_5 : decode cX9_duesOf 5 = .ok (.bipush 6, 2) := by decide +kernel
theorem dX9_duesOf_7 : decode cX9_duesOf 7 = .ok (.if_icmp .ge 26, 3) := by decide +kernel
theorem dX9_duesOf_10 : decode cX9_duesOf 10 = .ok (.iload_n 2, 1) := by decide +kernel
theorem dX9_duesOf_11 : decode cX9_duesOf 11 = .ok (.aload_n 0, 1) := by decide +kernel
theorem dX9_duesOf_12 : decode cX9_duesOf 12 = .ok (.getfield 22, 3) := by decide +kernel
theorem dX9_duesOf_15 : decode cX9_duesOf 15 = .ok (.bipush 38, 2) := by decide +kernel
theorem dX9_duesOf_17 : decode cX9_duesOf 17 = .ok (.bipush 6, 2) := by decide +kernel
theorem dX9_duesOf_19 : decode cX9_duesOf 19 = .ok (.iload_n 1, 1) := by decide +kernel
theorem dX9_duesOf_20 : decode cX9_duesOf 20 = .ok (.imul, 1) := by decide +kernel
theorem dX9_duesOf_21 : decode cX9_duesOf 21 = .ok (.iadd, 1) := by decide +kernel
theorem dX9_duesOf_22 : decode cX9_duesOf 22 = .ok (.iload_n 3, 1) := by decide +kernel
theorem dX9_duesOf_23 : decode cX9_duesOf 23 = .ok (.iadd, 1) := by decide +kernel
theorem dX9_duesOf_24 : decode cX9_duesOf 24 = .ok (.iaload, 1) := by decide +kernel
theorem dX9_duesOf_25 : decode cX9_duesOf 25 = .ok (.iadd, 1) := by decide +kernel
theorem dX9_duesOf_26 : decode cX9_duesOf 26 = .ok (.istore_n 2, 1) := by decide +kernel
theorem dX9_duesOf_27 : decode cX9_duesOf 27 = .ok (.iinc 3 1, 3) := by decide +kernel
theorem dX9_duesOf_30 : decode cX9_duesOf 30 = .ok (.goto (-26), 3) := by decide +kernel
theorem dX9_duesOf_33 : decode cX9_duesOf 33 = .ok (.iload_n 2, 1) := by decide +kernel
theorem dX9_duesOf_34 : decode cX9_duesOf 34 = .ok (.ireturn, 1) := by decide +kernel
theorem dX9_net_0 : decode cX9_net 0 = .ok (.iconst 0, 1) := by decide +kernel
theorem dX9_net_1 : decode cX9_net 1 = .ok (.istore_n 2, 1) := by decide +kernel
theorem dX9_net_2 : decode cX9_net 2 = .ok (.iconst 0, 1) := by decide +kernel
theorem dX9_net_3 : decode cX9_net 3 = .ok (.istore_n 3, 1) := by decide +kernel
theorem dX9_net_4 : decode cX9_net 4 = .ok (.iload_n 3, 1) := by decide +kernel
theorem dX9_net_5 : decode cX9_net 5 = .ok (.bipush 6, 2) := by decide +kernel
theorem dX9_net_7 : decode cX9_net 7 = .ok (.if_icmp .ge 26, 3) := by decide +kernel
theorem dX9_net_10 : decode cX9_net 10 = .ok (.iload_n 2, 1) := by decide +kernel
theorem dX9_net_11 : decode cX9_net 11 = .ok (.aload_n 0, 1) := by decide +kernel
theorem dX9_net_12 : decode cX9_net 12 = .ok (.getfield 22, 3) := by decide +kernel
theorem dX9_net_15 : decode cX9_net 15 = .ok (.bipush 38, 2) := by decide +kernel
theorem dX9_net_17 : decode cX9_net 17 = .ok (.bipush 6, 2) := by decide +kernel
theorem dX9_net_19 : decode cX9_net 19 = .ok (.iload_n 3, 1) := by decide +kernel
theorem dX9_net_20 : decode cX9_net 20 = .ok (.imul, 1) := by decide +kernel
theorem dX9_net_21 : decode cX9_net 21 = .ok (.iadd, 1) := by decide +kernel
theorem dX9_net_22 : decode cX9_net 22 = .ok (.iload_n 1, 1) := by decide +kernel
theorem dX9_net_23 : decode cX9_net 23 = .ok (.iadd, 1) := by decide +kernel
theorem dX9_net_24 : decode cX9_net 24 = .ok (.iaload, 1) := by decide +kernel
theorem dX9_net_25 : decode cX9_net 25 = .ok (.iadd, 1) := by decide +kernel
theorem dX9_net_26 : decode cX9_net 26 = .ok (.istore_n 2, 1) := by decide +kernel
theorem dX9_net_27 : decode cX9_net 27 = .ok (.iinc 3 1, 3) := by decide +kernel
theorem dX9_net_30 : decode cX9_net 30 = .ok (.goto (-26), 3) := by decide +kernel
theorem dX9_net_33 : decode cX9_net 33 = .ok (.iload_n 2, 1) := by decide +kernel
theorem dX9_net_34 : decode cX9_net 34 = .ok (.aload_n 0, 1) := by decide +kernel
theorem dX9_net_35 : decode cX9_net 35 = .ok (.iload_n 1, 1) := by decide +kernel
theorem dX9_net_36 : decode cX9_net 36 = .ok (.invokevirtual 123, 3) := by decide +kernel
theorem dX9_net_39 : decode cX9_net 39 = .ok (.isub, 1) := by decide +kernel
theorem dX9_net_40 : decode cX9_net 40 = .ok (.ireturn, 1) := by decide +kernel
theorem dX9_well_0 : decode cX9_well 0 = .ok (.aload_n 0, 1) := by decide +kernel
theorem dX9_well_1 : decode cX9_well 1 = .ok (.iload_n 1, 1) := by decide +kernel
theorem dX9_well_2 : decode cX9_well 2 = .ok (.invokevirtual 126, 3) := by decide +kernel
theorem dX9_well_5 : decode cX9_well 5 = .ok (.ifCond .ne 6, 3) := by decide +kernel
theorem dX9_well_8 : decode cX9_well 8 = .ok (.ldc 129, 2) := by decide +kernel
theorem dX9_well_10 : decode cX9_well 10 = .ok (.ireturn, 1) := by decide +kernel
theorem dX9_well_11 : decode cX9_well 11 = .ok (.iload_n 2, 1) := by decide +kernel
theorem dX9_well_12 : decode cX9_well 12 = .ok (.tableswitch 59 0 3 #[32, 41, 47, 53], 32) := by decide +kernel
theorem dX9_well_44 : decode cX9_well 44 = .ok (.aload_n 0, 1) := by decide +kernel
theorem dX9_well_45 : decode cX9_well 45 = .ok (.getfield 13, 3) := by decide +kernel
theorem dX9_well_48 : decode cX9_well 48 = .ok (.iconst 4, 1) := by decide +kernel
theorem dX9_well_49 : decode cX9_well 49 = .ok (.iload_n 1, 1) := by decide +kernel
theorem dX9_well_50 : decode cX9_well 50 = .ok (.iadd, 1) := by decide +kernel
theorem dX9_well_51 : decode cX9_well 51 = .ok (.iaload, 1) := by decide +kernel
theorem dX9_well_52 : decode cX9_well 52 = .ok (.ireturn, 1) := by decide +kernel
theorem dX9_well_53 : decode cX9_well 53 = .ok (.aload_n 0, 1) := by decide +kernel
theorem dX9_well_54 : decode cX9_well 54 = .ok (.iload_n 1, 1) := by decide +kernel
theorem dX9_well_55 : decode cX9_well 55 = .ok (.invokevirtual 130, 3) := by decide +kernel
theorem dX9_well_58 : decode cX9_well 58 = .ok (.ireturn, 1) := by decide +kernel
theorem dX9_well_59 : decode cX9_well 59 = .ok (.aload_n 0, 1) := by decide +kernel
theorem dX9_well_60 : decode cX9_well 60 = .ok (.iload_n 1, 1) := by decide +kernel
theorem dX9_well_61 : decode cX9_well 61 = .ok (.invokevirtual 123, 3) := by decide +kernel
theorem dX9_well_64 : decode cX9_well 64 = .ok (.ireturn, 1) := by decide +kernel
theorem dX9_well_65 : decode cX9_well 65 = .ok (.aload_n 0, 1) := by decide +kernel
theorem dX9_well_66 : decode cX9_well 66 = .ok (.iload_n 1, 1) := by decide +kernel
theorem dX9_well_67 : decode cX9_well 67 = .ok (.invokevirtual 133, 3) := by decide +kernel
theorem dX9_well_70 : decode cX9_well 70 = .ok (.ireturn, 1) := by decide +kernel
theorem dX9_well_71 : decode cX9_well 71 = .ok (.ldc 129, 2) := by decide +kernel
theorem dX9_well_73 : decode cX9_well 73 = .ok (.ireturn, 1) := by decide +kernel
theorem dX9_knots_0 : decode cX9_knots 0 = .ok (.aload_n 0, 1) := by decide +kernel
theorem dX9_knots_1 : decode cX9_knots 1 = .ok (.iload_n 1, 1) := by decide +kernel
theorem dX9_knots_2 : decode cX9_knots 2 = .ok (.invokevirtual 114, 3) := by decide +kernel
theorem dX9_knots_5 : decode cX9_knots 5 = .ok (.ifCond .eq 28, 3) := by decide +kernel
theorem dX9_knots_8 : decode cX9_knots 8 = .ok (.aload_n 0, 1) := by decide +kernel
theorem dX9_knots_9 : decode cX9_knots 9 = .ok (.iload_n 2, 1) := by decide +kernel
theorem dX9_knots_10 : decode cX9_knots 10 = .ok (.invokevirtual 126, 3) := by decide +kernel
theorem dX9_knots_13 : decode cX9_knots 13 = .ok (.ifCond .eq 20, 3) := by decide +kernel
theorem dX9_knots_16 : decode cX9_knots 16 = .ok (.aload_n 0, 1) := by decide +kernel
theorem dX9_knots_17 : decode cX9_knots 17 = .ok (.getfield 22, 3) := by decide +kernel
theorem dX9_knots_20 : decode cX9_knots 20 = .ok (.bipush 14, 2) := by decide +kernel
theorem dX9_knots_22 : decode cX9_knots 22 = .ok (.bipush 6, 2) := by decide +kernel
theorem dX9_knots_24 : decode cX9_knots 24 = .ok (.iload_n 1, 1) := by decide +kernel
theorem dX9_knots_25 : decode cX9_knots 25 = .ok (.imul, 1) := by decide +kernel
theorem dX9_knots_26 : decode cX9_knots 26 = .ok (.iadd, 1) := by decide +kernel
theorem dX9_knots_27 : decode cX9_knots 27 = .ok (.iload_n 2, 1) := by decide +kernel
theorem dX9_knots_28 : decode cX9_knots 28 = .ok (.iadd, 1) := by decide +kernel
theorem dX9_knots_29 : decode cX9_knots 29 = .ok (.iaload, 1) := by decide +kernel
theorem dX9_knots_30 : decode cX9_knots 30 = .ok (.goto 4, 3) := by decide +kernel
theorem dX9_knots_33 : decode cX9_knots 33 = .ok (.iconst (-1), 1) := by decide +kernel
theorem dX9_knots_34 : decode cX9_knots 34 = .ok (.ireturn, 1) := by decide +kernel
theorem dX9_dues_0 : decode cX9_dues 0 = .ok (.aload_n 0, 1) := by decide +kernel
theorem dX9_dues_1 : decode cX9_dues 1 = .ok (.iload_n 1, 1) := by decide +kernel
theorem dX9_dues_2 : decode cX9_dues 2 = .ok (.invokevirtual 126, 3) := by decide +kernel
theorem dX9_dues_5 : decode cX9_dues 5 = .ok (.ifCond .eq 33, 3) := by decide +kernel
theorem dX9_dues_8 : decode cX9_dues 8 = .ok (.aload_n 0, 1) := by decide +kernel
theorem dX9_dues_9 : decode cX9_dues 9 = .ok (.iload_n 2, 1) := by decide +kernel
theorem dX9_dues_10 : decode cX9_dues 10 = .ok (.invokevirtual 126, 3) := by decide +kernel
theorem dX9_dues_13 : decode cX9_dues 13 = .ok (.ifCond .eq 25, 3) := by decide +kernel
theorem dX9_dues_16 : decode cX9_dues 16 = .ok (.iload_n 1, 1) := by decide +kernel
theorem dX9_dues_17 : decode cX9_dues 17 = .ok (.iload_n 2, 1) := by decide +kernel
theorem dX9_dues_18 : decode cX9_dues 18 = .ok (.if_icmp .eq 20, 3) := by decide +kernel
theorem dX9_dues_21 : decode cX9_dues 21 = .ok (.aload_n 0, 1) := by decide +kernel
theorem dX9_dues_22 : decode cX9_dues 22 = .ok (.getfield 22, 3) := by decide +kernel
theorem dX9_dues_25 : decode cX9_dues 25 = .ok (.bipush 38, 2) := by decide +kernel
theorem dX9_dues_27 : decode cX9_dues 27 = .ok (.bipush 6, 2) := by decide +kernel
theorem dX9_dues_29 : decode cX9_dues 29 = .ok (.iload_n 1, 1) := by decide +kernel
theorem dX9_dues_30 : decode cX9_dues 30 = .ok (.imul, 1) := by decide +kernel
theorem dX9_dues_31 : decode cX9_dues 31 = .ok (.iadd, 1) := by decide +kernel
theorem dX9_dues_32 : decode cX9_dues 32 = .ok (.iload_n 2, 1) := by decide +kernel
theorem dX9_dues_33 : decode cX9_dues 33 = .ok (.iadd, 1) := by decide +kernel
theorem dX9_dues_34 : decode cX9_dues 34 = .ok (.iaload, 1) := by decide +kernel
theorem dX9_dues_35 : decode cX9_dues 35 = .ok (.goto 4, 3) := by decide +kernel
theorem dX9_dues_38 : decode cX9_dues 38 = .ok (.iconst (-1), 1) := by decide +kernel
theorem dX9_dues_39 : decode cX9_dues 39 = .ok (.ireturn, 1) := by decide +kernel
theorem dX9_keeps_0 : decode cX9_keeps 0 = .ok (.aload_n 0, 1) := by decide +kernel
theorem dX9_keeps_1 : decode cX9_keeps 1 = .ok (.getfield 22, 3) := by decide +kernel
theorem dX9_keeps_4 : decode cX9_keeps 4 = .ok (.bipush 74, 2) := by decide +kernel
theorem dX9_keeps_6 : decode cX9_keeps 6 = .ok (.iaload, 1) := by decide +kernel
theorem dX9_keeps_7 : decode cX9_keeps 7 = .ok (.bipush 10, 2) := by decide +kernel
theorem dX9_keeps_9 : decode cX9_keeps 9 = .ok (.if_icmp .ne 45, 3) := by decide +kernel
theorem dX9_keeps_12 : decode cX9_keeps 12 = .ok (.bipush 75, 2) := by decide +kernel
theorem dX9_keeps_14 : decode cX9_keeps 14 = .ok (.istore_n 1, 1) := by decide +kernel
theorem dX9_keeps_15 : decode cX9_keeps 15 = .ok (.iload_n 1, 1) := by decide +kernel
theorem dX9_keeps_16 : decode cX9_keeps 16 = .ok (.sipush 741, 3) := by decide +kernel
theorem dX9_keeps_19 : decode cX9_keeps 19 = .ok (.if_icmp .ge 24, 3) := by decide +kernel
theorem dX9_keeps_22 : decode cX9_keeps 22 = .ok (.aload_n 0, 1) := by decide +kernel
theorem dX9_keeps_23 : decode cX9_keeps 23 = .ok (.getfield 22, 3) := by decide +kernel
theorem dX9_keeps_26 : decode cX9_keeps 26 = .ok (.iload_n 1, 1) := by decide +kernel
theorem dX9_keeps_27 : decode cX9_keeps 27 = .ok (.aload_n 0, 1) := by decide +kernel
theorem dX9_keeps_28 : decode cX9_keeps 28 = .ok (.getfield 22, 3) := by decide +kernel
theorem dX9_keeps_31 : decode cX9_keeps 31 = .ok (.iload_n 1, 1) := by decide +kernel
theorem dX9_keeps_32 : decode cX9_keeps 32 = .ok (.bipush 74, 2) := by decide +kernel
theorem dX9_keeps_34 : decode cX9_keeps 34 = .ok (.iadd, 1) := by decide +kernel
theorem dX9_keeps_35 : decode cX9_keeps 35 = .ok (.iaload, 1) := by decide +kernel
theorem dX9_keeps_36 : decode cX9_keeps 36 = .ok (.iastore, 1) := by decide +kernel
theorem dX9_keeps_37 : decode cX9_keeps 37 = .ok (.iinc 1 1, 3) := by decide +kernel
theorem dX9_keeps_40 : decode cX9_keeps 40 = .ok (.goto (-25), 3) := by decide +kernel
theorem dX9_keeps_43 : decode cX9_keeps 43 = .ok (.aload_n 0, 1) := by decide +kernel
theorem dX9_keeps_44 : decode cX9_keeps 44 = .ok (.getfield 22, 3) := by decide +kernel
theorem dX9_keeps_47 : decode cX9_keeps 47 = .ok (.bipush 74, 2) := by decide +kernel
theorem dX9_keeps_49 : decode cX9_keeps 49 = .ok (.dup2, 1) := by decide +kernel
theorem dX9_keeps_50 : decode cX9_keeps 50 = .ok (.iaload, 1) := by decide +kernel
theorem dX9_keeps_51 : decode cX9_keeps 51 = .ok (.iconst 1, 1) := by decide +kernel
theorem dX9_keeps_52 : decode cX9_keeps 52 = .ok (.isub, 1) := by decide +kernel
theorem dX9_keeps_53 : decode cX9_keeps 53 = .ok (.iastore, 1) := by decide +kernel
theorem dX9_keeps_54 : decode cX9_keeps 54 = .ok (.bipush 75, 2) := by decide +kernel
theorem dX9_keeps_56 : decode cX9_keeps 56 = .ok (.bipush 74, 2) := by decide +kernel
theorem dX9_keeps_58 : decode cX9_keeps 58 = .ok (.aload_n 0, 1) := by decide +kernel
theorem dX9_keeps_59 : decode cX9_keeps 59 = .ok (.getfield 22, 3) := by decide +kernel
theorem dX9_keeps_62 : decode cX9_keeps 62 = .ok (.bipush 74, 2) := by decide +kernel
theorem dX9_keeps_64 : decode cX9_keeps 64 = .ok (.iaload, 1) := by decide +kernel
theorem dX9_keeps_65 : decode cX9_keeps 65 = .ok (.imul, 1) := by decide +kernel
theorem dX9_keeps_66 : decode cX9_keeps 66 = .ok (.iadd, 1) := by decide +kernel
theorem dX9_keeps_67 : decode cX9_keeps 67 = .ok (.istore_n 1, 1) := by decide +kernel
theorem dX9_keeps_68 : decode cX9_keeps 68 = .ok (.iconst 0, 1) := by decide +kernel
theorem dX9_keeps_69 : decode cX9_keeps 69 = .ok (.istore_n 2, 1) := by decide +kernel
theorem dX9_keeps_70 : decode cX9_keeps 70 = .ok (.iload_n 2, 1) := by decide +kernel
theorem dX9_keeps_71 : decode cX9_keeps 71 = .ok (.bipush 74, 2) := by decide +kernel
theorem dX9_keeps_73 : decode cX9_keeps 73 = .ok (.if_icmp .ge 23, 3) := by decide +kernel
theorem dX9_keeps_76 : decode cX9_keeps 76 = .ok (.aload_n 0, 1) := by decide +kernel
theorem dX9_keeps_77 : decode cX9_keeps 77 = .ok (.getfield 22, 3) := by decide +kernel
theorem dX9_keeps_80 : decode cX9_keeps 80 = .ok (.iload_n 1, 1) := by decide +kernel
theorem dX9_keeps_81 : decode cX9_keeps 81 = .ok (.iload_n 2, 1) := by decide +kernel
theorem dX9_keeps_82 : decode cX9_keeps 82 = .ok (.iadd, 1) := by decide +kernel
theorem dX9_keeps_83 : decode cX9_keeps 83 = .ok (.aload_n 0, 1) := by decide +kernel
theorem dX9_keeps_84 : decode cX9_keeps 84 = .ok (.getfield 22, 3) := by decide +kernel
theorem dX9_keeps_87 : decode cX9_keeps 87 = .ok (.iload_n 2, 1) := by decide +kernel
theorem dX9_keeps_88 : decode cX9_keeps 88 = .ok (.iaload, 1) := by decide +kernel
theorem dX9_keeps_89 : decode cX9_keeps 89 = .ok (.iastore, 1) := by decide +kernel
theorem dX9_keeps_90 : decode cX9_keeps 90 = .ok (.iinc 2 1, 3) := by decide +kernel
theorem dX9_keeps_93 : decode cX9_keeps 93 = .ok (.goto (-23), 3) := by decide +kernel
theorem dX9_keeps_96 : decode cX9_keeps 96 = .ok (.aload_n 0, 1) := by decide +kernel
theorem dX9_keeps_97 : decode cX9_keeps 97 = .ok (.getfield 22, 3) := by decide +kernel
theorem dX9_keeps_100 : decode cX9_keeps 100 = .ok (.bipush 74, 2) := by decide +kernel
theorem dX9_keeps_102 : decode cX9_keeps 102 = .ok (.dup2, 1) := by decide +kernel
theorem dX9_keeps_103 : decode cX9_keeps 103 = .ok (.iaload, 1) := by decide +kernel
theorem dX9_keeps_104 : decode cX9_keeps 104 = .ok (.iconst 1, 1) := by decide +kernel
theorem dX9_keeps_105 : decode cX9_keeps 105 = .ok (.iadd, 1) := by decide +kernel
theorem dX9_keeps_106 : decode cX9_keeps 106 = .ok (.iastore, 1) := by decide +kernel
theorem dX9_keeps_107 : decode cX9_keeps 107 = .ok (.return_, 1) := by decide +kernel
theorem dX9_paid_0 : decode cX9_paid 0 = .ok (.aload_n 0, 1) := by decide +kernel
theorem dX9_paid_1 : decode cX9_paid 1 = .ok (.getfield 13, 3) := by decide +kernel
theorem dX9_paid_4 : decode cX9_paid 4 = .ok (.bipush 34, 2) := by decide +kernel
theorem dX9_paid_6 : decode cX9_paid 6 = .ok (.iload_n 1, 1) := by decide +kernel
theorem dX9_paid_7 : decode cX9_paid 7 = .ok (.iadd, 1) := by decide +kernel
theorem dX9_paid_8 : decode cX9_paid 8 = .ok (.iaload, 1) := by decide +kernel
theorem dX9_paid_9 : decode cX9_paid 9 = .ok (.iconst 1, 1) := by decide +kernel
theorem dX9_paid_10 : decode cX9_paid 10 = .ok (.if_icmp .ne 7, 3) := by decide +kernel
theorem dX9_paid_13 : decode cX9_paid 13 = .ok (.iconst 1, 1) := by decide +kernel
theorem dX9_paid_14 : decode cX9_paid 14 = .ok (.goto 4, 3) := by decide +kernel
theorem dX9_paid_17 : decode cX9_paid 17 = .ok (.iconst 0, 1) := by decide +kernel
theorem dX9_paid_18 : decode cX9_paid 18 = .ok (.istore_n 3, 1) := by decide +kernel
theorem dX9_paid_19 : decode cX9_paid 19 = .ok (.iload_n 3, 1) := by decide +kernel
theorem dX9_paid_20 : decode cX9_paid 20 = .ok (.ifCond .eq 27, 3) := by decide +kernel
theorem dX9_paid_23 : decode cX9_paid 23 = .ok (.aload_n 0, 1) := by decide +kernel
theorem dX9_paid_24 : decode cX9_paid 24 = .ok (.getfield 13, 3) := by decide +kernel
theorem dX9_paid_27 : decode cX9_paid 27 = .ok (.iconst 4, 1) := by decide +kernel
theorem dX9_paid_28 : decode cX9_paid 28 = .ok (.aload_n 0, 1) := by decide +kernel
theorem dX9_paid_29 : decode cX9_paid 29 = .ok (.getfield 13, 3) := by decide +kernel
theorem dX9_paid_32 : decode cX9_paid 32 = .ok (.bipush 42, 2) := by decide +kernel
theorem dX9_paid_34 : decode cX9_paid 34 = .ok (.iload_n 1, 1) := by decide +kernel
theorem dX9_paid_35 : decode cX9_paid 35 = .ok (.iadd, 1) := by decide +kernel
theorem dX9_paid_36 : decode cX9_paid 36 = .ok (.iaload, 1) := by decide +kernel
theorem dX9_paid_37 : decode cX9_paid 37 = .ok (.iadd, 1) := by decide +kernel
theorem dX9_paid_38 : decode cX9_paid 38 = .ok (.iaload, 1) := by decide +kernel
theorem dX9_paid_39 : decode cX9_paid 39 = .ok (.iconst 1, 1) := by decide +kernel
theorem dX9_paid_40 : decode cX9_paid 40 = .ok (.if_icmp .ne 7, 3) := by decide +kernel
theorem dX9_paid_43 : decode cX9_paid 43 = .ok (.iconst 1, 1) := by decide +kernel
theorem dX9_paid_44 : decode cX9_paid 44 = .ok (.goto 4, 3) := by decide +kernel
theorem dX9_paid_47 : decode cX9_paid 47 = .ok (.iconst 0, 1) := by decide +kernel
theorem dX9_paid_48 : decode cX9_paid 48 = .ok (.istore 4, 2) := by decide +kernel
theorem dX9_paid_50 : decode cX9_paid 50 = .ok (.iload 4, 2) := by decide +kernel
theorem dX9_paid_52 : decode cX9_paid 52 = .ok (.ifCond .eq 7, 3) := by decide +kernel
theorem dX9_paid_55 : decode cX9_paid 55 = .ok (.iconst 0, 1) := by decide +kernel
theorem dX9_paid_56 : decode cX9_paid 56 = .ok (.goto 14, 3) := by decide +kernel
theorem dX9_paid_59 : decode cX9_paid 59 = .ok (.iload_n 3, 1) := by decide +kernel
theorem dX9_paid_60 : decode cX9_paid 60 = .ok (.ifCond .eq 9, 3) := by decide +kernel
theorem dX9_paid_63 : decode cX9_paid 63 = .ok (.iload_n 2, 1) := by decide +kernel
theorem dX9_paid_64 : decode cX9_paid 64 = .ok (.iconst 2, 1) := by decide +kernel
theorem dX9_paid_65 : decode cX9_paid 65 = .ok (.idiv, 1) := by decide +kernel
theorem dX9_paid_66 : decode cX9_paid 66 = .ok (.goto 4, 3) := by decide +kernel
theorem dX9_paid_69 : decode cX9_paid 69 = .ok (.iload_n 2, 1) := by decide +kernel
theorem dX9_paid_70 : decode cX9_paid 70 = .ok (.ireturn, 1) := by decide +kernel
theorem dX9_dies_0 : decode cX9_dies 0 = .ok (.aload_n 0, 1) := by decide +kernel
theorem dX9_dies_1 : decode cX9_dies 1 = .ok (.getfield 22, 3) := by decide +kernel
theorem dX9_dies_4 : decode cX9_dies 4 = .ok (.bipush 12, 2) := by decide +kernel
theorem dX9_dies_6 : decode cX9_dies 6 = .ok (.dup2, 1) := by decide +kernel
theorem dX9_dies_7 : decode cX9_dies 7 = .ok (.iaload, 1) := by decide +kernel
theorem dX9_dies_8 : decode cX9_dies 8 = .ok (.iconst 1, 1) := by decide +kernel
theorem dX9_dies_9 : decode cX9_dies 9 = .ok (.iload_n 1, 1) := by decide +kernel
theorem dX9_dies_10 : decode cX9_dies 10 = .ok (.ishl, 1) := by decide +kernel
theorem dX9_dies_11 : decode cX9_dies 11 = .ok (.ixor, 1) := by decide +kernel
theorem dX9_dies_12 : decode cX9_dies 12 = .ok (.iastore, 1) := by decide +kernel
theorem dX9_dies_13 : decode cX9_dies 13 = .ok (.aload_n 0, 1) := by decide +kernel
theorem dX9_dies_14 : decode cX9_dies 14 = .ok (.getfield 22, 3) := by decide +kernel
theorem dX9_dies_17 : decode cX9_dies 17 = .ok (.bipush 13, 2) := by decide +kernel
theorem dX9_dies_19 : decode cX9_dies 19 = .ok (.dup2, 1) := by decide +kernel
theorem dX9_dies_20 : decode cX9_dies 20 = .ok (.iaload, 1) := by decide +kernel
theorem dX9_dies_21 : decode cX9_dies 21 = .ok (.aload_n 0, 1) := by decide +kernel
theorem dX9_dies_22 : decode cX9_dies 22 = .ok (.iload_n 1, 1) := by decide +kernel
theorem dX9_dies_23 : decode cX9_dies 23 = .ok (.invokevirtual 120, 3) := by decide +kernel
theorem dX9_dies_26 : decode cX9_dies 26 = .ok (.iadd, 1) := by decide +kernel
theorem dX9_dies_27 : decode cX9_dies 27 = .ok (.iastore, 1) := by decide +kernel
theorem dX9_dies_28 : decode cX9_dies 28 = .ok (.aload_n 0, 1) := by decide +kernel
theorem dX9_dies_29 : decode cX9_dies 29 = .ok (.getfield 22, 3) := by decide +kernel
theorem dX9_dies_32 : decode cX9_dies 32 = .ok (.bipush 13, 2) := by decide +kernel
theorem dX9_dies_34 : decode cX9_dies 34 = .ok (.aload_n 0, 1) := by decide +kernel
theorem dX9_dies_35 : decode cX9_dies 35 = .ok (.getfield 22, 3) := by decide +kernel
theorem dX9_dies_38 : decode cX9_dies 38 = .ok (.bipush 13, 2) := by decide +kernel
theorem dX9_dies_40 : decode cX9_dies 40 = .ok (.iaload, 1) := by decide +kernel
theorem dX9_dies_41 : decode cX9_dies 41 = .ok (.sipush 9999, 3) := by decide +kernel
theorem dX9_dies_44 : decode cX9_dies 44 = .ok (.if_icmp .le 9, 3) := by decide +kernel
theorem dX9_dies_47 : decode cX9_dies 47 = .ok (.sipush 9999, 3) := by decide +kernel
theorem dX9_dies_50 : decode cX9_dies 50 = .ok (.goto 10, 3) := by decide +kernel
theorem dX9_dies_53 : decode cX9_dies 53 = .ok (.aload_n 0, 1) := by decide +kernel
theorem dX9_dies_54 : decode cX9_dies 54 = .ok (.getfield 22, 3) := by decide +kernel
theorem dX9_dies_57 : decode cX9_dies 57 = .ok (.bipush 13, 2) := by decide +kernel
theorem dX9_dies_59 : decode cX9_dies 59 = .ok (.iaload, 1) := by decide +kernel
theorem dX9_dies_60 : decode cX9_dies 60 = .ok (.iastore, 1) := by decide +kernel
theorem dX9_dies_61 : decode cX9_dies 61 = .ok (.iconst 0, 1) := by decide +kernel
theorem dX9_dies_62 : decode cX9_dies 62 = .ok (.istore_n 2, 1) := by decide +kernel
theorem dX9_dies_63 : decode cX9_dies 63 = .ok (.iload_n 2, 1) := by decide +kernel
theorem dX9_dies_64 : decode cX9_dies 64 = .ok (.bipush 6, 2) := by decide +kernel
theorem dX9_dies_66 : decode cX9_dies 66 = .ok (.if_icmp .ge 24, 3) := by decide +kernel
theorem dX9_dies_69 : decode cX9_dies 69 = .ok (.aload_n 0, 1) := by decide +kernel
theorem dX9_dies_70 : decode cX9_dies 70 = .ok (.getfield 22, 3) := by decide +kernel
theorem dX9_dies_73 : decode cX9_dies 73 = .ok (.bipush 14, 2) := by decide +kernel
theorem dX9_dies_75 : decode cX9_dies 75 = .ok (.bipush 6, 2) := by decide +kernel
theorem dX9_dies_77 : decode cX9_dies 77 = .ok (.iload_n 1, 1) := by decide +kernel
theorem dX9_dies_78 : decode cX9_dies 78 = .ok (.imul, 1) := by decide +kernel
theorem dX9_dies_79 : decode cX9_dies 79 = .ok (.iadd, 1) := by decide +kernel
theorem dX9_dies_80 : decode cX9_dies 80 = .ok (.iload_n 2, 1) := by decide +kernel
theorem dX9_dies_81 : decode cX9_dies 81 = .ok (.iadd, 1) := by decide +kernel
theorem dX9_dies_82 : decode cX9_dies 82 = .ok (.iconst 0, 1) := by decide +kernel
theorem dX9_dies_83 : decode cX9_dies 83 = .ok (.iastore, 1) := by decide +kernel
theorem dX9_dies_84 : decode cX9_dies 84 = .ok (.iinc 2 1, 3) := by decide +kernel
theorem dX9_dies_87 : decode cX9_dies 87 = .ok (.goto (-24), 3) := by decide +kernel
theorem dX9_dies_90 : decode cX9_dies 90 = .ok (.return_, 1) := by decide +kernel
theorem dX9_goes_0 : decode cX9_goes 0 = .ok (.aload_n 0, 1) := by decide +kernel
theorem dX9_goes_1 : decode cX9_goes 1 = .ok (.iload_n 1, 1) := by decide +kernel
theorem dX9_goes_2 : decode cX9_goes 2 = .ok (.invokevirtual 114, 3) := by decide +kernel
theorem dX9_goes_5 : decode cX9_goes 5 = .ok (.ifCond .eq 21, 3) := by decide +kernel
theorem dX9_goes_8 : decode cX9_goes 8 = .ok (.aload_n 0, 1) := by decide +kernel
theorem dX9_goes_9 : decode cX9_goes 9 = .ok (.iload_n 2, 1) := by decide +kernel
theorem dX9_goes_10 : decode cX9_goes 10 = .ok (.invokevirtual 108, 3) := by decide +kernel
theorem dX9_goes_13 : decode cX9_goes 13 = .ok (.ifCond .eq 13, 3) := by decide +kernel
theorem dX9_goes_16 : decode cX9_goes 16 = .ok (.iload_n 3, 1) := by decide +kernel
theorem dX9_goes_17 : decode cX9_goes 17 = .ok (.iconst 0, 1) := by decide +kernel
theorem dX9_goes_18 : decode cX9_goes 18 = .ok (.bipush 9, 2) := by decide +kernel
theorem dX9_goes_20 : decode cX9_goes 20 = .ok (.invokestatic 54, 3) := by decide +kernel
theorem dX9_goes_23 : decode cX9_goes 23 = .ok (.ifCond .ne 5, 3) := by decide +kernel
theorem dX9_goes_26 : decode cX9_goes 26 = .ok (.iconst (-1), 1) := by decide +kernel
theorem dX9_goes_27 : decode cX9_goes 27 = .ok (.ireturn, 1) := by decide +kernel
theorem dX9_goes_28 : decode cX9_goes 28 = .ok (.aload_n 0, 1) := by decide +kernel
theorem dX9_goes_29 : decode cX9_goes 29 = .ok (.getfield 22, 3) := by decide +kernel
theorem dX9_goes_32 : decode cX9_goes 32 = .ok (.iload_n 1, 1) := by decide +kernel
theorem dX9_goes_33 : decode cX9_goes 33 = .ok (.iaload, 1) := by decide +kernel
theorem dX9_goes_34 : decode cX9_goes 34 = .ok (.aload_n 0, 1) := by decide +kernel
theorem dX9_goes_35 : decode cX9_goes 35 = .ok (.getfield 13, 3) := by decide +kernel
theorem dX9_goes_38 : decode cX9_goes 38 = .ok (.bipush 10, 2) := by decide +kernel
theorem dX9_goes_40 : decode cX9_goes 40 = .ok (.iload_n 2, 1) := by decide +kernel
theorem dX9_goes_41 : decode cX9_goes 41 = .ok (.iadd, 1) := by decide +kernel
theorem dX9_goes_42 : decode cX9_goes 42 = .ok (.iaload, 1) := by decide +kernel
theorem dX9_goes_43 : decode cX9_goes 43 = .ok (.if_icmp .ne 7, 3) := by decide +kernel
theorem dX9_goes_46 : decode cX9_goes 46 = .ok (.iconst 1, 1) := by decide +kernel
theorem dX9_goes_47 : decode cX9_goes 47 = .ok (.goto 4, 3) := by decide +kernel
theorem dX9_goes_50 : decode cX9_goes 50 = .ok (.iconst 0, 1) := by decide +kernel
theorem dX9_goes_51 : decode cX9_goes 51 = .ok (.istore 4, 2) := by decide +kernel
theorem dX9_goes_53 : decode cX9_goes 53 = .ok (.aload_n 0, 1) := by decide +kernel
theorem dX9_goes_54 : decode cX9_goes 54 = .ok (.iload_n 1, 1) := by decide +kernel
theorem dX9_goes_55 : decode cX9_goes 55 = .ok (.invokevirtual 117, 3) := by decide +kernel
theorem dX9_goes_58 : decode cX9_goes 58 = .ok (.ifCond .eq 51, 3) := by decide +kernel
theorem dX9_goes_61 : decode cX9_goes 61 = .ok (.iload 4, 2) := by decide +kernel
theorem dX9_goes_63 : decode cX9_goes 63 = .ok (.ifCond .ne 21, 3) := by decide +kernel
theorem dX9_goes_66 : decode cX9_goes 66 = .ok (.aload_n 0, 1) := by decide +kernel
theorem dX9_goes_67 : decode cX9_goes 67 = .ok (.getfield 22, 3) := by decide +kernel
theorem dX9_goes_70 : decode cX9_goes 70 = .ok (.iload_n 1, 1) := by decide +kernel
theorem dX9_goes_71 : decode cX9_goes 71 = .ok (.iaload, 1) := by decide +kernel
theorem dX9_goes_72 : decode cX9_goes 72 = .ok (.aload_n 0, 1) := by decide +kernel
theorem dX9_goes_73 : decode cX9_goes 73 = .ok (.getfield 13, 3) := by decide +kernel
theorem dX9_goes_76 : decode cX9_goes 76 = .ok (.bipush 18, 2) := by decide +kernel
theorem dX9_goes_78 : decode cX9_goes 78 = .ok (.iload_n 2, 1) := by decide +kernel
theorem dX9_goes_79 : decode cX9_goes 79 = .ok (.iadd, 1) := by decide +kernel
theorem dX9_goes_80 : decode cX9_goes 80 = .ok (.iaload, 1) := by decide +kernel
theorem dX9_goes_81 : decode cX9_goes 81 = .ok (.if_icmp .ne 28, 3) := by decide +kernel
theorem dX9_goes_84 : decode cX9_goes 84 = .ok (.iload_n 3, 1) := by decide +kernel
theorem dX9_goes_85 : decode cX9_goes 85 = .ok (.aload_n 0, 1) := by decide +kernel
theorem dX9_goes_86 : decode cX9_goes 86 = .ok (.getfield 22, 3) := by decide +kernel
theorem dX9_goes_89 : decode cX9_goes 89 = .ok (.iconst 4, 1) := by decide +kernel
theorem dX9_goes_90 : decode cX9_goes 90 = .ok (.iload_n 1, 1) := by decide +kernel
theorem dX9_goes_91 : decode cX9_goes 91 = .ok (.iadd, 1) := by decide +kernel
theorem dX9_goes_92 : decode cX9_goes 92 = .ok (.iaload, 1) := by decide +kernel
theorem dX9_goes_93 : decode cX9_goes 93 = .ok (.if_icmp .gt 16, 3) := by decide +kernel
theorem dX9_goes_96 : decode cX9_goes 96 = .ok (.iload_n 3, 1) := by decide +kernel
theorem dX9_goes_97 : decode cX9_goes 97 = .ok (.aload_n 0, 1) := by decide +kernel
theorem dX9_goes_98 : decode cX9_goes 98 = .ok (.getfield 13, 3) := by decide +kernel
theorem dX9_goes_101 : decode cX9_goes 101 = .ok (.bipush 26, 2) := by decide +kernel
theorem dX9_goes_103 : decode cX9_goes 103 = .ok (.iload_n 2, 1) := by decide +kernel
theorem dX9_goes_104 : decode cX9_goes 104 = .ok (.iadd, 1) := by decide +kernel
theorem dX9_goes_105 : decode cX9_goes 105 = .ok (.iaload, 1) := by decide +kernel
theorem dX9_goes_106 : decode cX9_goes 106 = .ok (.if_icmp .le 6, 3) := by decide +kernel
theorem dX9_goes_109 : decode cX9_goes 109 = .ok (.bipush (-2), 2) := by decide +kernel
theorem dX9_goes_111 : decode cX9_goes 111 = .ok (.ireturn, 1) := by decide +kernel
theorem dX9_goes_112 : decode cX9_goes 112 = .ok (.aload_n 0, 1) := by decide +kernel
theorem dX9_goes_113 : decode cX9_goes 113 = .ok (.invokevirtual 136, 3) := by decide +kernel
theorem dX9_goes_116 : decode cX9_goes 116 = .ok (.aload_n 0, 1) := by decide +kernel
theorem dX9_goes_117 : decode cX9_goes 117 = .ok (.getfield 13, 3) := by decide +kernel
theorem dX9_goes_120 : decode cX9_goes 120 = .ok (.bipush 26, 2) := by decide +kernel
theorem dX9_goes_122 : decode cX9_goes 122 = .ok (.iload_n 2, 1) := by decide +kernel
theorem dX9_goes_123 : decode cX9_goes 123 = .ok (.iadd, 1) := by decide +kernel
theorem dX9_goes_124 : decode cX9_goes 124 = .ok (.iaload, 1) := by decide +kernel
theorem dX9_goes_125 : decode cX9_goes 125 = .ok (.iload_n 3, 1) := by decide +kernel
theorem dX9_goes_126 : decode cX9_goes 126 = .ok (.isub, 1) := by decide +kernel
theorem dX9_goes_127 : decode cX9_goes 127 = .ok (.istore 5, 2) := by decide +kernel
theorem dX9_goes_129 : decode cX9_goes 129 = .ok (.aload_n 0, 1) := by decide +kernel
theorem dX9_goes_130 : decode cX9_goes 130 = .ok (.getfield 22, 3) := by decide +kernel
theorem dX9_goes_133 : decode cX9_goes 133 = .ok (.iconst 4, 1) := by decide +kernel
theorem dX9_goes_134 : decode cX9_goes 134 = .ok (.iload_n 1, 1) := by decide +kernel
theorem dX9_goes_135 : decode cX9_goes 135 = .ok (.iadd, 1) := by decide +kernel
theorem dX9_goes_136 : decode cX9_goes 136 = .ok (.dup2, 1) := by decide +kernel
theorem dX9_goes_137 : decode cX9_goes 137 = .ok (.iaload, 1) := by decide +kernel
theorem dX9_goes_138 : decode cX9_goes 138 = .ok (.iload_n 3, 1) := by decide +kernel
theorem dX9_goes_139 : decode cX9_goes 139 = .ok (.isub, 1) := by decide +kernel
theorem dX9_goes_140 : decode cX9_goes 140 = .ok (.iastore, 1) := by decide +kernel
theorem dX9_goes_141 : decode cX9_goes 141 = .ok (.aload_n 0, 1) := by decide +kernel
theorem dX9_goes_142 : decode cX9_goes 142 = .ok (.getfield 22, 3) := by decide +kernel
theorem dX9_goes_145 : decode cX9_goes 145 = .ok (.iload_n 1, 1) := by decide +kernel
theorem dX9_goes_146 : decode cX9_goes 146 = .ok (.iload 4, 2) := by decide +kernel
theorem dX9_goes_148 : decode cX9_goes 148 = .ok (.ifCond .eq 15, 3) := by decide +kernel
theorem dX9_goes_151 : decode cX9_goes 151 = .ok (.aload_n 0, 1) := by decide +kernel
theorem dX9_goes_152 : decode cX9_goes 152 = .ok (.getfield 13, 3) := by decide +kernel
theorem dX9_goes_155 : decode cX9_goes 155 = .ok (.bipush 18, 2) := by decide +kernel
theorem dX9_goes_157 : decode cX9_goes 157 = .ok (.iload_n 2, 1) := by decide +kernel
theorem dX9_goes_158 : decode cX9_goes 158 = .ok (.iadd, 1) := by decide +kernel
theorem dX9_goes_159 : decode cX9_goes 159 = .ok (.iaload, 1) := by decide +kernel
theorem dX9_goes_160 : decode cX9_goes 160 = .ok (.goto 12, 3) := by decide +kernel
theorem dX9_goes_163 : decode cX9_goes 163 = .ok (.aload_n 0, 1) := by decide +kernel
theorem dX9_goes_164 : decode cX9_goes 164 = .ok (.getfield 13, 3) := by decide +kernel
theorem dX9_goes_167 : decode cX9_goes 167 = .ok (.bipush 10, 2) := by decide +kernel
theorem dX9_goes_169 : decode cX9_goes 169 = .ok (.iload_n 2, 1) := by decide +kernel
theorem dX9_goes_170 : decode cX9_goes 170 = .ok (.iadd, 1) := by decide +kernel
theorem dX9_goes_171 : decode cX9_goes 171 = .ok (.iaload, 1) := by decide +kernel
theorem dX9_goes_172 : decode cX9_goes 172 = .ok (.iastore, 1) := by decide +kernel
theorem dX9_goes_173 : decode cX9_goes 173 = .ok (.aload_n 0, 1) := by decide +kernel
theorem dX9_goes_174 : decode cX9_goes 174 = .ok (.getfield 22, 3) := by decide +kernel
theorem dX9_goes_177 : decode cX9_goes 177 = .ok (.bipush 8, 2) := by decide +kernel
theorem dX9_goes_179 : decode cX9_goes 179 = .ok (.iload_n 1, 1) := by decide +kernel
theorem dX9_goes_180 : decode cX9_goes 180 = .ok (.iadd, 1) := by decide +kernel
theorem dX9_goes_181 : decode cX9_goes 181 = .ok (.dup2, 1) := by decide +kernel
theorem dX9_goes_182 : decode cX9_goes 182 = .ok (.iaload, 1) := by decide +kernel
theorem dX9_goes_183 : decode cX9_goes 183 = .ok (.iload 5, 2) := by decide +kernel
theorem dX9_goes_185 : decode cX9_goes 185 = .ok (.iadd, 1) := by decide +kernel
theorem dX9_goes_186 : decode cX9_goes 186 = .ok (.iastore, 1) := by decide +kernel
theorem dX9_goes_187 : decode cX9_goes 187 = .ok (.aload_n 0, 1) := by decide +kernel
theorem dX9_goes_188 : decode cX9_goes 188 = .ok (.getfield 22, 3) := by decide +kernel
theorem dX9_goes_191 : decode cX9_goes 191 = .ok (.bipush 8, 2) := by decide +kernel
theorem dX9_goes_193 : decode cX9_goes 193 = .ok (.iload_n 1, 1) := by decide +kernel
theorem dX9_goes_194 : decode cX9_goes 194 = .ok (.iadd, 1) := by decide +kernel
theorem dX9_goes_195 : decode cX9_goes 195 = .ok (.iaload, 1) := by decide +kernel
theorem dX9_goes_196 : decode cX9_goes 196 = .ok (.aload_n 0, 1) := by decide +kernel
theorem dX9_goes_197 : decode cX9_goes 197 = .ok (.getfield 13, 3) := by decide +kernel
theorem dX9_goes_200 : decode cX9_goes 200 = .ok (.bipush 50, 2) := by decide +kernel
theorem dX9_goes_202 : decode cX9_goes 202 = .ok (.iload_n 1, 1) := by decide +kernel
theorem dX9_goes_203 : decode cX9_goes 203 = .ok (.iadd, 1) := by decide +kernel
theorem dX9_goes_204 : decode cX9_goes 204 = .ok (.iaload, 1) := by decide +kernel
theorem dX9_goes_205 : decode cX9_goes 205 = .ok (.if_icmp .le 10, 3) := by decide +kernel
theorem dX9_goes_208 : decode cX9_goes 208 = .ok (.aload_n 0, 1) := by decide +kernel
theorem dX9_goes_209 : decode cX9_goes 209 = .ok (.iload_n 1, 1) := by decide +kernel
theorem dX9_goes_210 : decode cX9_goes 210 = .ok (.invokevirtual 139, 3) := by decide +kernel
theorem dX9_goes_213 : decode cX9_goes 213 = .ok (.iconst 0, 1) := by decide +kernel
theorem dX9_goes_214 : decode cX9_goes 214 = .ok (.ireturn, 1) := by decide +kernel
theorem dX9_goes_215 : decode cX9_goes 215 = .ok (.bipush 14, 2) := by decide +kernel
theorem dX9_goes_217 : decode cX9_goes 217 = .ok (.bipush 6, 2) := by decide +kernel
theorem dX9_goes_219 : decode cX9_goes 219 = .ok (.iload_n 1, 1) := by decide +kernel
theorem dX9_goes_220 : decode cX9_goes 220 = .ok (.imul, 1) := by decide +kernel
theorem dX9_goes_221 : decode cX9_goes 221 = .ok (.iadd, 1) := by decide +kernel
theorem dX9_goes_222 : decode cX9_goes 222 = .ok (.aload_n 0, 1) := by decide +kernel
theorem dX9_goes_223 : decode cX9_goes 223 = .ok (.getfield 13, 3) := by decide +kernel
theorem dX9_goes_226 : decode cX9_goes 226 = .ok (.bipush 42, 2) := by decide +kernel
theorem dX9_goes_228 : decode cX9_goes 228 = .ok (.iload_n 2, 1) := by decide +kernel
theorem dX9_goes_229 : decode cX9_goes 229 = .ok (.iadd, 1) := by decide +kernel
theorem dX9_goes_230 : decode cX9_goes 230 = .ok (.iaload, 1) := by decide +kernel
theorem dX9_goes_231 : decode cX9_goes 231 = .ok (.iadd, 1) := by decide +kernel
theorem dX9_goes_232 : decode cX9_goes 232 = .ok (.istore 6, 2) := by decide +kernel
theorem dX9_goes_234 : decode cX9_goes 234 = .ok (.aload_n 0, 1) := by decide +kernel
theorem dX9_goes_235 : decode cX9_goes 235 = .ok (.getfield 22, 3) := by decide +kernel
theorem dX9_goes_238 : decode cX9_goes 238 = .ok (.iload 6, 2) := by decide +kernel
theorem dX9_goes_240 : decode cX9_goes 240 = .ok (.iaload, 1) := by decide +kernel
theorem dX9_goes_241 : decode cX9_goes 241 = .ok (.aload_n 0, 1) := by decide +kernel
theorem dX9_goes_242 : decode cX9_goes 242 = .ok (.iload_n 2, 1) := by decide +kernel
theorem dX9_goes_243 : decode cX9_goes 243 = .ok (.iload 5, 2) := by decide +kernel
theorem dX9_goes_245 : decode cX9_goes 245 = .ok (.invokevirtual 143, 3) := by decide +kernel
theorem dX9_goes_248 : decode cX9_goes 248 = .ok (.isub, 1) := by decide +kernel
theorem dX9_goes_249 : decode cX9_goes 249 = .ok (.istore 7, 2) := by decide +kernel
theorem dX9_goes_251 : decode cX9_goes 251 = .ok (.aload_n 0, 1) := by decide +kernel
theorem dX9_goes_252 : decode cX9_goes 252 = .ok (.getfield 22, 3) := by decide +kernel
theorem dX9_goes_255 : decode cX9_goes 255 = .ok (.iload 6, 2) := by decide +kernel
theorem dX9_goes_257 : decode cX9_goes 257 = .ok (.iload 7, 2) := by decide +kernel
theorem dX9_goes_259 : decode cX9_goes 259 = .ok (.ifCond .ge 7, 3) := by decide +kernel
theorem dX9_goes_262 : decode cX9_goes 262 = .ok (.iconst 0, 1) := by decide +kernel
theorem dX9_goes_263 : decode cX9_goes 263 = .ok (.goto 5, 3) := by decide +kernel
theorem dX9_goes_266 : decode cX9_goes 266 = .ok (.iload 7, 2) := by decide +kernel
theorem dX9_goes_268 : decode cX9_goes 268 = .ok (.iastore, 1) := by decide +kernel
theorem dX9_goes_269 : decode cX9_goes 269 = .ok (.iconst 1, 1) := by decide +kernel
theorem dX9_goes_270 : decode cX9_goes 270 = .ok (.ireturn, 1) := by decide +kernel
theorem dX9_drinks_0 : decode cX9_drinks 0 = .ok (.aload_n 0, 1) := by decide +kernel
theorem dX9_drinks_1 : decode cX9_drinks 1 = .ok (.iload_n 1, 1) := by decide +kernel
theorem dX9_drinks_2 : decode cX9_drinks 2 = .ok (.invokevirtual 114, 3) := by decide +kernel
theorem dX9_drinks_5 : decode cX9_drinks 5 = .ok (.ifCond .eq 13, 3) := by decide +kernel
theorem dX9_drinks_8 : decode cX9_drinks 8 = .ok (.iload_n 2, 1) := by decide +kernel
theorem dX9_drinks_9 : decode cX9_drinks 9 = .ok (.iconst 1, 1) := by decide +kernel
theorem dX9_drinks_10 : decode cX9_drinks 10 = .ok (.bipush 20, 2) := by decide +kernel
theorem dX9_drinks_12 : decode cX9_drinks 12 = .ok (.invokestatic 54, 3) := by decide +kernel
theorem dX9_drinks_15 : decode cX9_drinks 15 = .ok (.ifCond .ne 5, 3) := by decide +kernel
theorem dX9_drinks_18 : decode cX9_drinks 18 = .ok (.iconst (-1), 1) := by decide +kernel
theorem dX9_drinks_19 : decode cX9_drinks 19 = .ok (.ireturn, 1) := by decide +kernel
theorem dX9_drinks_20 : decode cX9_drinks 20 = .ok (.bipush 14, 2) := by decide +kernel
theorem dX9_drinks_22 : decode cX9_drinks 22 = .ok (.bipush 6, 2) := by decide +kernel
theorem dX9_drinks_24 : decode cX9_drinks 24 = .ok (.iload_n 1, 1) := by decide +kernel
theorem dX9_drinks_25 : decode cX9_drinks 25 = .ok (.imul, 1) := by decide +kernel
theorem dX9_drinks_26 : decode cX9_drinks 26 = .ok (.iadd, 1) := by decide +kernel
theorem dX9_drinks_27 : decode cX9_drinks 27 = .ok (.aload_n 0, 1) := by decide +kernel
theorem dX9_drinks_28 : decode cX9_drinks 28 = .ok (.getfield 22, 3) := by decide +kernel
theorem dX9_drinks_31 : decode cX9_drinks 31 = .ok (.iload_n 1, 1) := by decide +kernel
theorem dX9_drinks_32 : decode cX9_drinks 32 = .ok (.iaload, 1) := by decide +kernel
theorem dX9_drinks_33 : decode cX9_drinks 33 = .ok (.iadd, 1) := by decide +kernel
theorem dX9_drinks_34 : decode cX9_drinks 34 = .ok (.istore_n 3, 1) := by decide +kernel
theorem dX9_drinks_35 : decode cX9_drinks 35 = .ok (.aload_n 0, 1) := by decide +kernel
theorem dX9_drinks_36 : decode cX9_drinks 36 = .ok (.iload_n 1, 1) := by decide +kernel
theorem dX9_drinks_37 : decode cX9_drinks 37 = .ok (.invokevirtual 117, 3) := by decide +kernel
theorem dX9_drinks_40 : decode cX9_drinks 40 = .ok (.ifCond .eq 29, 3) := by decide +kernel
theorem dX9_drinks_43 : decode cX9_drinks 43 = .ok (.iload_n 2, 1) := by decide +kernel
theorem dX9_drinks_44 : decode cX9_drinks 44 = .ok (.aload_n 0, 1) := by decide +kernel
theorem dX9_drinks_45 : decode cX9_drinks 45 = .ok (.getfield 22, 3) := by decide +kernel
theorem dX9_drinks_48 : decode cX9_drinks 48 = .ok (.bipush 8, 2) := by decide +kernel
theorem dX9_drinks_50 : decode cX9_drinks 50 = .ok (.iload_n 1, 1) := by decide +kernel
theorem dX9_drinks_51 : decode cX9_drinks 51 = .ok (.iadd, 1) := by decide +kernel
theorem dX9_drinks_52 : decode cX9_drinks 52 = .ok (.iaload, 1) := by decide +kernel
theorem dX9_drinks_53 : decode cX9_drinks 53 = .ok (.if_icmp .gt 16, 3) := by decide +kernel
theorem dX9_drinks_56 : decode cX9_drinks 56 = .ok (.aload_n 0, 1) := by decide +kernel
theorem dX9_drinks_57 : decode cX9_drinks 57 = .ok (.getfield 22, 3) := by decide +kernel
theorem dX9_drinks_60 : decode cX9_drinks 60 = .ok (.iload_n 3, 1) := by decide +kernel
theorem dX9_drinks_61 : decode cX9_drinks 61 = .ok (.iaload, 1) := by decide +kernel
theorem dX9_drinks_62 : decode cX9_drinks 62 = .ok (.iload_n 2, 1) := by decide +kernel
theorem dX9_drinks_63 : decode cX9_drinks 63 = .ok (.iadd, 1) := by decide +kernel
theorem dX9_drinks_64 : decode cX9_drinks 64 = .ok (.bipush 99, 2) := by decide +kernel
theorem dX9_drinks_66 : decode cX9_drinks 66 = .ok (.if_icmp .le 6, 3) := by decide +kernel
theorem dX9_drinks_69 : decode cX9_drinks 69 = .ok (.bipush (-2), 2) := by decide +kernel
theorem dX9_drinks_71 : decode cX9_drinks 71 = .ok (.ireturn, 1) := by decide +kernel
theorem dX9_drinks_72 : decode cX9_drinks 72 = .ok (.aload_n 0, 1) := by decide +kernel
theorem dX9_drinks_73 : decode cX9_drinks 73 = .ok (.invokevirtual 136, 3) := by decide +kernel
theorem dX9_drinks_76 : decode cX9_drinks 76 = .ok (.aload_n 0, 1) := by decide +kernel
theorem dX9_drinks_77 : decode cX9_drinks 77 = .ok (.getfield 22, 3) := by decide +kernel
theorem dX9_drinks_80 : decode cX9_drinks 80 = .ok (.bipush 8, 2) := by decide +kernel
theorem dX9_drinks_82 : decode cX9_drinks 82 = .ok (.iload_n 1, 1) := by decide +kernel
theorem dX9_drinks_83 : decode cX9_drinks 83 = .ok (.iadd, 1) := by decide +kernel
theorem dX9_drinks_84 : decode cX9_drinks 84 = .ok (.dup2, 1) := by decide +kernel
theorem dX9_drinks_85 : decode cX9_drinks 85 = .ok (.iaload, 1) := by decide +kernel
theorem dX9_drinks_86 : decode cX9_drinks 86 = .ok (.iload_n 2, 1) := by decide +kernel
theorem dX9_drinks_87 : decode cX9_drinks 87 = .ok (.isub, 1) := by decide +kernel
theorem dX9_drinks_88 : decode cX9_drinks 88 = .ok (.iastore, 1) := by decide +kernel
theorem dX9_drinks_89 : decode cX9_drinks 89 = .ok (.aload_n 0, 1) := by decide +kernel
theorem dX9_drinks_90 : decode cX9_drinks 90 = .ok (.getfield 22, 3) := by decide +kernel
theorem dX9_drinks_93 : decode cX9_drinks 93 = .ok (.iload_n 3, 1) := by decide +kernel
theorem dX9_drinks_94 : decode cX9_drinks 94 = .ok (.dup2, 1) := by decide +kernel
theorem dX9_drinks_95 : decode cX9_drinks 95 = .ok (.iaload, 1) := by decide +kernel
theorem dX9_drinks_96 : decode cX9_drinks 96 = .ok (.iload_n 2, 1) := by decide +kernel
theorem dX9_drinks_97 : decode cX9_drinks 97 = .ok (.iadd, 1) := by decide +kernel
theorem dX9_drinks_98 : decode cX9_drinks 98 = .ok (.iastore, 1) := by decide +kernel
theorem dX9_drinks_99 : decode cX9_drinks 99 = .ok (.aload_n 0, 1) := by decide +kernel
theorem dX9_drinks_100 : decode cX9_drinks 100 = .ok (.getfield 22, 3) := by decide +kernel
theorem dX9_drinks_103 : decode cX9_drinks 103 = .ok (.iload_n 3, 1) := by decide +kernel
theorem dX9_drinks_104 : decode cX9_drinks 104 = .ok (.iaload, 1) := by decide +kernel
theorem dX9_drinks_105 : decode cX9_drinks 105 = .ok (.ireturn, 1) := by decide +kernel
theorem dX9_fills_0 : decode cX9_fills 0 = .ok (.aload_n 0, 1) := by decide +kernel
theorem dX9_fills_1 : decode cX9_fills 1 = .ok (.iload_n 1, 1) := by decide +kernel
theorem dX9_fills_2 : decode cX9_fills 2 = .ok (.invokevirtual 114, 3) := by decide +kernel
theorem dX9_fills_5 : decode cX9_fills 5 = .ok (.ifCond .eq 13, 3) := by decide +kernel
theorem dX9_fills_8 : decode cX9_fills 8 = .ok (.iload_n 2, 1) := by decide +kernel
theorem dX9_fills_9 : decode cX9_fills 9 = .ok (.iconst 1, 1) := by decide +kernel
theorem dX9_fills_10 : decode cX9_fills 10 = .ok (.bipush 20, 2) := by decide +kernel
theorem dX9_fills_12 : decode cX9_fills 12 = .ok (.invokestatic 54, 3) := by decide +kernel
theorem dX9_fills_15 : decode cX9_fills 15 = .ok (.ifCond .ne 5, 3) := by decide +kernel
theorem dX9_fills_18 : decode cX9_fills 18 = .ok (.iconst (-1), 1) := by decide +kernel
theorem dX9_fills_19 : decode cX9_fills 19 = .ok (.ireturn, 1) := by decide +kernel
theorem dX9_fills_20 : decode cX9_fills 20 = .ok (.bipush 14, 2) := by decide +kernel
theorem dX9_fills_22 : decode cX9_fills 22 = .ok (.bipush 6, 2) := by decide +kernel
theorem dX9_fills_24 : decode cX9_fills 24 = .ok (.iload_n 1, 1) := by decide +kernel
theorem dX9_fills_25 : decode cX9_fills 25 = .ok (.imul, 1) := by decide +kernel
theorem dX9_fills_26 : decode cX9_fills 26 = .ok (.iadd, 1) := by decide +kernel
theorem dX9_fills_27 : decode cX9_fills 27 = .ok (.aload_n 0, 1) := by decide +kernel
theorem dX9_fills_28 : decode cX9_fills 28 = .ok (.getfield 22, 3) := by decide +kernel
theorem dX9_fills_31 : decode cX9_fills 31 = .ok (.iload_n 1, 1) := by decide +kernel
theorem dX9_fills_32 : decode cX9_fills 32 = .ok (.iaload, 1) := by decide +kernel
theorem dX9_fills_33 : decode cX9_fills 33 = .ok (.iadd, 1) := by decide +kernel
theorem dX9_fills_34 : decode cX9_fills 34 = .ok (.istore_n 3, 1) := by decide +kernel
theorem dX9_fills_35 : decode cX9_fills 35 = .ok (.aload_n 0, 1) := by decide +kernel
theorem dX9_fills_36 : decode cX9_fills 36 = .ok (.iload_n 1, 1) := by decide +kernel
theorem dX9_fills_37 : decode cX9_fills 37 = .ok (.invokevirtual 117, 3) := by decide +kernel
theorem dX9_fills_40 : decode cX9_fills 40 = .ok (.ifCond .eq 31, 3) := by decide +kernel
theorem dX9_fills_43 : decode cX9_fills 43 = .ok (.aload_n 0, 1) := by decide +kernel
theorem dX9_fills_44 : decode cX9_fills 44 = .ok (.getfield 22, 3) := by decide +kernel
theorem dX9_fills_47 : decode cX9_fills 47 = .ok (.iconst 4, 1) := by decide +kernel
theorem dX9_fills_48 : decode cX9_fills 48 = .ok (.iload_n 1, 1) := by decide +kernel
theorem dX9_fills_49 : decode cX9_fills 49 = .ok (.iadd, 1) := by decide +kernel
theorem dX9_fills_50 : decode cX9_fills 50 = .ok (.iaload, 1) := by decide +kernel
theorem dX9_fills_51 : decode cX9_fills 51 = .ok (.iload_n 2, 1) := by decide +kernel
theorem dX9_fills_52 : decode cX9_fills 52 = .ok (.iadd, 1) := by decide +kernel
theorem dX9_fills_53 : decode cX9_fills 53 = .ok (.bipush 20, 2) := by decide +kernel
theorem dX9_fills_55 : decode cX9_fills 55 = .ok (.if_icmp .gt 16, 3) := by decide +kernel
theorem dX9_fills_58 : decode cX9_fills 58 = .ok (.aload_n 0, 1) := by decide +kernel
theorem dX9_fills_59 : decode cX9_fills 59 = .ok (.getfield 22, 3) := by decide +kernel
theorem dX9_fills_62 : decode cX9_fills 62 = .ok (.iload_n 3, 1) := by decide +kernel
theorem dX9_fills_63 : decode cX9_fills 63 = .ok (.iaload, 1) := by decide +kernel
theorem dX9_fills_64 : decode cX9_fills 64 = .ok (.iload_n 2, 1) := by decide +kernel
theorem dX9_fills_65 : decode cX9_fills 65 = .ok (.iadd, 1) := by decide +kernel
theorem dX9_fills_66 : decode cX9_fills 66 = .ok (.bipush 99, 2) := by decide +kernel
theorem dX9_fills_68 : decode cX9_fills 68 = .ok (.if_icmp .le 6, 3) := by decide +kernel
theorem dX9_fills_71 : decode cX9_fills 71 = .ok (.bipush (-2), 2) := by decide +kernel
theorem dX9_fills_73 : decode cX9_fills 73 = .ok (.ireturn, 1) := by decide +kernel
theorem dX9_fills_74 : decode cX9_fills 74 = .ok (.aload_n 0, 1) := by decide +kernel
theorem dX9_fills_75 : decode cX9_fills 75 = .ok (.invokevirtual 136, 3) := by decide +kernel
theorem dX9_fills_78 : decode cX9_fills 78 = .ok (.aload_n 0, 1) := by decide +kernel
theorem dX9_fills_79 : decode cX9_fills 79 = .ok (.getfield 22, 3) := by decide +kernel
theorem dX9_fills_82 : decode cX9_fills 82 = .ok (.iconst 4, 1) := by decide +kernel
theorem dX9_fills_83 : decode cX9_fills 83 = .ok (.iload_n 1, 1) := by decide +kernel
theorem dX9_fills_84 : decode cX9_fills 84 = .ok (.iadd, 1) := by decide +kernel
theorem dX9_fills_85 : decode cX9_fills 85 = .ok (.dup2, 1) := by decide +kernel
theorem dX9_fills_86 : decode cX9_fills 86 = .ok (.iaload, 1) := by decide +kernel
theorem dX9_fills_87 : decode cX9_fills 87 = .ok (.iload_n 2, 1) := by decide +kernel
theorem dX9_fills_88 : decode cX9_fills 88 = .ok (.iadd, 1) := by decide +kernel
theorem dX9_fills_89 : decode cX9_fills 89 = .ok (.iastore, 1) := by decide +kernel
theorem dX9_fills_90 : decode cX9_fills 90 = .ok (.aload_n 0, 1) := by decide +kernel
theorem dX9_fills_91 : decode cX9_fills 91 = .ok (.getfield 22, 3) := by decide +kernel
theorem dX9_fills_94 : decode cX9_fills 94 = .ok (.iload_n 3, 1) := by decide +kernel
theorem dX9_fills_95 : decode cX9_fills 95 = .ok (.dup2, 1) := by decide +kernel
theorem dX9_fills_96 : decode cX9_fills 96 = .ok (.iaload, 1) := by decide +kernel
theorem dX9_fills_97 : decode cX9_fills 97 = .ok (.iload_n 2, 1) := by decide +kernel
theorem dX9_fills_98 : decode cX9_fills 98 = .ok (.iadd, 1) := by decide +kernel
theorem dX9_fills_99 : decode cX9_fills 99 = .ok (.iastore, 1) := by decide +kernel
theorem dX9_fills_100 : decode cX9_fills 100 = .ok (.aload_n 0, 1) := by decide +kernel
theorem dX9_fills_101 : decode cX9_fills 101 = .ok (.getfield 22, 3) := by decide +kernel
theorem dX9_fills_104 : decode cX9_fills 104 = .ok (.iload_n 3, 1) := by decide +kernel
theorem dX9_fills_105 : decode cX9_fills 105 = .ok (.iaload, 1) := by decide +kernel
theorem dX9_fills_106 : decode cX9_fills 106 = .ok (.ireturn, 1) := by decide +kernel
theorem dX9_hands_0 : decode cX9_hands 0 = .ok (.aload_n 0, 1) := by decide +kernel
theorem dX9_hands_1 : decode cX9_hands 1 = .ok (.iload_n 1, 1) := by decide +kernel
theorem dX9_hands_2 : decode cX9_hands 2 = .ok (.invokevirtual 114, 3) := by decide +kernel
theorem dX9_hands_5 : decode cX9_hands 5 = .ok (.ifCond .eq 35, 3) := by decide +kernel
theorem dX9_hands_8 : decode cX9_hands 8 = .ok (.aload_n 0, 1) := by decide +kernel
theorem dX9_hands_9 : decode cX9_hands 9 = .ok (.iload_n 2, 1) := by decide +kernel
theorem dX9_hands_10 : decode cX9_hands 10 = .ok (.invokevirtual 114, 3) := by decide +kernel
theorem dX9_hands_13 : decode cX9_hands 13 = .ok (.ifCond .eq 27, 3) := by decide +kernel
theorem dX9_hands_16 : decode cX9_hands 16 = .ok (.iload_n 1, 1) := by decide +kernel
theorem dX9_hands_17 : decode cX9_hands 17 = .ok (.iload_n 2, 1) := by decide +kernel
theorem dX9_hands_18 : decode cX9_hands 18 = .ok (.if_icmp .eq 22, 3) := by decide +kernel
theorem dX9_hands_21 : decode cX9_hands 21 = .ok (.aload_n 0, 1) := by decide +kernel
theorem dX9_hands_22 : decode cX9_hands 22 = .ok (.iload_n 3, 1) := by decide +kernel
theorem dX9_hands_23 : decode cX9_hands 23 = .ok (.invokevirtual 126, 3) := by decide +kernel
theorem dX9_hands_26 : decode cX9_hands 26 = .ok (.ifCond .eq 14, 3) := by decide +kernel
theorem dX9_hands_29 : decode cX9_hands 29 = .ok (.iload 4, 2) := by decide +kernel
theorem dX9_hands_31 : decode cX9_hands 31 = .ok (.iconst 1, 1) := by decide +kernel
theorem dX9_hands_32 : decode cX9_hands 32 = .ok (.bipush 99, 2) := by decide +kernel
theorem dX9_hands_34 : decode cX9_hands 34 = .ok (.invokestatic 54, 3) := by decide +kernel
theorem dX9_hands_37 : decode cX9_hands 37 = .ok (.ifCond .ne 5, 3) := by decide +kernel
theorem dX9_hands_40 : decode cX9_hands 40 = .ok (.iconst (-1), 1) := by decide +kernel
theorem dX9_hands_41 : decode cX9_hands 41 = .ok (.ireturn, 1) := by decide +kernel
theorem dX9_hands_42 : decode cX9_hands 42 = .ok (.bipush 14, 2) := by decide +kernel
theorem dX9_hands_44 : decode cX9_hands 44 = .ok (.bipush 6, 2) := by decide +kernel
theorem dX9_hands_46 : decode cX9_hands 46 = .ok (.iload_n 1, 1) := by decide +kernel
theorem dX9_hands_47 : decode cX9_hands 47 = .ok (.imul, 1) := by decide +kernel
theorem dX9_hands_48 : decode cX9_hands 48 = .ok (.iadd, 1) := by decide +kernel
theorem dX9_hands_49 : decode cX9_hands 49 = .ok (.iload_n 3, 1) := by decide +kernel
theorem dX9_hands_50 : decode cX9_hands 50 = .ok (.iadd, 1) := by decide +kernel
theorem dX9_hands_51 : decode cX9_hands 51 = .ok (.istore 5, 2) := by decide +kernel
theorem dX9_hands_53 : decode cX9_hands 53 = .ok (.bipush 14, 2) := by decide +kernel
theorem dX9_hands_55 : decode cX9_hands 55 = .ok (.bipush 6, 2) := by decide +kernel
theorem dX9_hands_57 : decode cX9_hands 57 = .ok (.iload_n 2, 1) := by decide +kernel
theorem dX9_hands_58 : decode cX9_hands 58 = .ok (.imul, 1) := by decide +kernel
theorem dX9_hands_59 : decode cX9_hands 59 = .ok (.iadd, 1) := by decide +kernel
theorem dX9_hands_60 : decode cX9_hands 60 = .ok (.iload_n 3, 1) := by decide +kernel
theorem dX9_hands_61 : decode cX9_hands 61 = .ok (.iadd, 1) := by decide +kernel
theorem dX9_hands_62 : decode cX9_hands 62 = .ok (.istore 6, 2) := by decide +kernel
theorem dX9_hands_64 : decode cX9_hands 64 = .ok (.aload_n 0, 1) := by decide +kernel
theorem dX9_hands_65 : decode cX9_hands 65 = .ok (.iload_n 1, 1) := by decide +kernel
theorem dX9_hands_66 : decode cX9_hands 66 = .ok (.invokevirtual 117, 3) := by decide +kernel
theorem dX9_hands_69 : decode cX9_hands 69 = .ok (.ifCond .eq 38, 3) := by decide +kernel
theorem dX9_hands_72 : decode cX9_hands 72 = .ok (.aload_n 0, 1) := by decide +kernel
theorem dX9_hands_73 : decode cX9_hands 73 = .ok (.iload_n 2, 1) := by decide +kernel
theorem dX9_hands_74 : decode cX9_hands 74 = .ok (.invokevirtual 117, 3) := by decide +kernel
theorem dX9_hands_77 : decode cX9_hands 77 = .ok (.ifCond .eq 30, 3) := by decide +kernel
theorem dX9_hands_80 : decode cX9_hands 80 = .ok (.aload_n 0, 1) := by decide +kernel
theorem dX9_hands_81 : decode cX9_hands 81 = .ok (.getfield 22, 3) := by decide +kernel
theorem dX9_hands_84 : decode cX9_hands 84 = .ok (.iload 5, 2) := by decide +kernel
theorem dX9_hands_86 : decode cX9_hands 86 = .ok (.iaload, 1) := by decide +kernel
theorem dX9_hands_87 : decode cX9_hands 87 = .ok (.iload 4, 2) := by decide +kernel
theorem dX9_hands_89 : decode cX9_hands 89 = .ok (.if_icmp .lt 18, 3) := by decide +kernel
theorem dX9_hands_92 : decode cX9_hands 92 = .ok (.aload_n 0, 1) := by decide +kernel
theorem dX9_hands_93 : decode cX9_hands 93 = .ok (.getfield 22, 3) := by decide +kernel
theorem dX9_hands_96 : decode cX9_hands 96 = .ok (.iload 6, 2) := by decide +kernel
theorem dX9_hands_98 : decode cX9_hands 98 = .ok (.iaload, 1) := by decide +kernel
end
section
theorem dX9_hands_99 : decode cX9_hands 99 = .ok (.iload 4, 2) := by decide +kernel
theorem dX9_hands_101 : decode cX9_hands 101 = .ok (.iadd, 1) := by decide +kernel
theorem dX9_hands_102 : decode cX9_hands 102 = .ok (.bipush 99, 2) := by decide +kernel
theorem dX9_hands_104 : decode cX9_hands 104 = .ok (.if_icmp .le 6, 3) := by decide +kernel
theorem dX9_hands_107 : decode cX9_hands 107 = .ok (.bipush (-2), 2) := by decide +kernel
theorem dX9_hands_109 : decode cX9_hands 109 = .ok (.ireturn, 1) := by decide +kernel
theorem dX9_hands_110 : decode cX9_hands 110 = .ok (.aload_n 0, 1) := by decide +kernel
theorem dX9_hands_111 : decode cX9_hands 111 = .ok (.invokevirtual 136, 3) := by decide +kernel
theorem dX9_hands_114 : decode cX9_hands 114 = .ok (.aload_n 0, 1) := by decide +kernel
theorem dX9_hands_115 : decode cX9_hands 115 = .ok (.getfield 22, 3) := by decide +kernel
theorem dX9_hands_118 : decode cX9_hands 118 = .ok (.iload 5, 2) := by decide +kernel
theorem dX9_hands_120 : decode cX9_hands 120 = .ok (.dup2, 1) := by decide +kernel
theorem dX9_hands_121 : decode cX9_hands 121 = .ok (.iaload, 1) := by decide +kernel
theorem dX9_hands_122 : decode cX9_hands 122 = .ok (.iload 4, 2) := by decide +kernel
theorem dX9_hands_124 : decode cX9_hands 124 = .ok (.isub, 1) := by decide +kernel
theorem dX9_hands_125 : decode cX9_hands 125 = .ok (.iastore, 1) := by decide +kernel
theorem dX9_hands_126 : decode cX9_hands 126 = .ok (.aload_n 0, 1) := by decide +kernel
theorem dX9_hands_127 : decode cX9_hands 127 = .ok (.getfield 22, 3) := by decide +kernel
theorem dX9_hands_130 : decode cX9_hands 130 = .ok (.iload 6, 2) := by decide +kernel
theorem dX9_hands_132 : decode cX9_hands 132 = .ok (.dup2, 1) := by decide +kernel
theorem dX9_hands_133 : decode cX9_hands 133 = .ok (.iaload, 1) := by decide +kernel
theorem dX9_hands_134 : decode cX9_hands 134 = .ok (.iload 4, 2) := by decide +kernel
theorem dX9_hands_136 : decode cX9_hands 136 = .ok (.iadd, 1) := by decide +kernel
theorem dX9_hands_137 : decode cX9_hands 137 = .ok (.iastore, 1) := by decide +kernel
theorem dX9_hands_138 : decode cX9_hands 138 = .ok (.aload_n 0, 1) := by decide +kernel
theorem dX9_hands_139 : decode cX9_hands 139 = .ok (.getfield 22, 3) := by decide +kernel
theorem dX9_hands_142 : decode cX9_hands 142 = .ok (.iload 6, 2) := by decide +kernel
theorem dX9_hands_144 : decode cX9_hands 144 = .ok (.iaload, 1) := by decide +kernel
theorem dX9_hands_145 : decode cX9_hands 145 = .ok (.ireturn, 1) := by decide +kernel
theorem dX9_strikeOf_0 : decode cX9_strikeOf 0 = .ok (.sipush 999, 3) := by decide +kernel
theorem dX9_strikeOf_3 : decode cX9_strikeOf 3 = .ok (.istore_n 2, 1) := by decide +kernel
theorem dX9_strikeOf_4 : decode cX9_strikeOf 4 = .ok (.iconst 0, 1) := by decide +kernel
theorem dX9_strikeOf_5 : decode cX9_strikeOf 5 = .ok (.istore_n 3, 1) := by decide +kernel
theorem dX9_strikeOf_6 : decode cX9_strikeOf 6 = .ok (.iload_n 3, 1) := by decide +kernel
theorem dX9_strikeOf_7 : decode cX9_strikeOf 7 = .ok (.iload_n 1, 1) := by decide +kernel
theorem dX9_strikeOf_8 : decode cX9_strikeOf 8 = .ok (.if_icmp .ge 52, 3) := by decide +kernel
theorem dX9_strikeOf_11 : decode cX9_strikeOf 11 = .ok (.aload_n 0, 1) := by decide +kernel
theorem dX9_strikeOf_12 : decode cX9_strikeOf 12 = .ok (.getfield 22, 3) := by decide +kernel
theorem dX9_strikeOf_15 : decode cX9_strikeOf 15 = .ok (.bipush 38, 2) := by decide +kernel
theorem dX9_strikeOf_17 : decode cX9_strikeOf 17 = .ok (.bipush 6, 2) := by decide +kernel
theorem dX9_strikeOf_19 : decode cX9_strikeOf 19 = .ok (.aload_n 0, 1) := by decide +kernel
theorem dX9_strikeOf_20 : decode cX9_strikeOf 20 = .ok (.getfield 35, 3) := by decide +kernel
theorem dX9_strikeOf_23 : decode cX9_strikeOf 23 = .ok (.iload_n 3, 1) := by decide +kernel
theorem dX9_strikeOf_24 : decode cX9_strikeOf 24 = .ok (.iaload, 1) := by decide +kernel
theorem dX9_strikeOf_25 : decode cX9_strikeOf 25 = .ok (.imul, 1) := by decide +kernel
theorem dX9_strikeOf_26 : decode cX9_strikeOf 26 = .ok (.iadd, 1) := by decide +kernel
theorem dX9_strikeOf_27 : decode cX9_strikeOf 27 = .ok (.aload_n 0, 1) := by decide +kernel
theorem dX9_strikeOf_28 : decode cX9_strikeOf 28 = .ok (.getfield 35, 3) := by decide +kernel
theorem dX9_strikeOf_31 : decode cX9_strikeOf 31 = .ok (.iload_n 3, 1) := by decide +kernel
theorem dX9_strikeOf_32 : decode cX9_strikeOf 32 = .ok (.iconst 1, 1) := by decide +kernel
theorem dX9_strikeOf_33 : decode cX9_strikeOf 33 = .ok (.iadd, 1) := by decide +kernel
theorem dX9_strikeOf_34 : decode cX9_strikeOf 34 = .ok (.iload_n 1, 1) := by decide +kernel
theorem dX9_strikeOf_35 : decode cX9_strikeOf 35 = .ok (.irem, 1) := by decide +kernel
theorem dX9_strikeOf_36 : decode cX9_strikeOf 36 = .ok (.iaload, 1) := by decide +kernel
theorem dX9_strikeOf_37 : decode cX9_strikeOf 37 = .ok (.iadd, 1) := by decide +kernel
theorem dX9_strikeOf_38 : decode cX9_strikeOf 38 = .ok (.iaload, 1) := by decide +kernel
theorem dX9_strikeOf_39 : decode cX9_strikeOf 39 = .ok (.istore 4, 2) := by decide +kernel
theorem dX9_strikeOf_41 : decode cX9_strikeOf 41 = .ok (.iload 4, 2) := by decide +kernel
theorem dX9_strikeOf_43 : decode cX9_strikeOf 43 = .ok (.iload_n 2, 1) := by decide +kernel
theorem dX9_strikeOf_44 : decode cX9_strikeOf 44 = .ok (.if_icmp .ge 8, 3) := by decide +kernel
theorem dX9_strikeOf_47 : decode cX9_strikeOf 47 = .ok (.iload 4, 2) := by decide +kernel
theorem dX9_strikeOf_49 : decode cX9_strikeOf 49 = .ok (.goto 4, 3) := by decide +kernel
theorem dX9_strikeOf_52 : decode cX9_strikeOf 52 = .ok (.iload_n 2, 1) := by decide +kernel
theorem dX9_strikeOf_53 : decode cX9_strikeOf 53 = .ok (.istore_n 2, 1) := by decide +kernel
theorem dX9_strikeOf_54 : decode cX9_strikeOf 54 = .ok (.iinc 3 1, 3) := by decide +kernel
theorem dX9_strikeOf_57 : decode cX9_strikeOf 57 = .ok (.goto (-51), 3) := by decide +kernel
theorem dX9_strikeOf_60 : decode cX9_strikeOf 60 = .ok (.iload_n 2, 1) := by decide +kernel
theorem dX9_strikeOf_61 : decode cX9_strikeOf 61 = .ok (.ireturn, 1) := by decide +kernel
theorem dX9_tries_0 : decode cX9_tries 0 = .ok (.iload_n 1, 1) := by decide +kernel
theorem dX9_tries_1 : decode cX9_tries 1 = .ok (.iconst 2, 1) := by decide +kernel
theorem dX9_tries_2 : decode cX9_tries 2 = .ok (.if_icmp .ge 7, 3) := by decide +kernel
theorem dX9_tries_5 : decode cX9_tries 5 = .ok (.iconst 0, 1) := by decide +kernel
theorem dX9_tries_6 : decode cX9_tries 6 = .ok (.goto 8, 3) := by decide +kernel
theorem dX9_tries_9 : decode cX9_tries 9 = .ok (.aload_n 0, 1) := by decide +kernel
theorem dX9_tries_10 : decode cX9_tries 10 = .ok (.iload_n 1, 1) := by decide +kernel
theorem dX9_tries_11 : decode cX9_tries 11 = .ok (.invokevirtual 147, 3) := by decide +kernel
theorem dX9_tries_14 : decode cX9_tries 14 = .ok (.istore_n 2, 1) := by decide +kernel
theorem dX9_tries_15 : decode cX9_tries 15 = .ok (.iload_n 2, 1) := by decide +kernel
theorem dX9_tries_16 : decode cX9_tries 16 = .ok (.iload_n 1, 1) := by decide +kernel
theorem dX9_tries_17 : decode cX9_tries 17 = .ok (.imul, 1) := by decide +kernel
theorem dX9_tries_18 : decode cX9_tries 18 = .ok (.aload_n 0, 1) := by decide +kernel
theorem dX9_tries_19 : decode cX9_tries 19 = .ok (.getfield 150, 3) := by decide +kernel
theorem dX9_tries_22 : decode cX9_tries 22 = .ok (.aload_n 0, 1) := by decide +kernel
theorem dX9_tries_23 : decode cX9_tries 23 = .ok (.getfield 153, 3) := by decide +kernel
theorem dX9_tries_26 : decode cX9_tries 26 = .ok (.imul, 1) := by decide +kernel
theorem dX9_tries_27 : decode cX9_tries 27 = .ok (.isub, 1) := by decide +kernel
theorem dX9_tries_28 : decode cX9_tries 28 = .ok (.istore_n 3, 1) := by decide +kernel
theorem dX9_tries_29 : decode cX9_tries 29 = .ok (.iload_n 2, 1) := by decide +kernel
theorem dX9_tries_30 : decode cX9_tries 30 = .ok (.ifCond .le 58, 3) := by decide +kernel
theorem dX9_tries_33 : decode cX9_tries 33 = .ok (.iload_n 3, 1) := by decide +kernel
theorem dX9_tries_34 : decode cX9_tries 34 = .ok (.ifCond .gt 15, 3) := by decide +kernel
theorem dX9_tries_37 : decode cX9_tries 37 = .ok (.iload_n 3, 1) := by decide +kernel
theorem dX9_tries_38 : decode cX9_tries 38 = .ok (.ifCond .ne 50, 3) := by decide +kernel
theorem dX9_tries_41 : decode cX9_tries 41 = .ok (.iload_n 1, 1) := by decide +kernel
theorem dX9_tries_42 : decode cX9_tries 42 = .ok (.aload_n 0, 1) := by decide +kernel
theorem dX9_tries_43 : decode cX9_tries 43 = .ok (.getfield 153, 3) := by decide +kernel
theorem dX9_tries_46 : decode cX9_tries 46 = .ok (.if_icmp .ge 42, 3) := by decide +kernel
theorem dX9_tries_49 : decode cX9_tries 49 = .ok (.aload_n 0, 1) := by decide +kernel
theorem dX9_tries_50 : decode cX9_tries 50 = .ok (.iload_n 1, 1) := by decide +kernel
theorem dX9_tries_51 : decode cX9_tries 51 = .ok (.putfield 153, 3) := by decide +kernel
theorem dX9_tries_54 : decode cX9_tries 54 = .ok (.aload_n 0, 1) := by decide +kernel
theorem dX9_tries_55 : decode cX9_tries 55 = .ok (.iload_n 2, 1) := by decide +kernel
theorem dX9_tries_56 : decode cX9_tries 56 = .ok (.putfield 150, 3) := by decide +kernel
theorem dX9_tries_59 : decode cX9_tries 59 = .ok (.iconst 0, 1) := by decide +kernel
theorem dX9_tries_60 : decode cX9_tries 60 = .ok (.istore 4, 2) := by decide +kernel
theorem dX9_tries_62 : decode cX9_tries 62 = .ok (.iload 4, 2) := by decide +kernel
theorem dX9_tries_64 : decode cX9_tries 64 = .ok (.iload_n 1, 1) := by decide +kernel
theorem dX9_tries_65 : decode cX9_tries 65 = .ok (.if_icmp .ge 23, 3) := by decide +kernel
theorem dX9_tries_68 : decode cX9_tries 68 = .ok (.aload_n 0, 1) := by decide +kernel
theorem dX9_tries_69 : decode cX9_tries 69 = .ok (.getfield 38, 3) := by decide +kernel
theorem dX9_tries_72 : decode cX9_tries 72 = .ok (.iload 4, 2) := by decide +kernel
theorem dX9_tries_74 : decode cX9_tries 74 = .ok (.aload_n 0, 1) := by decide +kernel
theorem dX9_tries_75 : decode cX9_tries 75 = .ok (.getfield 35, 3) := by decide +kernel
theorem dX9_tries_78 : decode cX9_tries 78 = .ok (.iload 4, 2) := by decide +kernel
theorem dX9_tries_80 : decode cX9_tries 80 = .ok (.iaload, 1) := by decide +kernel
theorem dX9_tries_81 : decode cX9_tries 81 = .ok (.iastore, 1) := by decide +kernel
theorem dX9_tries_82 : decode cX9_tries 82 = .ok (.iinc 4 1, 3) := by decide +kernel
theorem dX9_tries_85 : decode cX9_tries 85 = .ok (.goto (-23), 3) := by decide +kernel
theorem dX9_tries_88 : decode cX9_tries 88 = .ok (.return_, 1) := by decide +kernel
theorem dX9_mayWalk_0 : decode cX9_mayWalk 0 = .ok (.iload_n 2, 1) := by decide +kernel
theorem dX9_mayWalk_1 : decode cX9_mayWalk 1 = .ok (.aload_n 0, 1) := by decide +kernel
theorem dX9_mayWalk_2 : decode cX9_mayWalk 2 = .ok (.getfield 35, 3) := by decide +kernel
theorem dX9_mayWalk_5 : decode cX9_mayWalk 5 = .ok (.iconst 0, 1) := by decide +kernel
theorem dX9_mayWalk_6 : decode cX9_mayWalk 6 = .ok (.iaload, 1) := by decide +kernel
theorem dX9_mayWalk_7 : decode cX9_mayWalk 7 = .ok (.if_icmp .le 31, 3) := by decide +kernel
theorem dX9_mayWalk_10 : decode cX9_mayWalk 10 = .ok (.aload_n 0, 1) := by decide +kernel
theorem dX9_mayWalk_11 : decode cX9_mayWalk 11 = .ok (.getfield 22, 3) := by decide +kernel
theorem dX9_mayWalk_14 : decode cX9_mayWalk 14 = .ok (.bipush 38, 2) := by decide +kernel
theorem dX9_mayWalk_16 : decode cX9_mayWalk 16 = .ok (.bipush 6, 2) := by decide +kernel
theorem dX9_mayWalk_18 : decode cX9_mayWalk 18 = .ok (.aload_n 0, 1) := by decide +kernel
theorem dX9_mayWalk_19 : decode cX9_mayWalk 19 = .ok (.getfield 35, 3) := by decide +kernel
theorem dX9_mayWalk_22 : decode cX9_mayWalk 22 = .ok (.iload_n 1, 1) := by decide +kernel
theorem dX9_mayWalk_23 : decode cX9_mayWalk 23 = .ok (.iconst 1, 1) := by decide +kernel
theorem dX9_mayWalk_24 : decode cX9_mayWalk 24 = .ok (.isub, 1) := by decide +kernel
theorem dX9_mayWalk_25 : decode cX9_mayWalk 25 = .ok (.iaload, 1) := by decide +kernel
theorem dX9_mayWalk_26 : decode cX9_mayWalk 26 = .ok (.imul, 1) := by decide +kernel
theorem dX9_mayWalk_27 : decode cX9_mayWalk 27 = .ok (.iadd, 1) := by decide +kernel
theorem dX9_mayWalk_28 : decode cX9_mayWalk 28 = .ok (.iload_n 2, 1) := by decide +kernel
theorem dX9_mayWalk_29 : decode cX9_mayWalk 29 = .ok (.iadd, 1) := by decide +kernel
theorem dX9_mayWalk_30 : decode cX9_mayWalk 30 = .ok (.iaload, 1) := by decide +kernel
theorem dX9_mayWalk_31 : decode cX9_mayWalk 31 = .ok (.ifCond .le 7, 3) := by decide +kernel
theorem dX9_mayWalk_34 : decode cX9_mayWalk 34 = .ok (.iconst 1, 1) := by decide +kernel
theorem dX9_mayWalk_35 : decode cX9_mayWalk 35 = .ok (.goto 4, 3) := by decide +kernel
theorem dX9_mayWalk_38 : decode cX9_mayWalk 38 = .ok (.iconst 0, 1) := by decide +kernel
theorem dX9_mayWalk_39 : decode cX9_mayWalk 39 = .ok (.istore_n 3, 1) := by decide +kernel
theorem dX9_mayWalk_40 : decode cX9_mayWalk 40 = .ok (.iconst 0, 1) := by decide +kernel
theorem dX9_mayWalk_41 : decode cX9_mayWalk 41 = .ok (.istore 4, 2) := by decide +kernel
theorem dX9_mayWalk_43 : decode cX9_mayWalk 43 = .ok (.iload 4, 2) := by decide +kernel
theorem dX9_mayWalk_45 : decode cX9_mayWalk 45 = .ok (.iload_n 1, 1) := by decide +kernel
theorem dX9_mayWalk_46 : decode cX9_mayWalk 46 = .ok (.if_icmp .ge 30, 3) := by decide +kernel
theorem dX9_mayWalk_49 : decode cX9_mayWalk 49 = .ok (.iload_n 3, 1) := by decide +kernel
theorem dX9_mayWalk_50 : decode cX9_mayWalk 50 = .ok (.ifCond .eq 18, 3) := by decide +kernel
theorem dX9_mayWalk_53 : decode cX9_mayWalk 53 = .ok (.aload_n 0, 1) := by decide +kernel
theorem dX9_mayWalk_54 : decode cX9_mayWalk 54 = .ok (.getfield 35, 3) := by decide +kernel
theorem dX9_mayWalk_57 : decode cX9_mayWalk 57 = .ok (.iload 4, 2) := by decide +kernel
theorem dX9_mayWalk_59 : decode cX9_mayWalk 59 = .ok (.iaload, 1) := by decide +kernel
theorem dX9_mayWalk_60 : decode cX9_mayWalk 60 = .ok (.iload_n 2, 1) := by decide +kernel
theorem dX9_mayWalk_61 : decode cX9_mayWalk 61 = .ok (.if_icmp .eq 7, 3) := by decide +kernel
theorem dX9_mayWalk_64 : decode cX9_mayWalk 64 = .ok (.iconst 1, 1) := by decide +kernel
theorem dX9_mayWalk_65 : decode cX9_mayWalk 65 = .ok (.goto 4, 3) := by decide +kernel
theorem dX9_mayWalk_68 : decode cX9_mayWalk 68 = .ok (.iconst 0, 1) := by decide +kernel
theorem dX9_mayWalk_69 : decode cX9_mayWalk 69 = .ok (.istore_n 3, 1) := by decide +kernel
theorem dX9_mayWalk_70 : decode cX9_mayWalk 70 = .ok (.iinc 4 1, 3) := by decide +kernel
theorem dX9_mayWalk_73 : decode cX9_mayWalk 73 = .ok (.goto (-30), 3) := by decide +kernel
theorem dX9_mayWalk_76 : decode cX9_mayWalk 76 = .ok (.iload_n 3, 1) := by decide +kernel
theorem dX9_mayWalk_77 : decode cX9_mayWalk 77 = .ok (.ireturn, 1) := by decide +kernel
theorem dX9_rings_0 : decode cX9_rings 0 = .ok (.aload_n 0, 1) := by decide +kernel
theorem dX9_rings_1 : decode cX9_rings 1 = .ok (.iconst 0, 1) := by decide +kernel
theorem dX9_rings_2 : decode cX9_rings 2 = .ok (.putfield 153, 3) := by decide +kernel
theorem dX9_rings_5 : decode cX9_rings 5 = .ok (.aload_n 0, 1) := by decide +kernel
theorem dX9_rings_6 : decode cX9_rings 6 = .ok (.iconst 0, 1) := by decide +kernel
theorem dX9_rings_7 : decode cX9_rings 7 = .ok (.putfield 150, 3) := by decide +kernel
theorem dX9_rings_10 : decode cX9_rings 10 = .ok (.iconst 0, 1) := by decide +kernel
theorem dX9_rings_11 : decode cX9_rings 11 = .ok (.istore_n 1, 1) := by decide +kernel
theorem dX9_rings_12 : decode cX9_rings 12 = .ok (.iload_n 1, 1) := by decide +kernel
theorem dX9_rings_13 : decode cX9_rings 13 = .ok (.aload_n 0, 1) := by decide +kernel
theorem dX9_rings_14 : decode cX9_rings 14 = .ok (.getfield 13, 3) := by decide +kernel
theorem dX9_rings_17 : decode cX9_rings 17 = .ok (.iconst 0, 1) := by decide +kernel
theorem dX9_rings_18 : decode cX9_rings 18 = .ok (.iaload, 1) := by decide +kernel
theorem dX9_rings_19 : decode cX9_rings 19 = .ok (.if_icmp .ge 94, 3) := by decide +kernel
theorem dX9_rings_22 : decode cX9_rings 22 = .ok (.aload_n 0, 1) := by decide +kernel
theorem dX9_rings_23 : decode cX9_rings 23 = .ok (.getfield 35, 3) := by decide +kernel
theorem dX9_rings_26 : decode cX9_rings 26 = .ok (.iconst 0, 1) := by decide +kernel
theorem dX9_rings_27 : decode cX9_rings 27 = .ok (.iload_n 1, 1) := by decide +kernel
theorem dX9_rings_28 : decode cX9_rings 28 = .ok (.iastore, 1) := by decide +kernel
theorem dX9_rings_29 : decode cX9_rings 29 = .ok (.iconst 1, 1) := by decide +kernel
theorem dX9_rings_30 : decode cX9_rings 30 = .ok (.istore_n 2, 1) := by decide +kernel
theorem dX9_rings_31 : decode cX9_rings 31 = .ok (.iconst 0, 1) := by decide +kernel
theorem dX9_rings_32 : decode cX9_rings 32 = .ok (.istore_n 3, 1) := by decide +kernel
theorem dX9_rings_33 : decode cX9_rings 33 = .ok (.iload_n 2, 1) := by decide +kernel
theorem dX9_rings_34 : decode cX9_rings 34 = .ok (.ifCond .le 73, 3) := by decide +kernel
theorem dX9_rings_37 : decode cX9_rings 37 = .ok (.iload_n 3, 1) := by decide +kernel
theorem dX9_rings_38 : decode cX9_rings 38 = .ok (.aload_n 0, 1) := by decide +kernel
theorem dX9_rings_39 : decode cX9_rings 39 = .ok (.getfield 13, 3) := by decide +kernel
theorem dX9_rings_42 : decode cX9_rings 42 = .ok (.iconst 0, 1) := by decide +kernel
theorem dX9_rings_43 : decode cX9_rings 43 = .ok (.iaload, 1) := by decide +kernel
theorem dX9_rings_44 : decode cX9_rings 44 = .ok (.if_icmp .ge 18, 3) := by decide +kernel
theorem dX9_rings_47 : decode cX9_rings 47 = .ok (.aload_n 0, 1) := by decide +kernel
theorem dX9_rings_48 : decode cX9_rings 48 = .ok (.iload_n 2, 1) := by decide +kernel
theorem dX9_rings_49 : decode cX9_rings 49 = .ok (.iload_n 3, 1) := by decide +kernel
theorem dX9_rings_50 : decode cX9_rings 50 = .ok (.invokevirtual 156, 3) := by decide +kernel
theorem dX9_rings_53 : decode cX9_rings 53 = .ok (.ifCond .ne 9, 3) := by decide +kernel
theorem dX9_rings_56 : decode cX9_rings 56 = .ok (.iinc 3 1, 3) := by decide +kernel
theorem dX9_rings_59 : decode cX9_rings 59 = .ok (.goto (-22), 3) := by decide +kernel
theorem dX9_rings_62 : decode cX9_rings 62 = .ok (.iload_n 3, 1) := by decide +kernel
theorem dX9_rings_63 : decode cX9_rings 63 = .ok (.aload_n 0, 1) := by decide +kernel
theorem dX9_rings_64 : decode cX9_rings 64 = .ok (.getfield 13, 3) := by decide +kernel
theorem dX9_rings_67 : decode cX9_rings 67 = .ok (.iconst 0, 1) := by decide +kernel
theorem dX9_rings_68 : decode cX9_rings 68 = .ok (.iaload, 1) := by decide +kernel
theorem dX9_rings_69 : decode cX9_rings 69 = .ok (.if_icmp .ge 23, 3) := by decide +kernel
theorem dX9_rings_72 : decode cX9_rings 72 = .ok (.aload_n 0, 1) := by decide +kernel
theorem dX9_rings_73 : decode cX9_rings 73 = .ok (.getfield 35, 3) := by decide +kernel
theorem dX9_rings_76 : decode cX9_rings 76 = .ok (.iload_n 2, 1) := by decide +kernel
theorem dX9_rings_77 : decode cX9_rings 77 = .ok (.iload_n 3, 1) := by decide +kernel
theorem dX9_rings_78 : decode cX9_rings 78 = .ok (.iastore, 1) := by decide +kernel
theorem dX9_rings_79 : decode cX9_rings 79 = .ok (.iinc 2 1, 3) := by decide +kernel
theorem dX9_rings_82 : decode cX9_rings 82 = .ok (.aload_n 0, 1) := by decide +kernel
theorem dX9_rings_83 : decode cX9_rings 83 = .ok (.iload_n 2, 1) := by decide +kernel
theorem dX9_rings_84 : decode cX9_rings 84 = .ok (.invokevirtual 159, 3) := by decide +kernel
theorem dX9_rings_87 : decode cX9_rings 87 = .ok (.iconst 0, 1) := by decide +kernel
theorem dX9_rings_88 : decode cX9_rings 88 = .ok (.istore_n 3, 1) := by decide +kernel
theorem dX9_rings_89 : decode cX9_rings 89 = .ok (.goto (-56), 3) := by decide +kernel
theorem dX9_rings_92 : decode cX9_rings 92 = .ok (.iinc 2 (-1), 3) := by decide +kernel
theorem dX9_rings_95 : decode cX9_rings 95 = .ok (.aload_n 0, 1) := by decide +kernel
theorem dX9_rings_96 : decode cX9_rings 96 = .ok (.getfield 35, 3) := by decide +kernel
theorem dX9_rings_99 : decode cX9_rings 99 = .ok (.iload_n 2, 1) := by decide +kernel
theorem dX9_rings_100 : decode cX9_rings 100 = .ok (.iaload, 1) := by decide +kernel
theorem dX9_rings_101 : decode cX9_rings 101 = .ok (.iconst 1, 1) := by decide +kernel
theorem dX9_rings_102 : decode cX9_rings 102 = .ok (.iadd, 1) := by decide +kernel
theorem dX9_rings_103 : decode cX9_rings 103 = .ok (.istore_n 3, 1) := by decide +kernel
theorem dX9_rings_104 : decode cX9_rings 104 = .ok (.goto (-71), 3) := by decide +kernel
theorem dX9_rings_107 : decode cX9_rings 107 = .ok (.iinc 1 1, 3) := by decide +kernel
theorem dX9_rings_110 : decode cX9_rings 110 = .ok (.goto (-98), 3) := by decide +kernel
theorem dX9_rings_113 : decode cX9_rings 113 = .ok (.return_, 1) := by decide +kernel
theorem dX9_strikes_0 : decode cX9_strikes 0 = .ok (.aload_n 0, 1) := by decide +kernel
theorem dX9_strikes_1 : decode cX9_strikes 1 = .ok (.invokevirtual 162, 3) := by decide +kernel
theorem dX9_strikes_4 : decode cX9_strikes 4 = .ok (.aload_n 0, 1) := by decide +kernel
theorem dX9_strikes_5 : decode cX9_strikes 5 = .ok (.getfield 153, 3) := by decide +kernel
theorem dX9_strikes_8 : decode cX9_strikes 8 = .ok (.ifCond .ne 6, 3) := by decide +kernel
theorem dX9_strikes_11 : decode cX9_strikes 11 = .ok (.bipush (-2), 2) := by decide +kernel
theorem dX9_strikes_13 : decode cX9_strikes 13 = .ok (.ireturn, 1) := by decide +kernel
theorem dX9_strikes_14 : decode cX9_strikes 14 = .ok (.aload_n 0, 1) := by decide +kernel
theorem dX9_strikes_15 : decode cX9_strikes 15 = .ok (.invokevirtual 136, 3) := by decide +kernel
theorem dX9_strikes_18 : decode cX9_strikes 18 = .ok (.iconst 0, 1) := by decide +kernel
theorem dX9_strikes_19 : decode cX9_strikes 19 = .ok (.istore_n 1, 1) := by decide +kernel
theorem dX9_strikes_20 : decode cX9_strikes 20 = .ok (.iload_n 1, 1) := by decide +kernel
theorem dX9_strikes_21 : decode cX9_strikes 21 = .ok (.aload_n 0, 1) := by decide +kernel
theorem dX9_strikes_22 : decode cX9_strikes 22 = .ok (.getfield 153, 3) := by decide +kernel
theorem dX9_strikes_25 : decode cX9_strikes 25 = .ok (.if_icmp .ge 47, 3) := by decide +kernel
theorem dX9_strikes_28 : decode cX9_strikes 28 = .ok (.aload_n 0, 1) := by decide +kernel
theorem dX9_strikes_29 : decode cX9_strikes 29 = .ok (.getfield 22, 3) := by decide +kernel
theorem dX9_strikes_32 : decode cX9_strikes 32 = .ok (.bipush 38, 2) := by decide +kernel
theorem dX9_strikes_34 : decode cX9_strikes 34 = .ok (.bipush 6, 2) := by decide +kernel
theorem dX9_strikes_36 : decode cX9_strikes 36 = .ok (.aload_n 0, 1) := by decide +kernel
theorem dX9_strikes_37 : decode cX9_strikes 37 = .ok (.getfield 38, 3) := by decide +kernel
theorem dX9_strikes_40 : decode cX9_strikes 40 = .ok (.iload_n 1, 1) := by decide +kernel
theorem dX9_strikes_41 : decode cX9_strikes 41 = .ok (.iaload, 1) := by decide +kernel
theorem dX9_strikes_42 : decode cX9_strikes 42 = .ok (.imul, 1) := by decide +kernel
theorem dX9_strikes_43 : decode cX9_strikes 43 = .ok (.iadd, 1) := by decide +kernel
theorem dX9_strikes_44 : decode cX9_strikes 44 = .ok (.aload_n 0, 1) := by decide +kernel
theorem dX9_strikes_45 : decode cX9_strikes 45 = .ok (.getfield 38, 3) := by decide +kernel
theorem dX9_strikes_48 : decode cX9_strikes 48 = .ok (.iload_n 1, 1) := by decide +kernel
theorem dX9_strikes_49 : decode cX9_strikes 49 = .ok (.iconst 1, 1) := by decide +kernel
theorem dX9_strikes_50 : decode cX9_strikes 50 = .ok (.iadd, 1) := by decide +kernel
theorem dX9_strikes_51 : decode cX9_strikes 51 = .ok (.aload_n 0, 1) := by decide +kernel
theorem dX9_strikes_52 : decode cX9_strikes 52 = .ok (.getfield 153, 3) := by decide +kernel
theorem dX9_strikes_55 : decode cX9_strikes 55 = .ok (.irem, 1) := by decide +kernel
theorem dX9_strikes_56 : decode cX9_strikes 56 = .ok (.iaload, 1) := by decide +kernel
theorem dX9_strikes_57 : decode cX9_strikes 57 = .ok (.iadd, 1) := by decide +kernel
theorem dX9_strikes_58 : decode cX9_strikes 58 = .ok (.dup2, 1) := by decide +kernel
theorem dX9_strikes_59 : decode cX9_strikes 59 = .ok (.iaload, 1) := by decide +kernel
theorem dX9_strikes_60 : decode cX9_strikes 60 = .ok (.aload_n 0, 1) := by decide +kernel
theorem dX9_strikes_61 : decode cX9_strikes 61 = .ok (.getfield 150, 3) := by decide +kernel
theorem dX9_strikes_64 : decode cX9_strikes 64 = .ok (.isub, 1) := by decide +kernel
theorem dX9_strikes_65 : decode cX9_strikes 65 = .ok (.iastore, 1) := by decide +kernel
theorem dX9_strikes_66 : decode cX9_strikes 66 = .ok (.iinc 1 1, 3) := by decide +kernel
theorem dX9_strikes_69 : decode cX9_strikes 69 = .ok (.goto (-49), 3) := by decide +kernel
theorem dX9_strikes_72 : decode cX9_strikes 72 = .ok (.aload_n 0, 1) := by decide +kernel
theorem dX9_strikes_73 : decode cX9_strikes 73 = .ok (.getfield 153, 3) := by decide +kernel
theorem dX9_strikes_76 : decode cX9_strikes 76 = .ok (.aload_n 0, 1) := by decide +kernel
theorem dX9_strikes_77 : decode cX9_strikes 77 = .ok (.getfield 150, 3) := by decide +kernel
theorem dX9_strikes_80 : decode cX9_strikes 80 = .ok (.imul, 1) := by decide +kernel
theorem dX9_strikes_81 : decode cX9_strikes 81 = .ok (.ireturn, 1) := by decide +kernel
theorem dX9_undo_0 : decode cX9_undo 0 = .ok (.aload_n 0, 1) := by decide +kernel
theorem dX9_undo_1 : decode cX9_undo 1 = .ok (.getfield 22, 3) := by decide +kernel
theorem dX9_undo_4 : decode cX9_undo 4 = .ok (.bipush 74, 2) := by decide +kernel
theorem dX9_undo_6 : decode cX9_undo 6 = .ok (.iaload, 1) := by decide +kernel
theorem dX9_undo_7 : decode cX9_undo 7 = .ok (.ifCond .ne 6, 3) := by decide +kernel
theorem dX9_undo_10 : decode cX9_undo 10 = .ok (.bipush (-2), 2) := by decide +kernel
theorem dX9_undo_12 : decode cX9_undo 12 = .ok (.ireturn, 1) := by decide +kernel
theorem dX9_undo_13 : decode cX9_undo 13 = .ok (.aload_n 0, 1) := by decide +kernel
theorem dX9_undo_14 : decode cX9_undo 14 = .ok (.getfield 22, 3) := by decide +kernel
theorem dX9_undo_17 : decode cX9_undo 17 = .ok (.bipush 74, 2) := by decide +kernel
theorem dX9_undo_19 : decode cX9_undo 19 = .ok (.dup2, 1) := by decide +kernel
theorem dX9_undo_20 : decode cX9_undo 20 = .ok (.iaload, 1) := by decide +kernel
theorem dX9_undo_21 : decode cX9_undo 21 = .ok (.iconst 1, 1) := by decide +kernel
theorem dX9_undo_22 : decode cX9_undo 22 = .ok (.isub, 1) := by decide +kernel
theorem dX9_undo_23 : decode cX9_undo 23 = .ok (.iastore, 1) := by decide +kernel
theorem dX9_undo_24 : decode cX9_undo 24 = .ok (.bipush 75, 2) := by decide +kernel
theorem dX9_undo_26 : decode cX9_undo 26 = .ok (.bipush 74, 2) := by decide +kernel
theorem dX9_undo_28 : decode cX9_undo 28 = .ok (.aload_n 0, 1) := by decide +kernel
theorem dX9_undo_29 : decode cX9_undo 29 = .ok (.getfield 22, 3) := by decide +kernel
theorem dX9_undo_32 : decode cX9_undo 32 = .ok (.bipush 74, 2) := by decide +kernel
theorem dX9_undo_34 : decode cX9_undo 34 = .ok (.iaload, 1) := by decide +kernel
theorem dX9_undo_35 : decode cX9_undo 35 = .ok (.imul, 1) := by decide +kernel
theorem dX9_undo_36 : decode cX9_undo 36 = .ok (.iadd, 1) := by decide +kernel
theorem dX9_undo_37 : decode cX9_undo 37 = .ok (.istore_n 1, 1) := by decide +kernel
theorem dX9_undo_38 : decode cX9_undo 38 = .ok (.iconst 0, 1) := by decide +kernel
theorem dX9_undo_39 : decode cX9_undo 39 = .ok (.istore_n 2, 1) := by decide +kernel
theorem dX9_undo_40 : decode cX9_undo 40 = .ok (.iload_n 2, 1) := by decide +kernel
theorem dX9_undo_41 : decode cX9_undo 41 = .ok (.bipush 74, 2) := by decide +kernel
theorem dX9_undo_43 : decode cX9_undo 43 = .ok (.if_icmp .ge 23, 3) := by decide +kernel
theorem dX9_undo_46 : decode cX9_undo 46 = .ok (.aload_n 0, 1) := by decide +kernel
theorem dX9_undo_47 : decode cX9_undo 47 = .ok (.getfield 22, 3) := by decide +kernel
theorem dX9_undo_50 : decode cX9_undo 50 = .ok (.iload_n 2, 1) := by decide +kernel
theorem dX9_undo_51 : decode cX9_undo 51 = .ok (.aload_n 0, 1) := by decide +kernel
theorem dX9_undo_52 : decode cX9_undo 52 = .ok (.getfield 22, 3) := by decide +kernel
theorem dX9_undo_55 : decode cX9_undo 55 = .ok (.iload_n 1, 1) := by decide +kernel
theorem dX9_undo_56 : decode cX9_undo 56 = .ok (.iload_n 2, 1) := by decide +kernel
theorem dX9_undo_57 : decode cX9_undo 57 = .ok (.iadd, 1) := by decide +kernel
theorem dX9_undo_58 : decode cX9_undo 58 = .ok (.iaload, 1) := by decide +kernel
theorem dX9_undo_59 : decode cX9_undo 59 = .ok (.iastore, 1) := by decide +kernel
theorem dX9_undo_60 : decode cX9_undo 60 = .ok (.iinc 2 1, 3) := by decide +kernel
theorem dX9_undo_63 : decode cX9_undo 63 = .ok (.goto (-23), 3) := by decide +kernel
theorem dX9_undo_66 : decode cX9_undo 66 = .ok (.aload_n 0, 1) := by decide +kernel
theorem dX9_undo_67 : decode cX9_undo 67 = .ok (.getfield 22, 3) := by decide +kernel
theorem dX9_undo_70 : decode cX9_undo 70 = .ok (.bipush 74, 2) := by decide +kernel
theorem dX9_undo_72 : decode cX9_undo 72 = .ok (.iaload, 1) := by decide +kernel
theorem dX9_undo_73 : decode cX9_undo 73 = .ok (.ireturn, 1) := by decide +kernel
theorem dX9_netOf_0 : decode cX9_netOf 0 = .ok (.iconst 0, 1) := by decide +kernel
theorem dX9_netOf_1 : decode cX9_netOf 1 = .ok (.istore_n 2, 1) := by decide +kernel
theorem dX9_netOf_2 : decode cX9_netOf 2 = .ok (.iconst 0, 1) := by decide +kernel
theorem dX9_netOf_3 : decode cX9_netOf 3 = .ok (.istore_n 3, 1) := by decide +kernel
theorem dX9_netOf_4 : decode cX9_netOf 4 = .ok (.iload_n 3, 1) := by decide +kernel
theorem dX9_netOf_5 : decode cX9_netOf 5 = .ok (.aload_n 0, 1) := by decide +kernel
theorem dX9_netOf_6 : decode cX9_netOf 6 = .ok (.getfield 13, 3) := by decide +kernel
theorem dX9_netOf_9 : decode cX9_netOf 9 = .ok (.iconst 0, 1) := by decide +kernel
theorem dX9_netOf_10 : decode cX9_netOf 10 = .ok (.iaload, 1) := by decide +kernel
theorem dX9_netOf_11 : decode cX9_netOf 11 = .ok (.if_icmp .ge 29, 3) := by decide +kernel
theorem dX9_netOf_14 : decode cX9_netOf 14 = .ok (.iload_n 2, 1) := by decide +kernel
theorem dX9_netOf_15 : decode cX9_netOf 15 = .ok (.iload_n 1, 1) := by decide +kernel
theorem dX9_netOf_16 : decode cX9_netOf 16 = .ok (.iload_n 3, 1) := by decide +kernel
theorem dX9_netOf_17 : decode cX9_netOf 17 = .ok (.invokestatic 111, 3) := by decide +kernel
theorem dX9_netOf_20 : decode cX9_netOf 20 = .ok (.ifCond .eq 11, 3) := by decide +kernel
theorem dX9_netOf_23 : decode cX9_netOf 23 = .ok (.aload_n 0, 1) := by decide +kernel
theorem dX9_netOf_24 : decode cX9_netOf 24 = .ok (.iload_n 3, 1) := by decide +kernel
theorem dX9_netOf_25 : decode cX9_netOf 25 = .ok (.invokevirtual 133, 3) := by decide +kernel
theorem dX9_netOf_28 : decode cX9_netOf 28 = .ok (.goto 4, 3) := by decide +kernel
theorem dX9_netOf_31 : decode cX9_netOf 31 = .ok (.iconst 0, 1) := by decide +kernel
theorem dX9_netOf_32 : decode cX9_netOf 32 = .ok (.iadd, 1) := by decide +kernel
theorem dX9_netOf_33 : decode cX9_netOf 33 = .ok (.istore_n 2, 1) := by decide +kernel
theorem dX9_netOf_34 : decode cX9_netOf 34 = .ok (.iinc 3 1, 3) := by decide +kernel
theorem dX9_netOf_37 : decode cX9_netOf 37 = .ok (.goto (-33), 3) := by decide +kernel
theorem dX9_netOf_40 : decode cX9_netOf 40 = .ok (.iload_n 2, 1) := by decide +kernel
theorem dX9_netOf_41 : decode cX9_netOf 41 = .ok (.ireturn, 1) := by decide +kernel
theorem dX9_settle_0 : decode cX9_settle 0 = .ok (.iconst 1, 1) := by decide +kernel
theorem dX9_settle_1 : decode cX9_settle 1 = .ok (.aload_n 0, 1) := by decide +kernel
theorem dX9_settle_2 : decode cX9_settle 2 = .ok (.getfield 13, 3) := by decide +kernel
theorem dX9_settle_5 : decode cX9_settle 5 = .ok (.iconst 0, 1) := by decide +kernel
theorem dX9_settle_6 : decode cX9_settle 6 = .ok (.iaload, 1) := by decide +kernel
theorem dX9_settle_7 : decode cX9_settle 7 = .ok (.ishl, 1) := by decide +kernel
theorem dX9_settle_8 : decode cX9_settle 8 = .ok (.iconst 1, 1) := by decide +kernel
theorem dX9_settle_9 : decode cX9_settle 9 = .ok (.isub, 1) := by decide +kernel
theorem dX9_settle_10 : decode cX9_settle 10 = .ok (.istore_n 1, 1) := by decide +kernel
theorem dX9_settle_11 : decode cX9_settle 11 = .ok (.iconst 0, 1) := by decide +kernel
theorem dX9_settle_12 : decode cX9_settle 12 = .ok (.istore_n 2, 1) := by decide +kernel
theorem dX9_settle_13 : decode cX9_settle 13 = .ok (.iload_n 2, 1) := by decide +kernel
theorem dX9_settle_14 : decode cX9_settle 14 = .ok (.iload_n 1, 1) := by decide +kernel
theorem dX9_settle_15 : decode cX9_settle 15 = .ok (.if_icmp .gt 97, 3) := by decide +kernel
theorem dX9_settle_18 : decode cX9_settle 18 = .ok (.iconst 0, 1) := by decide +kernel
theorem dX9_settle_19 : decode cX9_settle 19 = .ok (.istore_n 3, 1) := by decide +kernel
theorem dX9_settle_20 : decode cX9_settle 20 = .ok (.iconst 0, 1) := by decide +kernel
theorem dX9_settle_21 : decode cX9_settle 21 = .ok (.istore 4, 2) := by decide +kernel
theorem dX9_settle_23 : decode cX9_settle 23 = .ok (.iload 4, 2) := by decide +kernel
theorem dX9_settle_25 : decode cX9_settle 25 = .ok (.aload_n 0, 1) := by decide +kernel
theorem dX9_settle_26 : decode cX9_settle 26 = .ok (.getfield 13, 3) := by decide +kernel
theorem dX9_settle_29 : decode cX9_settle 29 = .ok (.iconst 0, 1) := by decide +kernel
theorem dX9_settle_30 : decode cX9_settle 30 = .ok (.iaload, 1) := by decide +kernel
theorem dX9_settle_31 : decode cX9_settle 31 = .ok (.if_icmp .ge 50, 3) := by decide +kernel
theorem dX9_settle_34 : decode cX9_settle 34 = .ok (.iload_n 2, 1) := by decide +kernel
theorem dX9_settle_35 : decode cX9_settle 35 = .ok (.iload 4, 2) := by decide +kernel
theorem dX9_settle_37 : decode cX9_settle 37 = .ok (.invokestatic 111, 3) := by decide +kernel
theorem dX9_settle_40 : decode cX9_settle 40 = .ok (.ifCond .eq 19, 3) := by decide +kernel
theorem dX9_settle_43 : decode cX9_settle 43 = .ok (.aload_n 0, 1) := by decide +kernel
theorem dX9_settle_44 : decode cX9_settle 44 = .ok (.getfield 41, 3) := by decide +kernel
theorem dX9_settle_47 : decode cX9_settle 47 = .ok (.iload_n 2, 1) := by decide +kernel
theorem dX9_settle_48 : decode cX9_settle 48 = .ok (.iconst 1, 1) := by decide +kernel
theorem dX9_settle_49 : decode cX9_settle 49 = .ok (.iload 4, 2) := by decide +kernel
theorem dX9_settle_51 : decode cX9_settle 51 = .ok (.ishl, 1) := by decide +kernel
theorem dX9_settle_52 : decode cX9_settle 52 = .ok (.iconst (-1), 1) := by decide +kernel
theorem dX9_settle_53 : decode cX9_settle 53 = .ok (.ixor, 1) := by decide +kernel
theorem dX9_settle_54 : decode cX9_settle 54 = .ok (.iand, 1) := by decide +kernel
theorem dX9_settle_55 : decode cX9_settle 55 = .ok (.iaload, 1) := by decide +kernel
theorem dX9_settle_56 : decode cX9_settle 56 = .ok (.goto 4, 3) := by decide +kernel
theorem dX9_settle_59 : decode cX9_settle 59 = .ok (.iconst 0, 1) := by decide +kernel
theorem dX9_settle_60 : decode cX9_settle 60 = .ok (.istore 5, 2) := by decide +kernel
theorem dX9_settle_62 : decode cX9_settle 62 = .ok (.iload 5, 2) := by decide +kernel
theorem dX9_settle_64 : decode cX9_settle 64 = .ok (.iload_n 3, 1) := by decide +kernel
theorem dX9_settle_65 : decode cX9_settle 65 = .ok (.if_icmp .le 8, 3) := by decide +kernel
theorem dX9_settle_68 : decode cX9_settle 68 = .ok (.iload 5, 2) := by decide +kernel
theorem dX9_settle_70 : decode cX9_settle 70 = .ok (.goto 4, 3) := by decide +kernel
theorem dX9_settle_73 : decode cX9_settle 73 = .ok (.iload_n 3, 1) := by decide +kernel
theorem dX9_settle_74 : decode cX9_settle 74 = .ok (.istore_n 3, 1) := by decide +kernel
theorem dX9_settle_75 : decode cX9_settle 75 = .ok (.iinc 4 1, 3) := by decide +kernel
theorem dX9_settle_78 : decode cX9_settle 78 = .ok (.goto (-55), 3) := by decide +kernel
theorem dX9_settle_81 : decode cX9_settle 81 = .ok (.aload_n 0, 1) := by decide +kernel
theorem dX9_settle_82 : decode cX9_settle 82 = .ok (.getfield 41, 3) := by decide +kernel
theorem dX9_settle_85 : decode cX9_settle 85 = .ok (.iload_n 2, 1) := by decide +kernel
theorem dX9_settle_86 : decode cX9_settle 86 = .ok (.iload_n 3, 1) := by decide +kernel
theorem dX9_settle_87 : decode cX9_settle 87 = .ok (.iload_n 2, 1) := by decide +kernel
theorem dX9_settle_88 : decode cX9_settle 88 = .ok (.ifCond .le 15, 3) := by decide +kernel
theorem dX9_settle_91 : decode cX9_settle 91 = .ok (.aload_n 0, 1) := by decide +kernel
theorem dX9_settle_92 : decode cX9_settle 92 = .ok (.iload_n 2, 1) := by decide +kernel
theorem dX9_settle_93 : decode cX9_settle 93 = .ok (.invokevirtual 165, 3) := by decide +kernel
theorem dX9_settle_96 : decode cX9_settle 96 = .ok (.ifCond .ne 7, 3) := by decide +kernel
theorem dX9_settle_99 : decode cX9_settle 99 = .ok (.iconst 1, 1) := by decide +kernel
theorem dX9_settle_100 : decode cX9_settle 100 = .ok (.goto 4, 3) := by decide +kernel
theorem dX9_settle_103 : decode cX9_settle 103 = .ok (.iconst 0, 1) := by decide +kernel
theorem dX9_settle_104 : decode cX9_settle 104 = .ok (.iadd, 1) := by decide +kernel
theorem dX9_settle_105 : decode cX9_settle 105 = .ok (.iastore, 1) := by decide +kernel
theorem dX9_settle_106 : decode cX9_settle 106 = .ok (.iinc 2 1, 3) := by decide +kernel
theorem dX9_settle_109 : decode cX9_settle 109 = .ok (.goto (-96), 3) := by decide +kernel
theorem dX9_settle_112 : decode cX9_settle 112 = .ok (.iload_n 1, 1) := by decide +kernel
theorem dX9_settle_113 : decode cX9_settle 113 = .ok (.invokestatic 168, 3) := by decide +kernel
theorem dX9_settle_116 : decode cX9_settle 116 = .ok (.aload_n 0, 1) := by decide +kernel
theorem dX9_settle_117 : decode cX9_settle 117 = .ok (.getfield 41, 3) := by decide +kernel
theorem dX9_settle_120 : decode cX9_settle 120 = .ok (.iload_n 1, 1) := by decide +kernel
theorem dX9_settle_121 : decode cX9_settle 121 = .ok (.iaload, 1) := by decide +kernel
theorem dX9_settle_122 : decode cX9_settle 122 = .ok (.isub, 1) := by decide +kernel
theorem dX9_settle_123 : decode cX9_settle 123 = .ok (.ireturn, 1) := by decide +kernel
theorem dX9_salt_0 : decode cX9_salt 0 = .ok (.bipush (-9), 2) := by decide +kernel
theorem dX9_salt_2 : decode cX9_salt 2 = .ok (.istore_n 1, 1) := by decide +kernel
theorem dX9_salt_3 : decode cX9_salt 3 = .ok (.iconst 0, 1) := by decide +kernel
theorem dX9_salt_4 : decode cX9_salt 4 = .ok (.istore_n 2, 1) := by decide +kernel
theorem dX9_salt_5 : decode cX9_salt 5 = .ok (.iload_n 2, 1) := by decide +kernel
theorem dX9_salt_6 : decode cX9_salt 6 = .ok (.iconst 1, 1) := by decide +kernel
theorem dX9_salt_7 : decode cX9_salt 7 = .ok (.aload_n 0, 1) := by decide +kernel
theorem dX9_salt_8 : decode cX9_salt 8 = .ok (.getfield 13, 3) := by decide +kernel
theorem dX9_salt_11 : decode cX9_salt 11 = .ok (.iconst 0, 1) := by decide +kernel
theorem dX9_salt_12 : decode cX9_salt 12 = .ok (.iaload, 1) := by decide +kernel
theorem dX9_salt_13 : decode cX9_salt 13 = .ok (.ishl, 1) := by decide +kernel
theorem dX9_salt_14 : decode cX9_salt 14 = .ok (.if_icmp .ge 102, 3) := by decide +kernel
theorem dX9_salt_17 : decode cX9_salt 17 = .ok (.iconst 1, 1) := by decide +kernel
theorem dX9_salt_18 : decode cX9_salt 18 = .ok (.istore_n 3, 1) := by decide +kernel
theorem dX9_salt_19 : decode cX9_salt 19 = .ok (.iconst 0, 1) := by decide +kernel
theorem dX9_salt_20 : decode cX9_salt 20 = .ok (.istore 4, 2) := by decide +kernel
theorem dX9_salt_22 : decode cX9_salt 22 = .ok (.iload 4, 2) := by decide +kernel
theorem dX9_salt_24 : decode cX9_salt 24 = .ok (.aload_n 0, 1) := by decide +kernel
theorem dX9_salt_25 : decode cX9_salt 25 = .ok (.getfield 13, 3) := by decide +kernel
theorem dX9_salt_28 : decode cX9_salt 28 = .ok (.iconst 1, 1) := by decide +kernel
theorem dX9_salt_29 : decode cX9_salt 29 = .ok (.iaload, 1) := by decide +kernel
theorem dX9_salt_30 : decode cX9_salt 30 = .ok (.if_icmp .ge 53, 3) := by decide +kernel
theorem dX9_salt_33 : decode cX9_salt 33 = .ok (.iload_n 3, 1) := by decide +kernel
theorem dX9_salt_34 : decode cX9_salt 34 = .ok (.ifCond .eq 41, 3) := by decide +kernel
theorem dX9_salt_37 : decode cX9_salt 37 = .ok (.iload_n 2, 1) := by decide +kernel
theorem dX9_salt_38 : decode cX9_salt 38 = .ok (.aload_n 0, 1) := by decide +kernel
theorem dX9_salt_39 : decode cX9_salt 39 = .ok (.getfield 13, 3) := by decide +kernel
theorem dX9_salt_42 : decode cX9_salt 42 = .ok (.bipush 10, 2) := by decide +kernel
theorem dX9_salt_44 : decode cX9_salt 44 = .ok (.iload 4, 2) := by decide +kernel
theorem dX9_salt_46 : decode cX9_salt 46 = .ok (.iadd, 1) := by decide +kernel
theorem dX9_salt_47 : decode cX9_salt 47 = .ok (.iaload, 1) := by decide +kernel
theorem dX9_salt_48 : decode cX9_salt 48 = .ok (.invokestatic 111, 3) := by decide +kernel
theorem dX9_salt_51 : decode cX9_salt 51 = .ok (.ifCond .ne 20, 3) := by decide +kernel
theorem dX9_salt_54 : decode cX9_salt 54 = .ok (.iload_n 2, 1) := by decide +kernel
theorem dX9_salt_55 : decode cX9_salt 55 = .ok (.aload_n 0, 1) := by decide +kernel
theorem dX9_salt_56 : decode cX9_salt 56 = .ok (.getfield 13, 3) := by decide +kernel
theorem dX9_salt_59 : decode cX9_salt 59 = .ok (.bipush 18, 2) := by decide +kernel
theorem dX9_salt_61 : decode cX9_salt 61 = .ok (.iload 4, 2) := by decide +kernel
theorem dX9_salt_63 : decode cX9_salt 63 = .ok (.iadd, 1) := by decide +kernel
theorem dX9_salt_64 : decode cX9_salt 64 = .ok (.iaload, 1) := by decide +kernel
theorem dX9_salt_65 : decode cX9_salt 65 = .ok (.invokestatic 111, 3) := by decide +kernel
theorem dX9_salt_68 : decode cX9_salt 68 = .ok (.ifCond .eq 7, 3) := by decide +kernel
theorem dX9_salt_71 : decode cX9_salt 71 = .ok (.iconst 1, 1) := by decide +kernel
theorem dX9_salt_72 : decode cX9_salt 72 = .ok (.goto 4, 3) := by decide +kernel
theorem dX9_salt_75 : decode cX9_salt 75 = .ok (.iconst 0, 1) := by decide +kernel
theorem dX9_salt_76 : decode cX9_salt 76 = .ok (.istore_n 3, 1) := by decide +kernel
theorem dX9_salt_77 : decode cX9_salt 77 = .ok (.iinc 4 1, 3) := by decide +kernel
theorem dX9_salt_80 : decode cX9_salt 80 = .ok (.goto (-58), 3) := by decide +kernel
theorem dX9_salt_83 : decode cX9_salt 83 = .ok (.iload_n 3, 1) := by decide +kernel
theorem dX9_salt_84 : decode cX9_salt 84 = .ok (.ifCond .eq 24, 3) := by decide +kernel
theorem dX9_salt_87 : decode cX9_salt 87 = .ok (.iload_n 1, 1) := by decide +kernel
theorem dX9_salt_88 : decode cX9_salt 88 = .ok (.bipush (-9), 2) := by decide +kernel
theorem dX9_salt_90 : decode cX9_salt 90 = .ok (.if_icmp .eq 14, 3) := by decide +kernel
theorem dX9_salt_93 : decode cX9_salt 93 = .ok (.iload_n 2, 1) := by decide +kernel
theorem dX9_salt_94 : decode cX9_salt 94 = .ok (.invokestatic 168, 3) := by decide +kernel
theorem dX9_salt_97 : decode cX9_salt 97 = .ok (.iload_n 1, 1) := by decide +kernel
theorem dX9_salt_98 : decode cX9_salt 98 = .ok (.invokestatic 168, 3) := by decide +kernel
theorem dX9_salt_101 : decode cX9_salt 101 = .ok (.if_icmp .ge 7, 3) := by decide +kernel
theorem dX9_salt_104 : decode cX9_salt 104 = .ok (.iload_n 2, 1) := by decide +kernel
theorem dX9_salt_105 : decode cX9_salt 105 = .ok (.goto 4, 3) := by decide +kernel
theorem dX9_salt_108 : decode cX9_salt 108 = .ok (.iload_n 1, 1) := by decide +kernel
theorem dX9_salt_109 : decode cX9_salt 109 = .ok (.istore_n 1, 1) := by decide +kernel
theorem dX9_salt_110 : decode cX9_salt 110 = .ok (.iinc 2 1, 3) := by decide +kernel
theorem dX9_salt_113 : decode cX9_salt 113 = .ok (.goto (-108), 3) := by decide +kernel
theorem dX9_salt_116 : decode cX9_salt 116 = .ok (.iload_n 1, 1) := by decide +kernel
theorem dX9_salt_117 : decode cX9_salt 117 = .ok (.ireturn, 1) := by decide +kernel
theorem dX9_now_0 : decode cX9_now 0 = .ok (.iconst 0, 1) := by decide +kernel
theorem dX9_now_1 : decode cX9_now 1 = .ok (.istore_n 2, 1) := by decide +kernel
theorem dX9_now_2 : decode cX9_now 2 = .ok (.iconst 0, 1) := by decide +kernel
theorem dX9_now_3 : decode cX9_now 3 = .ok (.istore_n 3, 1) := by decide +kernel
theorem dX9_now_4 : decode cX9_now 4 = .ok (.iconst 0, 1) := by decide +kernel
theorem dX9_now_5 : decode cX9_now 5 = .ok (.istore 4, 2) := by decide +kernel
theorem dX9_now_7 : decode cX9_now 7 = .ok (.iload 4, 2) := by decide +kernel
theorem dX9_now_9 : decode cX9_now 9 = .ok (.bipush 6, 2) := by decide +kernel
theorem dX9_now_11 : decode cX9_now 11 = .ok (.if_icmp .ge 27, 3) := by decide +kernel
theorem dX9_now_14 : decode cX9_now 14 = .ok (.iload_n 2, 1) := by decide +kernel
theorem dX9_now_15 : decode cX9_now 15 = .ok (.aload_n 0, 1) := by decide +kernel
theorem dX9_now_16 : decode cX9_now 16 = .ok (.iload 4, 2) := by decide +kernel
theorem dX9_now_18 : decode cX9_now 18 = .ok (.invokevirtual 130, 3) := by decide +kernel
theorem dX9_now_21 : decode cX9_now 21 = .ok (.iadd, 1) := by decide +kernel
theorem dX9_now_22 : decode cX9_now 22 = .ok (.istore_n 2, 1) := by decide +kernel
theorem dX9_now_23 : decode cX9_now 23 = .ok (.iload_n 3, 1) := by decide +kernel
theorem dX9_now_24 : decode cX9_now 24 = .ok (.aload_n 0, 1) := by decide +kernel
theorem dX9_now_25 : decode cX9_now 25 = .ok (.iload 4, 2) := by decide +kernel
theorem dX9_now_27 : decode cX9_now 27 = .ok (.invokevirtual 123, 3) := by decide +kernel
theorem dX9_now_30 : decode cX9_now 30 = .ok (.iadd, 1) := by decide +kernel
theorem dX9_now_31 : decode cX9_now 31 = .ok (.istore_n 3, 1) := by decide +kernel
theorem dX9_now_32 : decode cX9_now 32 = .ok (.iinc 4 1, 3) := by decide +kernel
theorem dX9_now_35 : decode cX9_now 35 = .ok (.goto (-28), 3) := by decide +kernel
theorem dX9_now_38 : decode cX9_now 38 = .ok (.iload_n 1, 1) := by decide +kernel
theorem dX9_now_39 : decode cX9_now 39 = .ok (.tableswitch 67 0 5 #[37, 45, 53, 55, 57, 62], 37) := by decide +kernel
theorem dX9_now_76 : decode cX9_now 76 = .ok (.aload_n 0, 1) := by decide +kernel
theorem dX9_now_77 : decode cX9_now 77 = .ok (.getfield 22, 3) := by decide +kernel
theorem dX9_now_80 : decode cX9_now 80 = .ok (.bipush 13, 2) := by decide +kernel
theorem dX9_now_82 : decode cX9_now 82 = .ok (.iaload, 1) := by decide +kernel
theorem dX9_now_83 : decode cX9_now 83 = .ok (.ireturn, 1) := by decide +kernel
theorem dX9_now_84 : decode cX9_now 84 = .ok (.aload_n 0, 1) := by decide +kernel
theorem dX9_now_85 : decode cX9_now 85 = .ok (.getfield 22, 3) := by decide +kernel
theorem dX9_now_88 : decode cX9_now 88 = .ok (.bipush 12, 2) := by decide +kernel
theorem dX9_now_90 : decode cX9_now 90 = .ok (.iaload, 1) := by decide +kernel
theorem dX9_now_91 : decode cX9_now 91 = .ok (.ireturn, 1) := by decide +kernel
theorem dX9_now_92 : decode cX9_now 92 = .ok (.iload_n 2, 1) := by decide +kernel
theorem dX9_now_93 : decode cX9_now 93 = .ok (.ireturn, 1) := by decide +kernel
theorem dX9_now_94 : decode cX9_now 94 = .ok (.iload_n 3, 1) := by decide +kernel
theorem dX9_now_95 : decode cX9_now 95 = .ok (.ireturn, 1) := by decide +kernel
theorem dX9_now_96 : decode cX9_now 96 = .ok (.aload_n 0, 1) := by decide +kernel
theorem dX9_now_97 : decode cX9_now 97 = .ok (.invokevirtual 171, 3) := by decide +kernel
theorem dX9_now_100 : decode cX9_now 100 = .ok (.ireturn, 1) := by decide +kernel
theorem dX9_now_101 : decode cX9_now 101 = .ok (.aload_n 0, 1) := by decide +kernel
theorem dX9_now_102 : decode cX9_now 102 = .ok (.invokevirtual 175, 3) := by decide +kernel
theorem dX9_now_105 : decode cX9_now 105 = .ok (.ireturn, 1) := by decide +kernel
theorem dX9_now_106 : decode cX9_now 106 = .ok (.iconst (-1), 1) := by decide +kernel
theorem dX9_now_107 : decode cX9_now 107 = .ok (.ireturn, 1) := by decide +kernel
theorem dX9_reckons_0 : decode cX9_reckons 0 = .ok (.iconst 0, 1) := by decide +kernel
theorem dX9_reckons_1 : decode cX9_reckons 1 = .ok (.istore_n 2, 1) := by decide +kernel
theorem dX9_reckons_2 : decode cX9_reckons 2 = .ok (.iload_n 2, 1) := by decide +kernel
theorem dX9_reckons_3 : decode cX9_reckons 3 = .ok (.bipush 6, 2) := by decide +kernel
theorem dX9_reckons_5 : decode cX9_reckons 5 = .ok (.if_icmp .ge 27, 3) := by decide +kernel
theorem dX9_reckons_8 : decode cX9_reckons 8 = .ok (.aload_n 0, 1) := by decide +kernel
theorem dX9_reckons_9 : decode cX9_reckons 9 = .ok (.getfield 44, 3) := by decide +kernel
theorem dX9_reckons_12 : decode cX9_reckons 12 = .ok (.iload_n 2, 1) := by decide +kernel
theorem dX9_reckons_13 : decode cX9_reckons 13 = .ok (.iload_n 2, 1) := by decide +kernel
theorem dX9_reckons_14 : decode cX9_reckons 14 = .ok (.iload_n 1, 1) := by decide +kernel
theorem dX9_reckons_15 : decode cX9_reckons 15 = .ok (.if_icmp .ne 7, 3) := by decide +kernel
theorem dX9_reckons_18 : decode cX9_reckons 18 = .ok (.iconst 0, 1) := by decide +kernel
theorem dX9_reckons_19 : decode cX9_reckons 19 = .ok (.goto 6, 3) := by decide +kernel
theorem dX9_reckons_22 : decode cX9_reckons 22 = .ok (.sipush 999, 3) := by decide +kernel
theorem dX9_reckons_25 : decode cX9_reckons 25 = .ok (.iastore, 1) := by decide +kernel
theorem dX9_reckons_26 : decode cX9_reckons 26 = .ok (.iinc 2 1, 3) := by decide +kernel
theorem dX9_reckons_29 : decode cX9_reckons 29 = .ok (.goto (-27), 3) := by decide +kernel
theorem dX9_reckons_32 : decode cX9_reckons 32 = .ok (.iconst 1, 1) := by decide +kernel
theorem dX9_reckons_33 : decode cX9_reckons 33 = .ok (.istore_n 2, 1) := by decide +kernel
theorem dX9_reckons_34 : decode cX9_reckons 34 = .ok (.iload_n 2, 1) := by decide +kernel
theorem dX9_reckons_35 : decode cX9_reckons 35 = .ok (.bipush 7, 2) := by decide +kernel
theorem dX9_reckons_37 : decode cX9_reckons 37 = .ok (.if_icmp .ge 221, 3) := by decide +kernel
theorem dX9_reckons_40 : decode cX9_reckons 40 = .ok (.iconst 0, 1) := by decide +kernel
theorem dX9_reckons_41 : decode cX9_reckons 41 = .ok (.istore_n 3, 1) := by decide +kernel
theorem dX9_reckons_42 : decode cX9_reckons 42 = .ok (.iload_n 3, 1) := by decide +kernel
theorem dX9_reckons_43 : decode cX9_reckons 43 = .ok (.bipush 6, 2) := by decide +kernel
theorem dX9_reckons_45 : decode cX9_reckons 45 = .ok (.if_icmp .ge 23, 3) := by decide +kernel
theorem dX9_reckons_48 : decode cX9_reckons 48 = .ok (.aload_n 0, 1) := by decide +kernel
theorem dX9_reckons_49 : decode cX9_reckons 49 = .ok (.getfield 44, 3) := by decide +kernel
theorem dX9_reckons_52 : decode cX9_reckons 52 = .ok (.bipush 6, 2) := by decide +kernel
theorem dX9_reckons_54 : decode cX9_reckons 54 = .ok (.iload_n 2, 1) := by decide +kernel
theorem dX9_reckons_55 : decode cX9_reckons 55 = .ok (.imul, 1) := by decide +kernel
theorem dX9_reckons_56 : decode cX9_reckons 56 = .ok (.iload_n 3, 1) := by decide +kernel
theorem dX9_reckons_57 : decode cX9_reckons 57 = .ok (.iadd, 1) := by decide +kernel
theorem dX9_reckons_58 : decode cX9_reckons 58 = .ok (.sipush 999, 3) := by decide +kernel
theorem dX9_reckons_61 : decode cX9_reckons 61 = .ok (.iastore, 1) := by decide +kernel
theorem dX9_reckons_62 : decode cX9_reckons 62 = .ok (.iinc 3 1, 3) := by decide +kernel
theorem dX9_reckons_65 : decode cX9_reckons 65 = .ok (.goto (-23), 3) := by decide +kernel
theorem dX9_reckons_68 : decode cX9_reckons 68 = .ok (.iconst 0, 1) := by decide +kernel
theorem dX9_reckons_69 : decode cX9_reckons 69 = .ok (.istore_n 3, 1) := by decide +kernel
theorem dX9_reckons_70 : decode cX9_reckons 70 = .ok (.iload_n 3, 1) := by decide +kernel
theorem dX9_reckons_71 : decode cX9_reckons 71 = .ok (.aload_n 0, 1) := by decide +kernel
theorem dX9_reckons_72 : decode cX9_reckons 72 = .ok (.getfield 13, 3) := by decide +kernel
theorem dX9_reckons_75 : decode cX9_reckons 75 = .ok (.iconst 1, 1) := by decide +kernel
theorem dX9_reckons_76 : decode cX9_reckons 76 = .ok (.iaload, 1) := by decide +kernel
theorem dX9_reckons_77 : decode cX9_reckons 77 = .ok (.if_icmp .ge 175, 3) := by decide +kernel
theorem dX9_reckons_80 : decode cX9_reckons 80 = .ok (.aload_n 0, 1) := by decide +kernel
theorem dX9_reckons_81 : decode cX9_reckons 81 = .ok (.getfield 13, 3) := by decide +kernel
theorem dX9_reckons_84 : decode cX9_reckons 84 = .ok (.bipush 10, 2) := by decide +kernel
theorem dX9_reckons_86 : decode cX9_reckons 86 = .ok (.iload_n 3, 1) := by decide +kernel
theorem dX9_reckons_87 : decode cX9_reckons 87 = .ok (.iadd, 1) := by decide +kernel
theorem dX9_reckons_88 : decode cX9_reckons 88 = .ok (.iaload, 1) := by decide +kernel
theorem dX9_reckons_89 : decode cX9_reckons 89 = .ok (.istore 4, 2) := by decide +kernel
theorem dX9_reckons_91 : decode cX9_reckons 91 = .ok (.aload_n 0, 1) := by decide +kernel
theorem dX9_reckons_92 : decode cX9_reckons 92 = .ok (.getfield 13, 3) := by decide +kernel
theorem dX9_reckons_95 : decode cX9_reckons 95 = .ok (.bipush 18, 2) := by decide +kernel
theorem dX9_reckons_97 : decode cX9_reckons 97 = .ok (.iload_n 3, 1) := by decide +kernel
theorem dX9_reckons_98 : decode cX9_reckons 98 = .ok (.iadd, 1) := by decide +kernel
theorem dX9_reckons_99 : decode cX9_reckons 99 = .ok (.iaload, 1) := by decide +kernel
theorem dX9_reckons_100 : decode cX9_reckons 100 = .ok (.istore 5, 2) := by decide +kernel
theorem dX9_reckons_102 : decode cX9_reckons 102 = .ok (.aload_n 0, 1) := by decide +kernel
theorem dX9_reckons_103 : decode cX9_reckons 103 = .ok (.getfield 13, 3) := by decide +kernel
theorem dX9_reckons_106 : decode cX9_reckons 106 = .ok (.bipush 26, 2) := by decide +kernel
theorem dX9_reckons_108 : decode cX9_reckons 108 = .ok (.iload_n 3, 1) := by decide +kernel
theorem dX9_reckons_109 : decode cX9_reckons 109 = .ok (.iadd, 1) := by decide +kernel
theorem dX9_reckons_110 : decode cX9_reckons 110 = .ok (.iaload, 1) := by decide +kernel
theorem dX9_reckons_111 : decode cX9_reckons 111 = .ok (.aload_n 0, 1) := by decide +kernel
theorem dX9_reckons_112 : decode cX9_reckons 112 = .ok (.getfield 44, 3) := by decide +kernel
theorem dX9_reckons_115 : decode cX9_reckons 115 = .ok (.bipush 6, 2) := by decide +kernel
theorem dX9_reckons_117 : decode cX9_reckons 117 = .ok (.iload_n 2, 1) := by decide +kernel
theorem dX9_reckons_118 : decode cX9_reckons 118 = .ok (.iconst 1, 1) := by decide +kernel
theorem dX9_reckons_119 : decode cX9_reckons 119 = .ok (.isub, 1) := by decide +kernel
theorem dX9_reckons_120 : decode cX9_reckons 120 = .ok (.imul, 1) := by decide +kernel
theorem dX9_reckons_121 : decode cX9_reckons 121 = .ok (.iload 5, 2) := by decide +kernel
theorem dX9_reckons_123 : decode cX9_reckons 123 = .ok (.iadd, 1) := by decide +kernel
theorem dX9_reckons_124 : decode cX9_reckons 124 = .ok (.iaload, 1) := by decide +kernel
theorem dX9_reckons_125 : decode cX9_reckons 125 = .ok (.iadd, 1) := by decide +kernel
theorem dX9_reckons_126 : decode cX9_reckons 126 = .ok (.istore 6, 2) := by decide +kernel
theorem dX9_reckons_128 : decode cX9_reckons 128 = .ok (.aload_n 0, 1) := by decide +kernel
theorem dX9_reckons_129 : decode cX9_reckons 129 = .ok (.getfield 13, 3) := by decide +kernel
theorem dX9_reckons_132 : decode cX9_reckons 132 = .ok (.bipush 26, 2) := by decide +kernel
theorem dX9_reckons_134 : decode cX9_reckons 134 = .ok (.iload_n 3, 1) := by decide +kernel
theorem dX9_reckons_135 : decode cX9_reckons 135 = .ok (.iadd, 1) := by decide +kernel
theorem dX9_reckons_136 : decode cX9_reckons 136 = .ok (.iaload, 1) := by decide +kernel
theorem dX9_reckons_137 : decode cX9_reckons 137 = .ok (.aload_n 0, 1) := by decide +kernel
theorem dX9_reckons_138 : decode cX9_reckons 138 = .ok (.getfield 44, 3) := by decide +kernel
theorem dX9_reckons_141 : decode cX9_reckons 141 = .ok (.bipush 6, 2) := by decide +kernel
theorem dX9_reckons_143 : decode cX9_reckons 143 = .ok (.iload_n 2, 1) := by decide +kernel
theorem dX9_reckons_144 : decode cX9_reckons 144 = .ok (.iconst 1, 1) := by decide +kernel
theorem dX9_reckons_145 : decode cX9_reckons 145 = .ok (.isub, 1) := by decide +kernel
theorem dX9_reckons_146 : decode cX9_reckons 146 = .ok (.imul, 1) := by decide +kernel
theorem dX9_reckons_147 : decode cX9_reckons 147 = .ok (.iload 4, 2) := by decide +kernel
theorem dX9_reckons_149 : decode cX9_reckons 149 = .ok (.iadd, 1) := by decide +kernel
theorem dX9_reckons_150 : decode cX9_reckons 150 = .ok (.iaload, 1) := by decide +kernel
theorem dX9_reckons_151 : decode cX9_reckons 151 = .ok (.iadd, 1) := by decide +kernel
theorem dX9_reckons_152 : decode cX9_reckons 152 = .ok (.istore 7, 2) := by decide +kernel
theorem dX9_reckons_154 : decode cX9_reckons 154 = .ok (.aload_n 0, 1) := by decide +kernel
theorem dX9_reckons_155 : decode cX9_reckons 155 = .ok (.getfield 44, 3) := by decide +kernel
theorem dX9_reckons_158 : decode cX9_reckons 158 = .ok (.bipush 6, 2) := by decide +kernel
theorem dX9_reckons_160 : decode cX9_reckons 160 = .ok (.iload_n 2, 1) := by decide +kernel
theorem dX9_reckons_161 : decode cX9_reckons 161 = .ok (.imul, 1) := by decide +kernel
theorem dX9_reckons_162 : decode cX9_reckons 162 = .ok (.iload 4, 2) := by decide +kernel
theorem dX9_reckons_164 : decode cX9_reckons 164 = .ok (.iadd, 1) := by decide +kernel
theorem dX9_reckons_165 : decode cX9_reckons 165 = .ok (.iload 6, 2) := by decide +kernel
theorem dX9_reckons_167 : decode cX9_reckons 167 = .ok (.aload_n 0, 1) := by decide +kernel
theorem dX9_reckons_168 : decode cX9_reckons 168 = .ok (.getfield 44, 3) := by decide +kernel
theorem dX9_reckons_171 : decode cX9_reckons 171 = .ok (.bipush 6, 2) := by decide +kernel
theorem dX9_reckons_173 : decode cX9_reckons 173 = .ok (.iload_n 2, 1) := by decide +kernel
theorem dX9_reckons_174 : decode cX9_reckons 174 = .ok (.imul, 1) := by decide +kernel
theorem dX9_reckons_175 : decode cX9_reckons 175 = .ok (.iload 4, 2) := by decide +kernel
theorem dX9_reckons_177 : decode cX9_reckons 177 = .ok (.iadd, 1) := by decide +kernel
theorem dX9_reckons_178 : decode cX9_reckons 178 = .ok (.iaload, 1) := by decide +kernel
theorem dX9_reckons_179 : decode cX9_reckons 179 = .ok (.if_icmp .ge 8, 3) := by decide +kernel
theorem dX9_reckons_182 : decode cX9_reckons 182 = .ok (.iload 6, 2) := by decide +kernel
theorem dX9_reckons_184 : decode cX9_reckons 184 = .ok (.goto 15, 3) := by decide +kernel
theorem dX9_reckons_187 : decode cX9_reckons 187 = .ok (.aload_n 0, 1) := by decide +kernel
theorem dX9_reckons_188 : decode cX9_reckons 188 = .ok (.getfield 44, 3) := by decide +kernel
theorem dX9_reckons_191 : decode cX9_reckons 191 = .ok (.bipush 6, 2) := by decide +kernel
theorem dX9_reckons_193 : decode cX9_reckons 193 = .ok (.iload_n 2, 1) := by decide +kernel
theorem dX9_reckons_194 : decode cX9_reckons 194 = .ok (.imul, 1) := by decide +kernel
theorem dX9_reckons_195 : decode cX9_reckons 195 = .ok (.iload 4, 2) := by decide +kernel
theorem dX9_reckons_197 : decode cX9_reckons 197 = .ok (.iadd, 1) := by decide +kernel
theorem dX9_reckons_198 : decode cX9_reckons 198 = .ok (.iaload, 1) := by decide +kernel
theorem dX9_reckons_199 : decode cX9_reckons 199 = .ok (.iastore, 1) := by decide +kernel
theorem dX9_reckons_200 : decode cX9_reckons 200 = .ok (.aload_n 0, 1) := by decide +kernel
theorem dX9_reckons_201 : decode cX9_reckons 201 = .ok (.getfield 44, 3) := by decide +kernel
theorem dX9_reckons_204 : decode cX9_reckons 204 = .ok (.bipush 6, 2) := by decide +kernel
theorem dX9_reckons_206 : decode cX9_reckons 206 = .ok (.iload_n 2, 1) := by decide +kernel
theorem dX9_reckons_207 : decode cX9_reckons 207 = .ok (.imul, 1) := by decide +kernel
theorem dX9_reckons_208 : decode cX9_reckons 208 = .ok (.iload 5, 2) := by decide +kernel
theorem dX9_reckons_210 : decode cX9_reckons 210 = .ok (.iadd, 1) := by decide +kernel
theorem dX9_reckons_211 : decode cX9_reckons 211 = .ok (.iload 7, 2) := by decide +kernel
theorem dX9_reckons_213 : decode cX9_reckons 213 = .ok (.aload_n 0, 1) := by decide +kernel
theorem dX9_reckons_214 : decode cX9_reckons 214 = .ok (.getfield 44, 3) := by decide +kernel
theorem dX9_reckons_217 : decode cX9_reckons 217 = .ok (.bipush 6, 2) := by decide +kernel
theorem dX9_reckons_219 : decode cX9_reckons 219 = .ok (.iload_n 2, 1) := by decide +kernel
theorem dX9_reckons_220 : decode cX9_reckons 220 = .ok (.imul, 1) := by decide +kernel
theorem dX9_reckons_221 : decode cX9_reckons 221 = .ok (.iload 5, 2) := by decide +kernel
theorem dX9_reckons_223 : decode cX9_reckons 223 = .ok (.iadd, 1) := by decide +kernel
theorem dX9_reckons_224 : decode cX9_reckons 224 = .ok (.iaload, 1) := by decide +kernel
theorem dX9_reckons_225 : decode cX9_reckons 225 = .ok (.if_icmp .ge 8, 3) := by decide +kernel
theorem dX9_reckons_228 : decode cX9_reckons 228 = .ok (.iload 7, 2) := by decide +kernel
theorem dX9_reckons_230 : decode cX9_reckons 230 = .ok (.goto 15, 3) := by decide +kernel
theorem dX9_reckons_233 : decode cX9_reckons 233 = .ok (.aload_n 0, 1) := by decide +kernel
theorem dX9_reckons_234 : decode cX9_reckons 234 = .ok (.getfield 44, 3) := by decide +kernel
theorem dX9_reckons_237 : decode cX9_reckons 237 = .ok (.bipush 6, 2) := by decide +kernel
theorem dX9_reckons_239 : decode cX9_reckons 239 = .ok (.iload_n 2, 1) := by decide +kernel
theorem dX9_reckons_240 : decode cX9_reckons 240 = .ok (.imul, 1) := by decide +kernel
theorem dX9_reckons_241 : decode cX9_reckons 241 = .ok (.iload 5, 2) := by decide +kernel
theorem dX9_reckons_243 : decode cX9_reckons 243 = .ok (.iadd, 1) := by decide +kernel
theorem dX9_reckons_244 : decode cX9_reckons 244 = .ok (.iaload, 1) := by decide +kernel
theorem dX9_reckons_245 : decode cX9_reckons 245 = .ok (.iastore, 1) := by decide +kernel
theorem dX9_reckons_246 : decode cX9_reckons 246 = .ok (.iinc 3 1, 3) := by decide +kernel
theorem dX9_reckons_249 : decode cX9_reckons 249 = .ok (.goto (-179), 3) := by decide +kernel
theorem dX9_reckons_252 : decode cX9_reckons 252 = .ok (.iinc 2 1, 3) := by decide +kernel
theorem dX9_reckons_255 : decode cX9_reckons 255 = .ok (.goto (-221), 3) := by decide +kernel
theorem dX9_reckons_258 : decode cX9_reckons 258 = .ok (.return_, 1) := by decide +kernel
theorem dX9_pass_0 : decode cX9_pass 0 = .ok (.aload_n 0, 1) := by decide +kernel
theorem dX9_pass_1 : decode cX9_pass 1 = .ok (.iload_n 1, 1) := by decide +kernel
theorem dX9_pass_2 : decode cX9_pass 2 = .ok (.invokevirtual 114, 3) := by decide +kernel
theorem dX9_pass_5 : decode cX9_pass 5 = .ok (.ifCond .eq 20, 3) := by decide +kernel
theorem dX9_pass_8 : decode cX9_pass 8 = .ok (.aload_n 0, 1) := by decide +kernel
theorem dX9_pass_9 : decode cX9_pass 9 = .ok (.iload_n 2, 1) := by decide +kernel
theorem dX9_pass_10 : decode cX9_pass 10 = .ok (.invokevirtual 126, 3) := by decide +kernel
theorem dX9_pass_13 : decode cX9_pass 13 = .ok (.ifCond .eq 12, 3) := by decide +kernel
theorem dX9_pass_16 : decode cX9_pass 16 = .ok (.iload_n 3, 1) := by decide +kernel
theorem dX9_pass_17 : decode cX9_pass 17 = .ok (.iconst 0, 1) := by decide +kernel
theorem dX9_pass_18 : decode cX9_pass 18 = .ok (.iconst 2, 1) := by decide +kernel
theorem dX9_pass_19 : decode cX9_pass 19 = .ok (.invokestatic 54, 3) := by decide +kernel
theorem dX9_pass_22 : decode cX9_pass 22 = .ok (.ifCond .ne 5, 3) := by decide +kernel
theorem dX9_pass_25 : decode cX9_pass 25 = .ok (.iconst (-1), 1) := by decide +kernel
theorem dX9_pass_26 : decode cX9_pass 26 = .ok (.ireturn, 1) := by decide +kernel
theorem dX9_pass_27 : decode cX9_pass 27 = .ok (.aload_n 0, 1) := by decide +kernel
theorem dX9_pass_28 : decode cX9_pass 28 = .ok (.iload_n 1, 1) := by decide +kernel
theorem dX9_pass_29 : decode cX9_pass 29 = .ok (.invokevirtual 117, 3) := by decide +kernel
theorem dX9_pass_32 : decode cX9_pass 32 = .ok (.ifCond .ne 6, 3) := by decide +kernel
theorem dX9_pass_35 : decode cX9_pass 35 = .ok (.bipush (-2), 2) := by decide +kernel
theorem dX9_pass_37 : decode cX9_pass 37 = .ok (.ireturn, 1) := by decide +kernel
theorem dX9_pass_38 : decode cX9_pass 38 = .ok (.aload_n 0, 1) := by decide +kernel
theorem dX9_pass_39 : decode cX9_pass 39 = .ok (.getfield 22, 3) := by decide +kernel
theorem dX9_pass_42 : decode cX9_pass 42 = .ok (.iload_n 1, 1) := by decide +kernel
theorem dX9_pass_43 : decode cX9_pass 43 = .ok (.iaload, 1) := by decide +kernel
theorem dX9_pass_44 : decode cX9_pass 44 = .ok (.iload_n 2, 1) := by decide +kernel
theorem dX9_pass_45 : decode cX9_pass 45 = .ok (.if_icmp .ne 14, 3) := by decide +kernel
theorem dX9_pass_48 : decode cX9_pass 48 = .ok (.iload_n 3, 1) := by decide +kernel
theorem dX9_pass_49 : decode cX9_pass 49 = .ok (.ifCond .ne 7, 3) := by decide +kernel
theorem dX9_pass_52 : decode cX9_pass 52 = .ok (.iconst 0, 1) := by decide +kernel
theorem dX9_pass_53 : decode cX9_pass 53 = .ok (.goto 5, 3) := by decide +kernel
theorem dX9_pass_56 : decode cX9_pass 56 = .ok (.bipush (-9), 2) := by decide +kernel
theorem dX9_pass_58 : decode cX9_pass 58 = .ok (.ireturn, 1) := by decide +kernel
theorem dX9_pass_59 : decode cX9_pass 59 = .ok (.aload_n 0, 1) := by decide +kernel
theorem dX9_pass_60 : decode cX9_pass 60 = .ok (.iload_n 2, 1) := by decide +kernel
theorem dX9_pass_61 : decode cX9_pass 61 = .ok (.invokevirtual 178, 3) := by decide +kernel
theorem dX9_pass_64 : decode cX9_pass 64 = .ok (.aload_n 0, 1) := by decide +kernel
theorem dX9_pass_65 : decode cX9_pass 65 = .ok (.getfield 13, 3) := by decide +kernel
theorem dX9_pass_68 : decode cX9_pass 68 = .ok (.bipush 50, 2) := by decide +kernel
theorem dX9_pass_70 : decode cX9_pass 70 = .ok (.iload_n 1, 1) := by decide +kernel
theorem dX9_pass_71 : decode cX9_pass 71 = .ok (.iadd, 1) := by decide +kernel
theorem dX9_pass_72 : decode cX9_pass 72 = .ok (.iaload, 1) := by decide +kernel
theorem dX9_pass_73 : decode cX9_pass 73 = .ok (.aload_n 0, 1) := by decide +kernel
theorem dX9_pass_74 : decode cX9_pass 74 = .ok (.getfield 22, 3) := by decide +kernel
theorem dX9_pass_77 : decode cX9_pass 77 = .ok (.bipush 8, 2) := by decide +kernel
theorem dX9_pass_79 : decode cX9_pass 79 = .ok (.iload_n 1, 1) := by decide +kernel
theorem dX9_pass_80 : decode cX9_pass 80 = .ok (.iadd, 1) := by decide +kernel
theorem dX9_pass_81 : decode cX9_pass 81 = .ok (.iaload, 1) := by decide +kernel
theorem dX9_pass_82 : decode cX9_pass 82 = .ok (.isub, 1) := by decide +kernel
theorem dX9_pass_83 : decode cX9_pass 83 = .ok (.istore 4, 2) := by decide +kernel
theorem dX9_pass_85 : decode cX9_pass 85 = .ok (.iload 4, 2) := by decide +kernel
theorem dX9_pass_87 : decode cX9_pass 87 = .ok (.aload_n 0, 1) := by decide +kernel
theorem dX9_pass_88 : decode cX9_pass 88 = .ok (.getfield 22, 3) := by decide +kernel
theorem dX9_pass_91 : decode cX9_pass 91 = .ok (.iconst 4, 1) := by decide +kernel
theorem dX9_pass_92 : decode cX9_pass 92 = .ok (.iload_n 1, 1) := by decide +kernel
theorem dX9_pass_93 : decode cX9_pass 93 = .ok (.iadd, 1) := by decide +kernel
theorem dX9_pass_94 : decode cX9_pass 94 = .ok (.iaload, 1) := by decide +kernel
theorem dX9_pass_95 : decode cX9_pass 95 = .ok (.iadd, 1) := by decide +kernel
theorem dX9_pass_96 : decode cX9_pass 96 = .ok (.istore 5, 2) := by decide +kernel
theorem dX9_pass_98 : decode cX9_pass 98 = .ok (.iconst 1, 1) := by decide +kernel
theorem dX9_pass_99 : decode cX9_pass 99 = .ok (.istore 6, 2) := by decide +kernel
theorem dX9_pass_101 : decode cX9_pass 101 = .ok (.iload 6, 2) := by decide +kernel
theorem dX9_pass_103 : decode cX9_pass 103 = .ok (.bipush 7, 2) := by decide +kernel
theorem dX9_pass_105 : decode cX9_pass 105 = .ok (.if_icmp .ge 31, 3) := by decide +kernel
theorem dX9_pass_108 : decode cX9_pass 108 = .ok (.aload_n 0, 1) := by decide +kernel
theorem dX9_pass_109 : decode cX9_pass 109 = .ok (.getfield 44, 3) := by decide +kernel
theorem dX9_pass_112 : decode cX9_pass 112 = .ok (.bipush 6, 2) := by decide +kernel
theorem dX9_pass_114 : decode cX9_pass 114 = .ok (.iload 6, 2) := by decide +kernel
theorem dX9_pass_116 : decode cX9_pass 116 = .ok (.imul, 1) := by decide +kernel
theorem dX9_pass_117 : decode cX9_pass 117 = .ok (.aload_n 0, 1) := by decide +kernel
theorem dX9_pass_118 : decode cX9_pass 118 = .ok (.getfield 22, 3) := by decide +kernel
theorem dX9_pass_121 : decode cX9_pass 121 = .ok (.iload_n 1, 1) := by decide +kernel
theorem dX9_pass_122 : decode cX9_pass 122 = .ok (.iaload, 1) := by decide +kernel
theorem dX9_pass_123 : decode cX9_pass 123 = .ok (.iadd, 1) := by decide +kernel
theorem dX9_pass_124 : decode cX9_pass 124 = .ok (.iaload, 1) := by decide +kernel
theorem dX9_pass_125 : decode cX9_pass 125 = .ok (.iload 5, 2) := by decide +kernel
theorem dX9_pass_127 : decode cX9_pass 127 = .ok (.if_icmp .le 9, 3) := by decide +kernel
theorem dX9_pass_130 : decode cX9_pass 130 = .ok (.iinc 6 1, 3) := by decide +kernel
theorem dX9_pass_133 : decode cX9_pass 133 = .ok (.goto (-32), 3) := by decide +kernel
theorem dX9_pass_136 : decode cX9_pass 136 = .ok (.iload 6, 2) := by decide +kernel
theorem dX9_pass_138 : decode cX9_pass 138 = .ok (.bipush 7, 2) := by decide +kernel
theorem dX9_pass_140 : decode cX9_pass 140 = .ok (.if_icmp .ne 6, 3) := by decide +kernel
theorem dX9_pass_143 : decode cX9_pass 143 = .ok (.bipush (-9), 2) := by decide +kernel
theorem dX9_pass_145 : decode cX9_pass 145 = .ok (.ireturn, 1) := by decide +kernel
theorem dX9_pass_146 : decode cX9_pass 146 = .ok (.bipush (-9), 2) := by decide +kernel
theorem dX9_pass_148 : decode cX9_pass 148 = .ok (.istore 7, 2) := by decide +kernel
theorem dX9_pass_150 : decode cX9_pass 150 = .ok (.aload_n 0, 1) := by decide +kernel
theorem dX9_pass_151 : decode cX9_pass 151 = .ok (.getfield 13, 3) := by decide +kernel
theorem dX9_pass_154 : decode cX9_pass 154 = .ok (.iconst 1, 1) := by decide +kernel
theorem dX9_pass_155 : decode cX9_pass 155 = .ok (.iaload, 1) := by decide +kernel
theorem dX9_pass_156 : decode cX9_pass 156 = .ok (.iconst 1, 1) := by decide +kernel
theorem dX9_pass_157 : decode cX9_pass 157 = .ok (.isub, 1) := by decide +kernel
theorem dX9_pass_158 : decode cX9_pass 158 = .ok (.istore 8, 2) := by decide +kernel
theorem dX9_pass_160 : decode cX9_pass 160 = .ok (.iload 8, 2) := by decide +kernel
theorem dX9_pass_162 : decode cX9_pass 162 = .ok (.ifCond .lt 127, 3) := by decide +kernel
theorem dX9_pass_165 : decode cX9_pass 165 = .ok (.aload_n 0, 1) := by decide +kernel
theorem dX9_pass_166 : decode cX9_pass 166 = .ok (.getfield 13, 3) := by decide +kernel
theorem dX9_pass_169 : decode cX9_pass 169 = .ok (.bipush 10, 2) := by decide +kernel
theorem dX9_pass_171 : decode cX9_pass 171 = .ok (.iload 8, 2) := by decide +kernel
theorem dX9_pass_173 : decode cX9_pass 173 = .ok (.iadd, 1) := by decide +kernel
theorem dX9_pass_174 : decode cX9_pass 174 = .ok (.iaload, 1) := by decide +kernel
theorem dX9_pass_175 : decode cX9_pass 175 = .ok (.istore 9, 2) := by decide +kernel
theorem dX9_pass_177 : decode cX9_pass 177 = .ok (.aload_n 0, 1) := by decide +kernel
theorem dX9_pass_178 : decode cX9_pass 178 = .ok (.getfield 13, 3) := by decide +kernel
theorem dX9_pass_181 : decode cX9_pass 181 = .ok (.bipush 18, 2) := by decide +kernel
theorem dX9_pass_183 : decode cX9_pass 183 = .ok (.iload 8, 2) := by decide +kernel
theorem dX9_pass_185 : decode cX9_pass 185 = .ok (.iadd, 1) := by decide +kernel
theorem dX9_pass_186 : decode cX9_pass 186 = .ok (.iaload, 1) := by decide +kernel
theorem dX9_pass_187 : decode cX9_pass 187 = .ok (.istore 10, 2) := by decide +kernel
theorem dX9_pass_189 : decode cX9_pass 189 = .ok (.iload 9, 2) := by decide +kernel
theorem dX9_pass_191 : decode cX9_pass 191 = .ok (.aload_n 0, 1) := by decide +kernel
theorem dX9_pass_192 : decode cX9_pass 192 = .ok (.getfield 22, 3) := by decide +kernel
theorem dX9_pass_195 : decode cX9_pass 195 = .ok (.iload_n 1, 1) := by decide +kernel
theorem dX9_pass_196 : decode cX9_pass 196 = .ok (.iaload, 1) := by decide +kernel
theorem dX9_pass_197 : decode cX9_pass 197 = .ok (.if_icmp .ne 8, 3) := by decide +kernel
theorem dX9_pass_200 : decode cX9_pass 200 = .ok (.iload 10, 2) := by decide +kernel
theorem dX9_pass_202 : decode cX9_pass 202 = .ok (.goto 5, 3) := by decide +kernel
theorem dX9_pass_205 : decode cX9_pass 205 = .ok (.iload 9, 2) := by decide +kernel
theorem dX9_pass_207 : decode cX9_pass 207 = .ok (.istore 11, 2) := by decide +kernel
theorem dX9_pass_209 : decode cX9_pass 209 = .ok (.iload 9, 2) := by decide +kernel
theorem dX9_pass_211 : decode cX9_pass 211 = .ok (.aload_n 0, 1) := by decide +kernel
theorem dX9_pass_212 : decode cX9_pass 212 = .ok (.getfield 22, 3) := by decide +kernel
theorem dX9_pass_215 : decode cX9_pass 215 = .ok (.iload_n 1, 1) := by decide +kernel
theorem dX9_pass_216 : decode cX9_pass 216 = .ok (.iaload, 1) := by decide +kernel
theorem dX9_pass_217 : decode cX9_pass 217 = .ok (.if_icmp .eq 14, 3) := by decide +kernel
theorem dX9_pass_220 : decode cX9_pass 220 = .ok (.iload 10, 2) := by decide +kernel
theorem dX9_pass_222 : decode cX9_pass 222 = .ok (.aload_n 0, 1) := by decide +kernel
theorem dX9_pass_223 : decode cX9_pass 223 = .ok (.getfield 22, 3) := by decide +kernel
theorem dX9_pass_226 : decode cX9_pass 226 = .ok (.iload_n 1, 1) := by decide +kernel
theorem dX9_pass_227 : decode cX9_pass 227 = .ok (.iaload, 1) := by decide +kernel
theorem dX9_pass_228 : decode cX9_pass 228 = .ok (.if_icmp .ne 38, 3) := by decide +kernel
theorem dX9_pass_231 : decode cX9_pass 231 = .ok (.aload_n 0, 1) := by decide +kernel
theorem dX9_pass_232 : decode cX9_pass 232 = .ok (.getfield 13, 3) := by decide +kernel
theorem dX9_pass_235 : decode cX9_pass 235 = .ok (.bipush 26, 2) := by decide +kernel
theorem dX9_pass_237 : decode cX9_pass 237 = .ok (.iload 8, 2) := by decide +kernel
theorem dX9_pass_239 : decode cX9_pass 239 = .ok (.iadd, 1) := by decide +kernel
theorem dX9_pass_240 : decode cX9_pass 240 = .ok (.iaload, 1) := by decide +kernel
theorem dX9_pass_241 : decode cX9_pass 241 = .ok (.aload_n 0, 1) := by decide +kernel
theorem dX9_pass_242 : decode cX9_pass 242 = .ok (.getfield 44, 3) := by decide +kernel
theorem dX9_pass_245 : decode cX9_pass 245 = .ok (.bipush 6, 2) := by decide +kernel
theorem dX9_pass_247 : decode cX9_pass 247 = .ok (.iload 6, 2) := by decide +kernel
theorem dX9_pass_249 : decode cX9_pass 249 = .ok (.iconst 1, 1) := by decide +kernel
theorem dX9_pass_250 : decode cX9_pass 250 = .ok (.isub, 1) := by decide +kernel
theorem dX9_pass_251 : decode cX9_pass 251 = .ok (.imul, 1) := by decide +kernel
theorem dX9_pass_252 : decode cX9_pass 252 = .ok (.iload 11, 2) := by decide +kernel
theorem dX9_pass_254 : decode cX9_pass 254 = .ok (.iadd, 1) := by decide +kernel
theorem dX9_pass_255 : decode cX9_pass 255 = .ok (.iaload, 1) := by decide +kernel
theorem dX9_pass_256 : decode cX9_pass 256 = .ok (.iadd, 1) := by decide +kernel
theorem dX9_pass_257 : decode cX9_pass 257 = .ok (.iload 5, 2) := by decide +kernel
theorem dX9_pass_259 : decode cX9_pass 259 = .ok (.if_icmp .gt 7, 3) := by decide +kernel
theorem dX9_pass_262 : decode cX9_pass 262 = .ok (.iconst 1, 1) := by decide +kernel
theorem dX9_pass_263 : decode cX9_pass 263 = .ok (.goto 4, 3) := by decide +kernel
theorem dX9_pass_266 : decode cX9_pass 266 = .ok (.iconst 0, 1) := by decide +kernel
theorem dX9_pass_267 : decode cX9_pass 267 = .ok (.istore 12, 2) := by decide +kernel
theorem dX9_pass_269 : decode cX9_pass 269 = .ok (.iload 12, 2) := by decide +kernel
theorem dX9_pass_271 : decode cX9_pass 271 = .ok (.ifCond .eq 8, 3) := by decide +kernel
theorem dX9_pass_274 : decode cX9_pass 274 = .ok (.iload 8, 2) := by decide +kernel
theorem dX9_pass_276 : decode cX9_pass 276 = .ok (.goto 5, 3) := by decide +kernel
theorem dX9_pass_279 : decode cX9_pass 279 = .ok (.iload 7, 2) := by decide +kernel
theorem dX9_pass_281 : decode cX9_pass 281 = .ok (.istore 7, 2) := by decide +kernel
theorem dX9_pass_283 : decode cX9_pass 283 = .ok (.iinc 8 (-1), 3) := by decide +kernel
theorem dX9_pass_286 : decode cX9_pass 286 = .ok (.goto (-126), 3) := by decide +kernel
theorem dX9_pass_289 : decode cX9_pass 289 = .ok (.aload_n 0, 1) := by decide +kernel
theorem dX9_pass_290 : decode cX9_pass 290 = .ok (.getfield 13, 3) := by decide +kernel
theorem dX9_pass_293 : decode cX9_pass 293 = .ok (.bipush 26, 2) := by decide +kernel
theorem dX9_pass_295 : decode cX9_pass 295 = .ok (.iload 7, 2) := by decide +kernel
theorem dX9_pass_297 : decode cX9_pass 297 = .ok (.iadd, 1) := by decide +kernel
theorem dX9_pass_298 : decode cX9_pass 298 = .ok (.iaload, 1) := by decide +kernel
theorem dX9_pass_299 : decode cX9_pass 299 = .ok (.iload 4, 2) := by decide +kernel
theorem dX9_pass_301 : decode cX9_pass 301 = .ok (.if_icmp .le 19, 3) := by decide +kernel
theorem dX9_pass_304 : decode cX9_pass 304 = .ok (.aload_n 0, 1) := by decide +kernel
theorem dX9_pass_305 : decode cX9_pass 305 = .ok (.getfield 13, 3) := by decide +kernel
theorem dX9_pass_308 : decode cX9_pass 308 = .ok (.bipush 26, 2) := by decide +kernel
theorem dX9_pass_310 : decode cX9_pass 310 = .ok (.iload 7, 2) := by decide +kernel
theorem dX9_pass_312 : decode cX9_pass 312 = .ok (.iadd, 1) := by decide +kernel
theorem dX9_pass_313 : decode cX9_pass 313 = .ok (.iaload, 1) := by decide +kernel
theorem dX9_pass_314 : decode cX9_pass 314 = .ok (.iload 4, 2) := by decide +kernel
theorem dX9_pass_316 : decode cX9_pass 316 = .ok (.isub, 1) := by decide +kernel
theorem dX9_pass_317 : decode cX9_pass 317 = .ok (.goto 4, 3) := by decide +kernel
theorem dX9_pass_320 : decode cX9_pass 320 = .ok (.iconst 0, 1) := by decide +kernel
theorem dX9_pass_321 : decode cX9_pass 321 = .ok (.istore 8, 2) := by decide +kernel
theorem dX9_pass_323 : decode cX9_pass 323 = .ok (.iload_n 3, 1) := by decide +kernel
theorem dX9_pass_324 : decode cX9_pass 324 = .ok (.ifCond .ne 8, 3) := by decide +kernel
theorem dX9_pass_327 : decode cX9_pass 327 = .ok (.iload 6, 2) := by decide +kernel
theorem dX9_pass_329 : decode cX9_pass 329 = .ok (.goto 15, 3) := by decide +kernel
theorem dX9_pass_332 : decode cX9_pass 332 = .ok (.iload_n 3, 1) := by decide +kernel
theorem dX9_pass_333 : decode cX9_pass 333 = .ok (.iconst 1, 1) := by decide +kernel
theorem dX9_pass_334 : decode cX9_pass 334 = .ok (.if_icmp .ne 8, 3) := by decide +kernel
theorem dX9_pass_337 : decode cX9_pass 337 = .ok (.iload 7, 2) := by decide +kernel
theorem dX9_pass_339 : decode cX9_pass 339 = .ok (.goto 5, 3) := by decide +kernel
theorem dX9_pass_342 : decode cX9_pass 342 = .ok (.iload 8, 2) := by decide +kernel
theorem dX9_pass_344 : decode cX9_pass 344 = .ok (.ireturn, 1) := by decide +kernel
theorem dX9_ring_0 : decode cX9_ring 0 = .ok (.iload_n 1, 1) := by decide +kernel
theorem dX9_ring_1 : decode cX9_ring 1 = .ok (.bipush (-2), 2) := by decide +kernel
theorem dX9_ring_3 : decode cX9_ring 3 = .ok (.iconst 5, 1) := by decide +kernel
theorem dX9_ring_4 : decode cX9_ring 4 = .ok (.invokestatic 54, 3) := by decide +kernel
theorem dX9_ring_7 : decode cX9_ring 7 = .ok (.ifCond .ne 5, 3) := by decide +kernel
theorem dX9_ring_10 : decode cX9_ring 10 = .ok (.iconst (-1), 1) := by decide +kernel
theorem dX9_ring_11 : decode cX9_ring 11 = .ok (.ireturn, 1) := by decide +kernel
theorem dX9_ring_12 : decode cX9_ring 12 = .ok (.aload_n 0, 1) := by decide +kernel
theorem dX9_ring_13 : decode cX9_ring 13 = .ok (.invokevirtual 162, 3) := by decide +kernel
theorem dX9_ring_16 : decode cX9_ring 16 = .ok (.aload_n 0, 1) := by decide +kernel
theorem dX9_ring_17 : decode cX9_ring 17 = .ok (.getfield 153, 3) := by decide +kernel
theorem dX9_ring_20 : decode cX9_ring 20 = .ok (.ifCond .ne 6, 3) := by decide +kernel
theorem dX9_ring_23 : decode cX9_ring 23 = .ok (.bipush (-9), 2) := by decide +kernel
theorem dX9_ring_25 : decode cX9_ring 25 = .ok (.ireturn, 1) := by decide +kernel
theorem dX9_ring_26 : decode cX9_ring 26 = .ok (.iload_n 1, 1) := by decide +kernel
theorem dX9_ring_27 : decode cX9_ring 27 = .ok (.iconst (-1), 1) := by decide +kernel
theorem dX9_ring_28 : decode cX9_ring 28 = .ok (.if_icmp .ne 10, 3) := by decide +kernel
theorem dX9_ring_31 : decode cX9_ring 31 = .ok (.aload_n 0, 1) := by decide +kernel
theorem dX9_ring_32 : decode cX9_ring 32 = .ok (.getfield 153, 3) := by decide +kernel
theorem dX9_ring_35 : decode cX9_ring 35 = .ok (.goto 35, 3) := by decide +kernel
theorem dX9_ring_38 : decode cX9_ring 38 = .ok (.iload_n 1, 1) := by decide +kernel
theorem dX9_ring_39 : decode cX9_ring 39 = .ok (.bipush (-2), 2) := by decide +kernel
theorem dX9_ring_41 : decode cX9_ring 41 = .ok (.if_icmp .ne 10, 3) := by decide +kernel
theorem dX9_ring_44 : decode cX9_ring 44 = .ok (.aload_n 0, 1) := by decide +kernel
theorem dX9_ring_45 : decode cX9_ring 45 = .ok (.getfield 150, 3) := by decide +kernel
theorem dX9_ring_48 : decode cX9_ring 48 = .ok (.goto 22, 3) := by decide +kernel
theorem dX9_ring_51 : decode cX9_ring 51 = .ok (.iload_n 1, 1) := by decide +kernel
theorem dX9_ring_52 : decode cX9_ring 52 = .ok (.aload_n 0, 1) := by decide +kernel
theorem dX9_ring_53 : decode cX9_ring 53 = .ok (.getfield 153, 3) := by decide +kernel
theorem dX9_ring_56 : decode cX9_ring 56 = .ok (.if_icmp .ge 12, 3) := by decide +kernel
theorem dX9_ring_59 : decode cX9_ring 59 = .ok (.aload_n 0, 1) := by decide +kernel
theorem dX9_ring_60 : decode cX9_ring 60 = .ok (.getfield 38, 3) := by decide +kernel
theorem dX9_ring_63 : decode cX9_ring 63 = .ok (.iload_n 1, 1) := by decide +kernel
theorem dX9_ring_64 : decode cX9_ring 64 = .ok (.iaload, 1) := by decide +kernel
theorem dX9_ring_65 : decode cX9_ring 65 = .ok (.goto 5, 3) := by decide +kernel
theorem dX9_ring_68 : decode cX9_ring 68 = .ok (.bipush (-9), 2) := by decide +kernel
theorem dX9_ring_70 : decode cX9_ring 70 = .ok (.ireturn, 1) := by decide +kernel
theorem dX9_safe_0 : decode cX9_safe 0 = .ok (.aload_n 0, 1) := by decide +kernel
theorem dX9_safe_1 : decode cX9_safe 1 = .ok (.iload_n 1, 1) := by decide +kernel
theorem dX9_safe_2 : decode cX9_safe 2 = .ok (.invokevirtual 114, 3) := by decide +kernel
theorem dX9_safe_5 : decode cX9_safe 5 = .ok (.ifCond .eq 55, 3) := by decide +kernel
theorem dX9_safe_8 : decode cX9_safe 8 = .ok (.iload_n 2, 1) := by decide +kernel
theorem dX9_safe_9 : decode cX9_safe 9 = .ok (.iconst 0, 1) := by decide +kernel
theorem dX9_safe_10 : decode cX9_safe 10 = .ok (.bipush 9, 2) := by decide +kernel
theorem dX9_safe_12 : decode cX9_safe 12 = .ok (.invokestatic 54, 3) := by decide +kernel
theorem dX9_safe_15 : decode cX9_safe 15 = .ok (.ifCond .eq 45, 3) := by decide +kernel
theorem dX9_safe_18 : decode cX9_safe 18 = .ok (.iload_n 3, 1) := by decide +kernel
theorem dX9_safe_19 : decode cX9_safe 19 = .ok (.iconst 0, 1) := by decide +kernel
theorem dX9_safe_20 : decode cX9_safe 20 = .ok (.bipush 9, 2) := by decide +kernel
theorem dX9_safe_22 : decode cX9_safe 22 = .ok (.invokestatic 54, 3) := by decide +kernel
theorem dX9_safe_25 : decode cX9_safe 25 = .ok (.ifCond .eq 35, 3) := by decide +kernel
theorem dX9_safe_28 : decode cX9_safe 28 = .ok (.iload 4, 2) := by decide +kernel
theorem dX9_safe_30 : decode cX9_safe 30 = .ok (.iconst 0, 1) := by decide +kernel
theorem dX9_safe_31 : decode cX9_safe 31 = .ok (.bipush 6, 2) := by decide +kernel
theorem dX9_safe_33 : decode cX9_safe 33 = .ok (.invokestatic 54, 3) := by decide +kernel
theorem dX9_safe_36 : decode cX9_safe 36 = .ok (.ifCond .eq 24, 3) := by decide +kernel
theorem dX9_safe_39 : decode cX9_safe 39 = .ok (.iload 5, 2) := by decide +kernel
theorem dX9_safe_41 : decode cX9_safe 41 = .ok (.iconst 0, 1) := by decide +kernel
theorem dX9_safe_42 : decode cX9_safe 42 = .ok (.bipush 10, 2) := by decide +kernel
theorem dX9_safe_44 : decode cX9_safe 44 = .ok (.invokestatic 54, 3) := by decide +kernel
theorem dX9_safe_47 : decode cX9_safe 47 = .ok (.ifCond .eq 13, 3) := by decide +kernel
theorem dX9_safe_50 : decode cX9_safe 50 = .ok (.iload 6, 2) := by decide +kernel
theorem dX9_safe_52 : decode cX9_safe 52 = .ok (.iconst 0, 1) := by decide +kernel
theorem dX9_safe_53 : decode cX9_safe 53 = .ok (.iconst 1, 1) := by decide +kernel
theorem dX9_safe_54 : decode cX9_safe 54 = .ok (.invokestatic 54, 3) := by decide +kernel
theorem dX9_safe_57 : decode cX9_safe 57 = .ok (.ifCond .ne 5, 3) := by decide +kernel
theorem dX9_safe_60 : decode cX9_safe 60 = .ok (.iconst (-1), 1) := by decide +kernel
theorem dX9_safe_61 : decode cX9_safe 61 = .ok (.ireturn, 1) := by decide +kernel
theorem dX9_safe_62 : decode cX9_safe 62 = .ok (.aload_n 0, 1) := by decide +kernel
theorem dX9_safe_63 : decode cX9_safe 63 = .ok (.iload_n 1, 1) := by decide +kernel
theorem dX9_safe_64 : decode cX9_safe 64 = .ok (.invokevirtual 117, 3) := by decide +kernel
theorem dX9_safe_67 : decode cX9_safe 67 = .ok (.ifCond .ne 6, 3) := by decide +kernel
theorem dX9_safe_70 : decode cX9_safe 70 = .ok (.bipush (-2), 2) := by decide +kernel
theorem dX9_safe_72 : decode cX9_safe 72 = .ok (.ireturn, 1) := by decide +kernel
theorem dX9_safe_73 : decode cX9_safe 73 = .ok (.iconst 0, 1) := by decide +kernel
theorem dX9_safe_74 : decode cX9_safe 74 = .ok (.istore 7, 2) := by decide +kernel
theorem dX9_safe_76 : decode cX9_safe 76 = .ok (.iconst 1, 1) := by decide +kernel
theorem dX9_safe_77 : decode cX9_safe 77 = .ok (.istore 8, 2) := by decide +kernel
theorem dX9_safe_79 : decode cX9_safe 79 = .ok (.iconst 0, 1) := by decide +kernel
theorem dX9_safe_80 : decode cX9_safe 80 = .ok (.istore 9, 2) := by decide +kernel
theorem dX9_safe_82 : decode cX9_safe 82 = .ok (.iload 9, 2) := by decide +kernel
theorem dX9_safe_84 : decode cX9_safe 84 = .ok (.iload 4, 2) := by decide +kernel
theorem dX9_safe_86 : decode cX9_safe 86 = .ok (.if_icmp .ge 16, 3) := by decide +kernel
theorem dX9_safe_89 : decode cX9_safe 89 = .ok (.iload 8, 2) := by decide +kernel
theorem dX9_safe_91 : decode cX9_safe 91 = .ok (.bipush 10, 2) := by decide +kernel
theorem dX9_safe_93 : decode cX9_safe 93 = .ok (.imul, 1) := by decide +kernel
theorem dX9_safe_94 : decode cX9_safe 94 = .ok (.istore 8, 2) := by decide +kernel
theorem dX9_safe_96 : decode cX9_safe 96 = .ok (.iinc 9 1, 3) := by decide +kernel
theorem dX9_safe_99 : decode cX9_safe 99 = .ok (.goto (-17), 3) := by decide +kernel
theorem dX9_safe_102 : decode cX9_safe 102 = .ok (.iconst 0, 1) := by decide +kernel
theorem dX9_safe_103 : decode cX9_safe 103 = .ok (.istore 9, 2) := by decide +kernel
theorem dX9_safe_105 : decode cX9_safe 105 = .ok (.iload 9, 2) := by decide +kernel
theorem dX9_safe_107 : decode cX9_safe 107 = .ok (.iconst 1, 1) := by decide +kernel
theorem dX9_safe_108 : decode cX9_safe 108 = .ok (.iload 4, 2) := by decide +kernel
theorem dX9_safe_110 : decode cX9_safe 110 = .ok (.ishl, 1) := by decide +kernel
theorem dX9_safe_111 : decode cX9_safe 111 = .ok (.if_icmp .ge 111, 3) := by decide +kernel
theorem dX9_safe_114 : decode cX9_safe 114 = .ok (.iconst 1, 1) := by decide +kernel
theorem dX9_safe_115 : decode cX9_safe 115 = .ok (.istore 10, 2) := by decide +kernel
theorem dX9_safe_117 : decode cX9_safe 117 = .ok (.aload_n 0, 1) := by decide +kernel
theorem dX9_safe_118 : decode cX9_safe 118 = .ok (.getfield 22, 3) := by decide +kernel
theorem dX9_safe_121 : decode cX9_safe 121 = .ok (.bipush 8, 2) := by decide +kernel
theorem dX9_safe_123 : decode cX9_safe 123 = .ok (.iload_n 1, 1) := by decide +kernel
theorem dX9_safe_124 : decode cX9_safe 124 = .ok (.iadd, 1) := by decide +kernel
theorem dX9_safe_125 : decode cX9_safe 125 = .ok (.iaload, 1) := by decide +kernel
theorem dX9_safe_126 : decode cX9_safe 126 = .ok (.istore 11, 2) := by decide +kernel
theorem dX9_safe_128 : decode cX9_safe 128 = .ok (.iconst 0, 1) := by decide +kernel
theorem dX9_safe_129 : decode cX9_safe 129 = .ok (.istore 12, 2) := by decide +kernel
theorem dX9_safe_131 : decode cX9_safe 131 = .ok (.iload 12, 2) := by decide +kernel
theorem dX9_safe_133 : decode cX9_safe 133 = .ok (.iload 4, 2) := by decide +kernel
theorem dX9_safe_135 : decode cX9_safe 135 = .ok (.if_icmp .ge 56, 3) := by decide +kernel
theorem dX9_safe_138 : decode cX9_safe 138 = .ok (.iload 10, 2) := by decide +kernel
theorem dX9_safe_140 : decode cX9_safe 140 = .ok (.iload 9, 2) := by decide +kernel
theorem dX9_safe_142 : decode cX9_safe 142 = .ok (.iload 12, 2) := by decide +kernel
theorem dX9_safe_144 : decode cX9_safe 144 = .ok (.invokestatic 111, 3) := by decide +kernel
theorem dX9_safe_147 : decode cX9_safe 147 = .ok (.ifCond .eq 8, 3) := by decide +kernel
theorem dX9_safe_150 : decode cX9_safe 150 = .ok (.iload 5, 2) := by decide +kernel
theorem dX9_safe_152 : decode cX9_safe 152 = .ok (.goto 8, 3) := by decide +kernel
theorem dX9_safe_155 : decode cX9_safe 155 = .ok (.bipush 10, 2) := by decide +kernel
theorem dX9_safe_157 : decode cX9_safe 157 = .ok (.iload 5, 2) := by decide +kernel
theorem dX9_safe_159 : decode cX9_safe 159 = .ok (.isub, 1) := by decide +kernel
theorem dX9_safe_160 : decode cX9_safe 160 = .ok (.imul, 1) := by decide +kernel
theorem dX9_safe_161 : decode cX9_safe 161 = .ok (.istore 10, 2) := by decide +kernel
theorem dX9_safe_163 : decode cX9_safe 163 = .ok (.iload 11, 2) := by decide +kernel
theorem dX9_safe_165 : decode cX9_safe 165 = .ok (.iload 9, 2) := by decide +kernel
theorem dX9_safe_167 : decode cX9_safe 167 = .ok (.iload 12, 2) := by decide +kernel
theorem dX9_safe_169 : decode cX9_safe 169 = .ok (.invokestatic 111, 3) := by decide +kernel
theorem dX9_safe_172 : decode cX9_safe 172 = .ok (.ifCond .eq 9, 3) := by decide +kernel
theorem dX9_safe_175 : decode cX9_safe 175 = .ok (.iload_n 2, 1) := by decide +kernel
theorem dX9_safe_176 : decode cX9_safe 176 = .ok (.iload_n 3, 1) := by decide +kernel
theorem dX9_safe_177 : decode cX9_safe 177 = .ok (.iadd, 1) := by decide +kernel
theorem dX9_safe_178 : decode cX9_safe 178 = .ok (.goto 4, 3) := by decide +kernel
theorem dX9_safe_181 : decode cX9_safe 181 = .ok (.iload_n 2, 1) := by decide +kernel
theorem dX9_safe_182 : decode cX9_safe 182 = .ok (.iadd, 1) := by decide +kernel
theorem dX9_safe_183 : decode cX9_safe 183 = .ok (.istore 11, 2) := by decide +kernel
theorem dX9_safe_185 : decode cX9_safe 185 = .ok (.iinc 12 1, 3) := by decide +kernel
theorem dX9_safe_188 : decode cX9_safe 188 = .ok (.goto (-57), 3) := by decide +kernel
theorem dX9_safe_191 : decode cX9_safe 191 = .ok (.iload 7, 2) := by decide +kernel
theorem dX9_safe_193 : decode cX9_safe 193 = .ok (.iload 11, 2) := by decide +kernel
theorem dX9_safe_195 : decode cX9_safe 195 = .ok (.aload_n 0, 1) := by decide +kernel
theorem dX9_safe_196 : decode cX9_safe 196 = .ok (.getfield 13, 3) := by decide +kernel
theorem dX9_safe_199 : decode cX9_safe 199 = .ok (.bipush 50, 2) := by decide +kernel
theorem dX9_safe_201 : decode cX9_safe 201 = .ok (.iload_n 1, 1) := by decide +kernel
theorem dX9_safe_202 : decode cX9_safe 202 = .ok (.iadd, 1) := by decide +kernel
theorem dX9_safe_203 : decode cX9_safe 203 = .ok (.iaload, 1) := by decide +kernel
theorem dX9_safe_204 : decode cX9_safe 204 = .ok (.if_icmp .gt 8, 3) := by decide +kernel
theorem dX9_safe_207 : decode cX9_safe 207 = .ok (.iload 10, 2) := by decide +kernel
theorem dX9_safe_209 : decode cX9_safe 209 = .ok (.goto 4, 3) := by decide +kernel
theorem dX9_safe_212 : decode cX9_safe 212 = .ok (.iconst 0, 1) := by decide +kernel
theorem dX9_safe_213 : decode cX9_safe 213 = .ok (.iadd, 1) := by decide +kernel
theorem dX9_safe_214 : decode cX9_safe 214 = .ok (.istore 7, 2) := by decide +kernel
theorem dX9_safe_216 : decode cX9_safe 216 = .ok (.iinc 9 1, 3) := by decide +kernel
theorem dX9_safe_219 : decode cX9_safe 219 = .ok (.goto (-114), 3) := by decide +kernel
theorem dX9_safe_222 : decode cX9_safe 222 = .ok (.iload 7, 2) := by decide +kernel
theorem dX9_safe_224 : decode cX9_safe 224 = .ok (.istore 9, 2) := by decide +kernel
theorem dX9_safe_226 : decode cX9_safe 226 = .ok (.iload 8, 2) := by decide +kernel
theorem dX9_safe_228 : decode cX9_safe 228 = .ok (.istore 10, 2) := by decide +kernel
theorem dX9_safe_230 : decode cX9_safe 230 = .ok (.iload 10, 2) := by decide +kernel
theorem dX9_safe_232 : decode cX9_safe 232 = .ok (.ifCond .le 21, 3) := by decide +kernel
theorem dX9_safe_235 : decode cX9_safe 235 = .ok (.iload 9, 2) := by decide +kernel
theorem dX9_safe_237 : decode cX9_safe 237 = .ok (.iload 10, 2) := by decide +kernel
theorem dX9_safe_239 : decode cX9_safe 239 = .ok (.irem, 1) := by decide +kernel
theorem dX9_safe_240 : decode cX9_safe 240 = .ok (.istore 11, 2) := by decide +kernel
theorem dX9_safe_242 : decode cX9_safe 242 = .ok (.iload 10, 2) := by decide +kernel
theorem dX9_safe_244 : decode cX9_safe 244 = .ok (.istore 9, 2) := by decide +kernel
theorem dX9_safe_246 : decode cX9_safe 246 = .ok (.iload 11, 2) := by decide +kernel
theorem dX9_safe_248 : decode cX9_safe 248 = .ok (.istore 10, 2) := by decide +kernel
theorem dX9_safe_250 : decode cX9_safe 250 = .ok (.goto (-20), 3) := by decide +kernel
theorem dX9_safe_253 : decode cX9_safe 253 = .ok (.iload 6, 2) := by decide +kernel
theorem dX9_safe_255 : decode cX9_safe 255 = .ok (.ifCond .ne 11, 3) := by decide +kernel
theorem dX9_safe_258 : decode cX9_safe 258 = .ok (.iload 7, 2) := by decide +kernel
theorem dX9_safe_260 : decode cX9_safe 260 = .ok (.iload 9, 2) := by decide +kernel
theorem dX9_safe_262 : decode cX9_safe 262 = .ok (.idiv, 1) := by decide +kernel
theorem dX9_safe_263 : decode cX9_safe 263 = .ok (.goto 8, 3) := by decide +kernel
theorem dX9_safe_266 : decode cX9_safe 266 = .ok (.iload 8, 2) := by decide +kernel
theorem dX9_safe_268 : decode cX9_safe 268 = .ok (.iload 9, 2) := by decide +kernel
theorem dX9_safe_270 : decode cX9_safe 270 = .ok (.idiv, 1) := by decide +kernel
theorem dX9_safe_271 : decode cX9_safe 271 = .ok (.ireturn, 1) := by decide +kernel
theorem dX9_hears_0 : decode cX9_hears 0 = .ok (.aload_n 0, 1) := by decide +kernel
theorem dX9_hears_1 : decode cX9_hears 1 = .ok (.iload_n 1, 1) := by decide +kernel
theorem dX9_hears_2 : decode cX9_hears 2 = .ok (.invokevirtual 114, 3) := by decide +kernel
theorem dX9_hears_5 : decode cX9_hears 5 = .ok (.ifCond .eq 32, 3) := by decide +kernel
theorem dX9_hears_8 : decode cX9_hears 8 = .ok (.aload_n 0, 1) := by decide +kernel
theorem dX9_hears_9 : decode cX9_hears 9 = .ok (.iload_n 2, 1) := by decide +kernel
theorem dX9_hears_10 : decode cX9_hears 10 = .ok (.invokevirtual 108, 3) := by decide +kernel
theorem dX9_hears_13 : decode cX9_hears 13 = .ok (.ifCond .eq 24, 3) := by decide +kernel
theorem dX9_hears_16 : decode cX9_hears 16 = .ok (.iload_n 3, 1) := by decide +kernel
theorem dX9_hears_17 : decode cX9_hears 17 = .ok (.iconst 0, 1) := by decide +kernel
theorem dX9_hears_18 : decode cX9_hears 18 = .ok (.bipush 9, 2) := by decide +kernel
theorem dX9_hears_20 : decode cX9_hears 20 = .ok (.invokestatic 54, 3) := by decide +kernel
theorem dX9_hears_23 : decode cX9_hears 23 = .ok (.ifCond .eq 14, 3) := by decide +kernel
theorem dX9_hears_26 : decode cX9_hears 26 = .ok (.iload 4, 2) := by decide +kernel
theorem dX9_hears_28 : decode cX9_hears 28 = .ok (.iconst 0, 1) := by decide +kernel
theorem dX9_hears_29 : decode cX9_hears 29 = .ok (.bipush 9, 2) := by decide +kernel
theorem dX9_hears_31 : decode cX9_hears 31 = .ok (.invokestatic 54, 3) := by decide +kernel
theorem dX9_hears_34 : decode cX9_hears 34 = .ok (.ifCond .ne 5, 3) := by decide +kernel
theorem dX9_hears_37 : decode cX9_hears 37 = .ok (.iconst (-1), 1) := by decide +kernel
theorem dX9_hears_38 : decode cX9_hears 38 = .ok (.ireturn, 1) := by decide +kernel
theorem dX9_hears_39 : decode cX9_hears 39 = .ok (.aload_n 0, 1) := by decide +kernel
theorem dX9_hears_40 : decode cX9_hears 40 = .ok (.getfield 105, 3) := by decide +kernel
theorem dX9_hears_43 : decode cX9_hears 43 = .ok (.bipush 6, 2) := by decide +kernel
theorem dX9_hears_45 : decode cX9_hears 45 = .ok (.if_icmp .ne 6, 3) := by decide +kernel
theorem dX9_hears_48 : decode cX9_hears 48 = .ok (.bipush (-3), 2) := by decide +kernel
theorem dX9_hears_50 : decode cX9_hears 50 = .ok (.ireturn, 1) := by decide +kernel
theorem dX9_hears_51 : decode cX9_hears 51 = .ok (.aload_n 0, 1) := by decide +kernel
theorem dX9_hears_52 : decode cX9_hears 52 = .ok (.getfield 32, 3) := by decide +kernel
theorem dX9_hears_55 : decode cX9_hears 55 = .ok (.aload_n 0, 1) := by decide +kernel
theorem dX9_hears_56 : decode cX9_hears 56 = .ok (.getfield 105, 3) := by decide +kernel
theorem dX9_hears_59 : decode cX9_hears 59 = .ok (.bipush 100, 2) := by decide +kernel
theorem dX9_hears_61 : decode cX9_hears 61 = .ok (.iload_n 1, 1) := by decide +kernel
theorem dX9_hears_62 : decode cX9_hears 62 = .ok (.imul, 1) := by decide +kernel
theorem dX9_hears_63 : decode cX9_hears 63 = .ok (.bipush 50, 2) := by decide +kernel
theorem dX9_hears_65 : decode cX9_hears 65 = .ok (.iadd, 1) := by decide +kernel
theorem dX9_hears_66 : decode cX9_hears 66 = .ok (.aload_n 0, 1) := by decide +kernel
theorem dX9_hears_67 : decode cX9_hears 67 = .ok (.getfield 13, 3) := by decide +kernel
theorem dX9_hears_70 : decode cX9_hears 70 = .ok (.bipush 26, 2) := by decide +kernel
theorem dX9_hears_72 : decode cX9_hears 72 = .ok (.iload_n 2, 1) := by decide +kernel
theorem dX9_hears_73 : decode cX9_hears 73 = .ok (.iadd, 1) := by decide +kernel
theorem dX9_hears_74 : decode cX9_hears 74 = .ok (.iaload, 1) := by decide +kernel
theorem dX9_hears_75 : decode cX9_hears 75 = .ok (.iadd, 1) := by decide +kernel
theorem dX9_hears_76 : decode cX9_hears 76 = .ok (.iload_n 3, 1) := by decide +kernel
theorem dX9_hears_77 : decode cX9_hears 77 = .ok (.isub, 1) := by decide +kernel
theorem dX9_hears_78 : decode cX9_hears 78 = .ok (.iload 4, 2) := by decide +kernel
theorem dX9_hears_80 : decode cX9_hears 80 = .ok (.isub, 1) := by decide +kernel
theorem dX9_hears_81 : decode cX9_hears 81 = .ok (.iastore, 1) := by decide +kernel
theorem dX9_hears_82 : decode cX9_hears 82 = .ok (.aload_n 0, 1) := by decide +kernel
theorem dX9_hears_83 : decode cX9_hears 83 = .ok (.dup, 1) := by decide +kernel
theorem dX9_hears_84 : decode cX9_hears 84 = .ok (.getfield 105, 3) := by decide +kernel
theorem dX9_hears_87 : decode cX9_hears 87 = .ok (.iconst 1, 1) := by decide +kernel
theorem dX9_hears_88 : decode cX9_hears 88 = .ok (.iadd, 1) := by decide +kernel
theorem dX9_hears_89 : decode cX9_hears 89 = .ok (.putfield 105, 3) := by decide +kernel
theorem dX9_hears_92 : decode cX9_hears 92 = .ok (.aload_n 0, 1) := by decide +kernel
theorem dX9_hears_93 : decode cX9_hears 93 = .ok (.getfield 105, 3) := by decide +kernel
theorem dX9_hears_96 : decode cX9_hears 96 = .ok (.ireturn, 1) := by decide +kernel
theorem dX9_forget_0 : decode cX9_forget 0 = .ok (.aload_n 0, 1) := by decide +kernel
theorem dX9_forget_1 : decode cX9_forget 1 = .ok (.getfield 105, 3) := by decide +kernel
theorem dX9_forget_4 : decode cX9_forget 4 = .ok (.istore_n 1, 1) := by decide +kernel
theorem dX9_forget_5 : decode cX9_forget 5 = .ok (.aload_n 0, 1) := by decide +kernel
theorem dX9_forget_6 : decode cX9_forget 6 = .ok (.iconst 0, 1) := by decide +kernel
theorem dX9_forget_7 : decode cX9_forget 7 = .ok (.putfield 105, 3) := by decide +kernel
theorem dX9_forget_10 : decode cX9_forget 10 = .ok (.iload_n 1, 1) := by decide +kernel
theorem dX9_forget_11 : decode cX9_forget 11 = .ok (.ireturn, 1) := by decide +kernel
theorem dX9_stones_0 : decode cX9_stones 0 = .ok (.iload_n 1, 1) := by decide +kernel
theorem dX9_stones_1 : decode cX9_stones 1 = .ok (.iconst 0, 1) := by decide +kernel
theorem dX9_stones_2 : decode cX9_stones 2 = .ok (.iconst 1, 1) := by decide +kernel
theorem dX9_stones_3 : decode cX9_stones 3 = .ok (.invokestatic 54, 3) := by decide +kernel
theorem dX9_stones_6 : decode cX9_stones 6 = .ok (.ifCond .ne 5, 3) := by decide +kernel
theorem dX9_stones_9 : decode cX9_stones 9 = .ok (.iconst (-1), 1) := by decide +kernel
theorem dX9_stones_10 : decode cX9_stones 10 = .ok (.ireturn, 1) := by decide +kernel
theorem dX9_stones_11 : decode cX9_stones 11 = .ok (.iconst 0, 1) := by decide +kernel
theorem dX9_stones_12 : decode cX9_stones 12 = .ok (.istore_n 2, 1) := by decide +kernel
theorem dX9_stones_13 : decode cX9_stones 13 = .ok (.iconst 0, 1) := by decide +kernel
theorem dX9_stones_14 : decode cX9_stones 14 = .ok (.istore_n 3, 1) := by decide +kernel
theorem dX9_stones_15 : decode cX9_stones 15 = .ok (.iload_n 3, 1) := by decide +kernel
theorem dX9_stones_16 : decode cX9_stones 16 = .ok (.aload_n 0, 1) := by decide +kernel
theorem dX9_stones_17 : decode cX9_stones 17 = .ok (.getfield 105, 3) := by decide +kernel
theorem dX9_stones_20 : decode cX9_stones 20 = .ok (.if_icmp .ge 77, 3) := by decide +kernel
theorem dX9_stones_23 : decode cX9_stones 23 = .ok (.aload_n 0, 1) := by decide +kernel
theorem dX9_stones_24 : decode cX9_stones 24 = .ok (.getfield 32, 3) := by decide +kernel
theorem dX9_stones_27 : decode cX9_stones 27 = .ok (.iload_n 3, 1) := by decide +kernel
theorem dX9_stones_28 : decode cX9_stones 28 = .ok (.iaload, 1) := by decide +kernel
theorem dX9_stones_29 : decode cX9_stones 29 = .ok (.bipush 100, 2) := by decide +kernel
theorem dX9_stones_31 : decode cX9_stones 31 = .ok (.irem, 1) := by decide +kernel
theorem dX9_stones_32 : decode cX9_stones 32 = .ok (.bipush 50, 2) := by decide +kernel
theorem dX9_stones_34 : decode cX9_stones 34 = .ok (.isub, 1) := by decide +kernel
theorem dX9_stones_35 : decode cX9_stones 35 = .ok (.istore 4, 2) := by decide +kernel
theorem dX9_stones_37 : decode cX9_stones 37 = .ok (.iload_n 1, 1) := by decide +kernel
theorem dX9_stones_38 : decode cX9_stones 38 = .ok (.ifCond .ne 13, 3) := by decide +kernel
theorem dX9_stones_41 : decode cX9_stones 41 = .ok (.iload 4, 2) := by decide +kernel
theorem dX9_stones_43 : decode cX9_stones 43 = .ok (.iconst 1, 1) := by decide +kernel
theorem dX9_stones_44 : decode cX9_stones 44 = .ok (.iconst 3, 1) := by decide +kernel
theorem dX9_stones_45 : decode cX9_stones 45 = .ok (.invokestatic 54, 3) := by decide +kernel
theorem dX9_stones_48 : decode cX9_stones 48 = .ok (.goto 18, 3) := by decide +kernel
theorem dX9_stones_51 : decode cX9_stones 51 = .ok (.iload 4, 2) := by decide +kernel
theorem dX9_stones_53 : decode cX9_stones 53 = .ok (.iconst 0, 1) := by decide +kernel
theorem dX9_stones_54 : decode cX9_stones 54 = .ok (.iconst 3, 1) := by decide +kernel
theorem dX9_stones_55 : decode cX9_stones 55 = .ok (.invokestatic 54, 3) := by decide +kernel
theorem dX9_stones_58 : decode cX9_stones 58 = .ok (.ifCond .ne 7, 3) := by decide +kernel
theorem dX9_stones_61 : decode cX9_stones 61 = .ok (.iconst 1, 1) := by decide +kernel
theorem dX9_stones_62 : decode cX9_stones 62 = .ok (.goto 4, 3) := by decide +kernel
theorem dX9_stones_65 : decode cX9_stones 65 = .ok (.iconst 0, 1) := by decide +kernel
theorem dX9_stones_66 : decode cX9_stones 66 = .ok (.istore 5, 2) := by decide +kernel
theorem dX9_stones_68 : decode cX9_stones 68 = .ok (.iload_n 2, 1) := by decide +kernel
theorem dX9_stones_69 : decode cX9_stones 69 = .ok (.iload 5, 2) := by decide +kernel
theorem dX9_stones_71 : decode cX9_stones 71 = .ok (.ifCond .eq 17, 3) := by decide +kernel
theorem dX9_stones_74 : decode cX9_stones 74 = .ok (.iconst 1, 1) := by decide +kernel
theorem dX9_stones_75 : decode cX9_stones 75 = .ok (.aload_n 0, 1) := by decide +kernel
theorem dX9_stones_76 : decode cX9_stones 76 = .ok (.getfield 32, 3) := by decide +kernel
theorem dX9_stones_79 : decode cX9_stones 79 = .ok (.iload_n 3, 1) := by decide +kernel
theorem dX9_stones_80 : decode cX9_stones 80 = .ok (.iaload, 1) := by decide +kernel
theorem dX9_stones_81 : decode cX9_stones 81 = .ok (.bipush 100, 2) := by decide +kernel
theorem dX9_stones_83 : decode cX9_stones 83 = .ok (.idiv, 1) := by decide +kernel
theorem dX9_stones_84 : decode cX9_stones 84 = .ok (.ishl, 1) := by decide +kernel
theorem dX9_stones_85 : decode cX9_stones 85 = .ok (.goto 4, 3) := by decide +kernel
theorem dX9_stones_88 : decode cX9_stones 88 = .ok (.iconst 0, 1) := by decide +kernel
theorem dX9_stones_89 : decode cX9_stones 89 = .ok (.ior, 1) := by decide +kernel
theorem dX9_stones_90 : decode cX9_stones 90 = .ok (.istore_n 2, 1) := by decide +kernel
theorem dX9_stones_91 : decode cX9_stones 91 = .ok (.iinc 3 1, 3) := by decide +kernel
theorem dX9_stones_94 : decode cX9_stones 94 = .ok (.goto (-79), 3) := by decide +kernel
theorem dX9_stones_97 : decode cX9_stones 97 = .ok (.iload_n 2, 1) := by decide +kernel
theorem dX9_stones_98 : decode cX9_stones 98 = .ok (.ireturn, 1) := by decide +kernel
theorem dX9_mark_0 : decode cX9_mark 0 = .ok (.iload_n 1, 1) := by decide +kernel
theorem dX9_mark_1 : decode cX9_mark 1 = .ok (.iconst 0, 1) := by decide +kernel
theorem dX9_mark_2 : decode cX9_mark 2 = .ok (.iconst 5, 1) := by decide +kernel
theorem dX9_mark_3 : decode cX9_mark 3 = .ok (.invokestatic 54, 3) := by decide +kernel
theorem dX9_mark_6 : decode cX9_mark 6 = .ok (.ifCond .eq 11, 3) := by decide +kernel
theorem dX9_mark_9 : decode cX9_mark 9 = .ok (.aload_n 0, 1) := by decide +kernel
theorem dX9_mark_10 : decode cX9_mark 10 = .ok (.iload_n 2, 1) := by decide +kernel
theorem dX9_mark_11 : decode cX9_mark 11 = .ok (.invokevirtual 126, 3) := by decide +kernel
end
section
theorem dX9_mark_14 : decode cX9_mark 14 = .ok (.ifCond .ne 6, 3) := by decide +kernel
theorem dX9_mark_17 : decode cX9_mark 17 = .ok (.ldc 129, 2) := by decide +kernel
theorem dX9_mark_19 : decode cX9_mark 19 = .ok (.ireturn, 1) := by decide +kernel
theorem dX9_mark_20 : decode cX9_mark 20 = .ok (.aload_n 0, 1) := by decide +kernel
theorem dX9_mark_21 : decode cX9_mark 21 = .ok (.dup, 1) := by decide +kernel
theorem dX9_mark_22 : decode cX9_mark 22 = .ok (.getfield 181, 3) := by decide +kernel
theorem dX9_mark_25 : decode cX9_mark 25 = .ok (.iload_n 1, 1) := by decide +kernel
theorem dX9_mark_26 : decode cX9_mark 26 = .ok (.ifCond .ne 7, 3) := by decide +kernel
theorem dX9_mark_29 : decode cX9_mark 29 = .ok (.lconst 1, 1) := by decide +kernel
theorem dX9_mark_30 : decode cX9_mark 30 = .ok (.goto 50, 3) := by decide +kernel
theorem dX9_mark_33 : decode cX9_mark 33 = .ok (.iload_n 1, 1) := by decide +kernel
theorem dX9_mark_34 : decode cX9_mark 34 = .ok (.iconst 1, 1) := by decide +kernel
theorem dX9_mark_35 : decode cX9_mark 35 = .ok (.if_icmp .ne 9, 3) := by decide +kernel
theorem dX9_mark_38 : decode cX9_mark 38 = .ok (.ldc2_w 185, 3) := by decide +kernel
theorem dX9_mark_41 : decode cX9_mark 41 = .ok (.goto 39, 3) := by decide +kernel
theorem dX9_mark_44 : decode cX9_mark 44 = .ok (.iload_n 1, 1) := by decide +kernel
theorem dX9_mark_45 : decode cX9_mark 45 = .ok (.iconst 2, 1) := by decide +kernel
theorem dX9_mark_46 : decode cX9_mark 46 = .ok (.if_icmp .ne 9, 3) := by decide +kernel
theorem dX9_mark_49 : decode cX9_mark 49 = .ok (.ldc2_w 187, 3) := by decide +kernel
theorem dX9_mark_52 : decode cX9_mark 52 = .ok (.goto 28, 3) := by decide +kernel
theorem dX9_mark_55 : decode cX9_mark 55 = .ok (.iload_n 1, 1) := by decide +kernel
theorem dX9_mark_56 : decode cX9_mark 56 = .ok (.iconst 3, 1) := by decide +kernel
theorem dX9_mark_57 : decode cX9_mark 57 = .ok (.if_icmp .ne 9, 3) := by decide +kernel
theorem dX9_mark_60 : decode cX9_mark 60 = .ok (.ldc2_w 189, 3) := by decide +kernel
theorem dX9_mark_63 : decode cX9_mark 63 = .ok (.goto 17, 3) := by decide +kernel
theorem dX9_mark_66 : decode cX9_mark 66 = .ok (.iload_n 1, 1) := by decide +kernel
theorem dX9_mark_67 : decode cX9_mark 67 = .ok (.iconst 4, 1) := by decide +kernel
theorem dX9_mark_68 : decode cX9_mark 68 = .ok (.if_icmp .ne 9, 3) := by decide +kernel
theorem dX9_mark_71 : decode cX9_mark 71 = .ok (.ldc2_w 191, 3) := by decide +kernel
theorem dX9_mark_74 : decode cX9_mark 74 = .ok (.goto 6, 3) := by decide +kernel
theorem dX9_mark_77 : decode cX9_mark 77 = .ok (.ldc2_w 193, 3) := by decide +kernel
theorem dX9_mark_80 : decode cX9_mark 80 = .ok (.ladd, 1) := by decide +kernel
theorem dX9_mark_81 : decode cX9_mark 81 = .ok (.putfield 181, 3) := by decide +kernel
theorem dX9_mark_84 : decode cX9_mark 84 = .ok (.aload_n 0, 1) := by decide +kernel
theorem dX9_mark_85 : decode cX9_mark 85 = .ok (.iload_n 2, 1) := by decide +kernel
theorem dX9_mark_86 : decode cX9_mark 86 = .ok (.invokevirtual 130, 3) := by decide +kernel
theorem dX9_mark_89 : decode cX9_mark 89 = .ok (.istore_n 3, 1) := by decide +kernel
theorem dX9_mark_90 : decode cX9_mark 90 = .ok (.iload_n 3, 1) := by decide +kernel
theorem dX9_mark_91 : decode cX9_mark 91 = .ok (.istore 4, 2) := by decide +kernel
theorem dX9_mark_93 : decode cX9_mark 93 = .ok (.iconst 0, 1) := by decide +kernel
theorem dX9_mark_94 : decode cX9_mark 94 = .ok (.istore 5, 2) := by decide +kernel
theorem dX9_mark_96 : decode cX9_mark 96 = .ok (.iload 5, 2) := by decide +kernel
theorem dX9_mark_98 : decode cX9_mark 98 = .ok (.aload_n 0, 1) := by decide +kernel
theorem dX9_mark_99 : decode cX9_mark 99 = .ok (.getfield 13, 3) := by decide +kernel
theorem dX9_mark_102 : decode cX9_mark 102 = .ok (.iconst 1, 1) := by decide +kernel
theorem dX9_mark_103 : decode cX9_mark 103 = .ok (.iaload, 1) := by decide +kernel
theorem dX9_mark_104 : decode cX9_mark 104 = .ok (.if_icmp .ge 33, 3) := by decide +kernel
theorem dX9_mark_107 : decode cX9_mark 107 = .ok (.iload 4, 2) := by decide +kernel
theorem dX9_mark_109 : decode cX9_mark 109 = .ok (.aload_n 0, 1) := by decide +kernel
theorem dX9_mark_110 : decode cX9_mark 110 = .ok (.getfield 13, 3) := by decide +kernel
theorem dX9_mark_113 : decode cX9_mark 113 = .ok (.bipush 42, 2) := by decide +kernel
theorem dX9_mark_115 : decode cX9_mark 115 = .ok (.iload 5, 2) := by decide +kernel
theorem dX9_mark_117 : decode cX9_mark 117 = .ok (.iadd, 1) := by decide +kernel
theorem dX9_mark_118 : decode cX9_mark 118 = .ok (.iaload, 1) := by decide +kernel
theorem dX9_mark_119 : decode cX9_mark 119 = .ok (.iload_n 2, 1) := by decide +kernel
theorem dX9_mark_120 : decode cX9_mark 120 = .ok (.if_icmp .ne 7, 3) := by decide +kernel
theorem dX9_mark_123 : decode cX9_mark 123 = .ok (.iconst 1, 1) := by decide +kernel
theorem dX9_mark_124 : decode cX9_mark 124 = .ok (.goto 4, 3) := by decide +kernel
theorem dX9_mark_127 : decode cX9_mark 127 = .ok (.iconst 0, 1) := by decide +kernel
theorem dX9_mark_128 : decode cX9_mark 128 = .ok (.iadd, 1) := by decide +kernel
theorem dX9_mark_129 : decode cX9_mark 129 = .ok (.istore 4, 2) := by decide +kernel
theorem dX9_mark_131 : decode cX9_mark 131 = .ok (.iinc 5 1, 3) := by decide +kernel
theorem dX9_mark_134 : decode cX9_mark 134 = .ok (.goto (-38), 3) := by decide +kernel
theorem dX9_mark_137 : decode cX9_mark 137 = .ok (.iload_n 3, 1) := by decide +kernel
theorem dX9_mark_138 : decode cX9_mark 138 = .ok (.aload_n 0, 1) := by decide +kernel
theorem dX9_mark_139 : decode cX9_mark 139 = .ok (.iload_n 2, 1) := by decide +kernel
theorem dX9_mark_140 : decode cX9_mark 140 = .ok (.invokevirtual 123, 3) := by decide +kernel
theorem dX9_mark_143 : decode cX9_mark 143 = .ok (.isub, 1) := by decide +kernel
theorem dX9_mark_144 : decode cX9_mark 144 = .ok (.istore 5, 2) := by decide +kernel
theorem dX9_mark_146 : decode cX9_mark 146 = .ok (.iload_n 1, 1) := by decide +kernel
theorem dX9_mark_147 : decode cX9_mark 147 = .ok (.ifCond .ne 7, 3) := by decide +kernel
theorem dX9_mark_150 : decode cX9_mark 150 = .ok (.iload_n 3, 1) := by decide +kernel
theorem dX9_mark_151 : decode cX9_mark 151 = .ok (.goto 56, 3) := by decide +kernel
theorem dX9_mark_154 : decode cX9_mark 154 = .ok (.iload_n 1, 1) := by decide +kernel
theorem dX9_mark_155 : decode cX9_mark 155 = .ok (.iconst 1, 1) := by decide +kernel
theorem dX9_mark_156 : decode cX9_mark 156 = .ok (.if_icmp .ne 8, 3) := by decide +kernel
theorem dX9_mark_159 : decode cX9_mark 159 = .ok (.iload 4, 2) := by decide +kernel
theorem dX9_mark_161 : decode cX9_mark 161 = .ok (.goto 46, 3) := by decide +kernel
theorem dX9_mark_164 : decode cX9_mark 164 = .ok (.iload_n 1, 1) := by decide +kernel
theorem dX9_mark_165 : decode cX9_mark 165 = .ok (.iconst 2, 1) := by decide +kernel
theorem dX9_mark_166 : decode cX9_mark 166 = .ok (.if_icmp .ne 8, 3) := by decide +kernel
theorem dX9_mark_169 : decode cX9_mark 169 = .ok (.iload 5, 2) := by decide +kernel
theorem dX9_mark_171 : decode cX9_mark 171 = .ok (.goto 36, 3) := by decide +kernel
theorem dX9_mark_174 : decode cX9_mark 174 = .ok (.iload_n 1, 1) := by decide +kernel
theorem dX9_mark_175 : decode cX9_mark 175 = .ok (.iconst 3, 1) := by decide +kernel
theorem dX9_mark_176 : decode cX9_mark 176 = .ok (.if_icmp .ne 10, 3) := by decide +kernel
theorem dX9_mark_179 : decode cX9_mark 179 = .ok (.iconst 2, 1) := by decide +kernel
theorem dX9_mark_180 : decode cX9_mark 180 = .ok (.iload 4, 2) := by decide +kernel
theorem dX9_mark_182 : decode cX9_mark 182 = .ok (.imul, 1) := by decide +kernel
theorem dX9_mark_183 : decode cX9_mark 183 = .ok (.goto 24, 3) := by decide +kernel
theorem dX9_mark_186 : decode cX9_mark 186 = .ok (.iload_n 1, 1) := by decide +kernel
theorem dX9_mark_187 : decode cX9_mark 187 = .ok (.iconst 4, 1) := by decide +kernel
theorem dX9_mark_188 : decode cX9_mark 188 = .ok (.if_icmp .ne 10, 3) := by decide +kernel
theorem dX9_mark_191 : decode cX9_mark 191 = .ok (.iload 5, 2) := by decide +kernel
theorem dX9_mark_193 : decode cX9_mark 193 = .ok (.iload_n 2, 1) := by decide +kernel
theorem dX9_mark_194 : decode cX9_mark 194 = .ok (.iadd, 1) := by decide +kernel
theorem dX9_mark_195 : decode cX9_mark 195 = .ok (.goto 12, 3) := by decide +kernel
theorem dX9_mark_198 : decode cX9_mark 198 = .ok (.iload_n 3, 1) := by decide +kernel
theorem dX9_mark_199 : decode cX9_mark 199 = .ok (.aload_n 0, 1) := by decide +kernel
theorem dX9_mark_200 : decode cX9_mark 200 = .ok (.getfield 22, 3) := by decide +kernel
theorem dX9_mark_203 : decode cX9_mark 203 = .ok (.bipush 13, 2) := by decide +kernel
theorem dX9_mark_205 : decode cX9_mark 205 = .ok (.iaload, 1) := by decide +kernel
theorem dX9_mark_206 : decode cX9_mark 206 = .ok (.iadd, 1) := by decide +kernel
theorem dX9_mark_207 : decode cX9_mark 207 = .ok (.ireturn, 1) := by decide +kernel
theorem dX9_keep_0 : decode cX9_keep 0 = .ok (.iload_n 1, 1) := by decide +kernel
theorem dX9_keep_1 : decode cX9_keep 1 = .ok (.iconst 0, 1) := by decide +kernel
theorem dX9_keep_2 : decode cX9_keep 2 = .ok (.iconst 1, 1) := by decide +kernel
theorem dX9_keep_3 : decode cX9_keep 3 = .ok (.invokestatic 54, 3) := by decide +kernel
theorem dX9_keep_6 : decode cX9_keep 6 = .ok (.ifCond .ne 5, 3) := by decide +kernel
theorem dX9_keep_9 : decode cX9_keep 9 = .ok (.iconst (-1), 1) := by decide +kernel
theorem dX9_keep_10 : decode cX9_keep 10 = .ok (.ireturn, 1) := by decide +kernel
theorem dX9_keep_11 : decode cX9_keep 11 = .ok (.iconst 0, 1) := by decide +kernel
theorem dX9_keep_12 : decode cX9_keep 12 = .ok (.istore_n 2, 1) := by decide +kernel
theorem dX9_keep_13 : decode cX9_keep 13 = .ok (.iload_n 2, 1) := by decide +kernel
theorem dX9_keep_14 : decode cX9_keep 14 = .ok (.sipush 815, 3) := by decide +kernel
theorem dX9_keep_17 : decode cX9_keep 17 = .ok (.if_icmp .ge 27, 3) := by decide +kernel
theorem dX9_keep_20 : decode cX9_keep 20 = .ok (.aload_n 0, 1) := by decide +kernel
theorem dX9_keep_21 : decode cX9_keep 21 = .ok (.getfield 25, 3) := by decide +kernel
theorem dX9_keep_24 : decode cX9_keep 24 = .ok (.sipush 815, 3) := by decide +kernel
theorem dX9_keep_27 : decode cX9_keep 27 = .ok (.iload_n 1, 1) := by decide +kernel
theorem dX9_keep_28 : decode cX9_keep 28 = .ok (.imul, 1) := by decide +kernel
theorem dX9_keep_29 : decode cX9_keep 29 = .ok (.iload_n 2, 1) := by decide +kernel
theorem dX9_keep_30 : decode cX9_keep 30 = .ok (.iadd, 1) := by decide +kernel
theorem dX9_keep_31 : decode cX9_keep 31 = .ok (.aload_n 0, 1) := by decide +kernel
theorem dX9_keep_32 : decode cX9_keep 32 = .ok (.getfield 22, 3) := by decide +kernel
theorem dX9_keep_35 : decode cX9_keep 35 = .ok (.iload_n 2, 1) := by decide +kernel
theorem dX9_keep_36 : decode cX9_keep 36 = .ok (.iaload, 1) := by decide +kernel
theorem dX9_keep_37 : decode cX9_keep 37 = .ok (.iastore, 1) := by decide +kernel
theorem dX9_keep_38 : decode cX9_keep 38 = .ok (.iinc 2 1, 3) := by decide +kernel
theorem dX9_keep_41 : decode cX9_keep 41 = .ok (.goto (-28), 3) := by decide +kernel
theorem dX9_keep_44 : decode cX9_keep 44 = .ok (.aload_n 0, 1) := by decide +kernel
theorem dX9_keep_45 : decode cX9_keep 45 = .ok (.getfield 28, 3) := by decide +kernel
theorem dX9_keep_48 : decode cX9_keep 48 = .ok (.iload_n 1, 1) := by decide +kernel
theorem dX9_keep_49 : decode cX9_keep 49 = .ok (.iconst 1, 1) := by decide +kernel
theorem dX9_keep_50 : decode cX9_keep 50 = .ok (.bastore, 1) := by decide +kernel
theorem dX9_keep_51 : decode cX9_keep 51 = .ok (.aload_n 0, 1) := by decide +kernel
theorem dX9_keep_52 : decode cX9_keep 52 = .ok (.getfield 22, 3) := by decide +kernel
theorem dX9_keep_55 : decode cX9_keep 55 = .ok (.bipush 13, 2) := by decide +kernel
theorem dX9_keep_57 : decode cX9_keep 57 = .ok (.iaload, 1) := by decide +kernel
theorem dX9_keep_58 : decode cX9_keep 58 = .ok (.ireturn, 1) := by decide +kernel
theorem dX9_back_0 : decode cX9_back 0 = .ok (.iload_n 1, 1) := by decide +kernel
theorem dX9_back_1 : decode cX9_back 1 = .ok (.iconst 0, 1) := by decide +kernel
theorem dX9_back_2 : decode cX9_back 2 = .ok (.iconst 1, 1) := by decide +kernel
theorem dX9_back_3 : decode cX9_back 3 = .ok (.invokestatic 54, 3) := by decide +kernel
theorem dX9_back_6 : decode cX9_back 6 = .ok (.ifCond .ne 5, 3) := by decide +kernel
theorem dX9_back_9 : decode cX9_back 9 = .ok (.iconst (-1), 1) := by decide +kernel
theorem dX9_back_10 : decode cX9_back 10 = .ok (.ireturn, 1) := by decide +kernel
theorem dX9_back_11 : decode cX9_back 11 = .ok (.aload_n 0, 1) := by decide +kernel
theorem dX9_back_12 : decode cX9_back 12 = .ok (.getfield 28, 3) := by decide +kernel
theorem dX9_back_15 : decode cX9_back 15 = .ok (.iload_n 1, 1) := by decide +kernel
theorem dX9_back_16 : decode cX9_back 16 = .ok (.baload, 1) := by decide +kernel
theorem dX9_back_17 : decode cX9_back 17 = .ok (.ifCond .ne 6, 3) := by decide +kernel
theorem dX9_back_20 : decode cX9_back 20 = .ok (.bipush (-2), 2) := by decide +kernel
theorem dX9_back_22 : decode cX9_back 22 = .ok (.ireturn, 1) := by decide +kernel
theorem dX9_back_23 : decode cX9_back 23 = .ok (.iconst 0, 1) := by decide +kernel
theorem dX9_back_24 : decode cX9_back 24 = .ok (.istore_n 2, 1) := by decide +kernel
theorem dX9_back_25 : decode cX9_back 25 = .ok (.iload_n 2, 1) := by decide +kernel
theorem dX9_back_26 : decode cX9_back 26 = .ok (.sipush 815, 3) := by decide +kernel
theorem dX9_back_29 : decode cX9_back 29 = .ok (.if_icmp .ge 27, 3) := by decide +kernel
theorem dX9_back_32 : decode cX9_back 32 = .ok (.aload_n 0, 1) := by decide +kernel
theorem dX9_back_33 : decode cX9_back 33 = .ok (.getfield 22, 3) := by decide +kernel
theorem dX9_back_36 : decode cX9_back 36 = .ok (.iload_n 2, 1) := by decide +kernel
theorem dX9_back_37 : decode cX9_back 37 = .ok (.aload_n 0, 1) := by decide +kernel
theorem dX9_back_38 : decode cX9_back 38 = .ok (.getfield 25, 3) := by decide +kernel
theorem dX9_back_41 : decode cX9_back 41 = .ok (.sipush 815, 3) := by decide +kernel
theorem dX9_back_44 : decode cX9_back 44 = .ok (.iload_n 1, 1) := by decide +kernel
theorem dX9_back_45 : decode cX9_back 45 = .ok (.imul, 1) := by decide +kernel
theorem dX9_back_46 : decode cX9_back 46 = .ok (.iload_n 2, 1) := by decide +kernel
theorem dX9_back_47 : decode cX9_back 47 = .ok (.iadd, 1) := by decide +kernel
theorem dX9_back_48 : decode cX9_back 48 = .ok (.iaload, 1) := by decide +kernel
theorem dX9_back_49 : decode cX9_back 49 = .ok (.iastore, 1) := by decide +kernel
theorem dX9_back_50 : decode cX9_back 50 = .ok (.iinc 2 1, 3) := by decide +kernel
theorem dX9_back_53 : decode cX9_back 53 = .ok (.goto (-28), 3) := by decide +kernel
theorem dX9_back_56 : decode cX9_back 56 = .ok (.aload_n 0, 1) := by decide +kernel
theorem dX9_back_57 : decode cX9_back 57 = .ok (.getfield 22, 3) := by decide +kernel
theorem dX9_back_60 : decode cX9_back 60 = .ok (.bipush 13, 2) := by decide +kernel
theorem dX9_back_62 : decode cX9_back 62 = .ok (.iaload, 1) := by decide +kernel
theorem dX9_back_63 : decode cX9_back 63 = .ok (.ireturn, 1) := by decide +kernel
theorem dX9_count_0 : decode cX9_count 0 = .ok (.iload_n 1, 1) := by decide +kernel
theorem dX9_count_1 : decode cX9_count 1 = .ok (.tableswitch 78 0 5 #[39, 46, 53, 60, 65, 73], 39) := by decide +kernel
theorem dX9_count_40 : decode cX9_count 40 = .ok (.aload_n 0, 1) := by decide +kernel
theorem dX9_count_41 : decode cX9_count 41 = .ok (.getfield 13, 3) := by decide +kernel
theorem dX9_count_44 : decode cX9_count 44 = .ok (.iconst 0, 1) := by decide +kernel
theorem dX9_count_45 : decode cX9_count 45 = .ok (.iaload, 1) := by decide +kernel
theorem dX9_count_46 : decode cX9_count 46 = .ok (.ireturn, 1) := by decide +kernel
theorem dX9_count_47 : decode cX9_count 47 = .ok (.aload_n 0, 1) := by decide +kernel
theorem dX9_count_48 : decode cX9_count 48 = .ok (.getfield 13, 3) := by decide +kernel
theorem dX9_count_51 : decode cX9_count 51 = .ok (.iconst 1, 1) := by decide +kernel
theorem dX9_count_52 : decode cX9_count 52 = .ok (.iaload, 1) := by decide +kernel
theorem dX9_count_53 : decode cX9_count 53 = .ok (.ireturn, 1) := by decide +kernel
theorem dX9_count_54 : decode cX9_count 54 = .ok (.aload_n 0, 1) := by decide +kernel
theorem dX9_count_55 : decode cX9_count 55 = .ok (.getfield 13, 3) := by decide +kernel
theorem dX9_count_58 : decode cX9_count 58 = .ok (.iconst 2, 1) := by decide +kernel
theorem dX9_count_59 : decode cX9_count 59 = .ok (.iaload, 1) := by decide +kernel
theorem dX9_count_60 : decode cX9_count 60 = .ok (.ireturn, 1) := by decide +kernel
theorem dX9_count_61 : decode cX9_count 61 = .ok (.aload_n 0, 1) := by decide +kernel
theorem dX9_count_62 : decode cX9_count 62 = .ok (.getfield 105, 3) := by decide +kernel
theorem dX9_count_65 : decode cX9_count 65 = .ok (.ireturn, 1) := by decide +kernel
theorem dX9_count_66 : decode cX9_count 66 = .ok (.aload_n 0, 1) := by decide +kernel
theorem dX9_count_67 : decode cX9_count 67 = .ok (.getfield 22, 3) := by decide +kernel
theorem dX9_count_70 : decode cX9_count 70 = .ok (.bipush 74, 2) := by decide +kernel
theorem dX9_count_72 : decode cX9_count 72 = .ok (.iaload, 1) := by decide +kernel
theorem dX9_count_73 : decode cX9_count 73 = .ok (.ireturn, 1) := by decide +kernel
theorem dX9_count_74 : decode cX9_count 74 = .ok (.aload_n 0, 1) := by decide +kernel
theorem dX9_count_75 : decode cX9_count 75 = .ok (.getfield 58, 3) := by decide +kernel
theorem dX9_count_78 : decode cX9_count 78 = .ok (.ireturn, 1) := by decide +kernel
theorem dX9_count_79 : decode cX9_count 79 = .ok (.iconst (-1), 1) := by decide +kernel
theorem dX9_count_80 : decode cX9_count 80 = .ok (.ireturn, 1) := by decide +kernel
theorem dX9_trace_0 : decode cX9_trace 0 = .ok (.aload_n 0, 1) := by decide +kernel
theorem dX9_trace_1 : decode cX9_trace 1 = .ok (.getfield 181, 3) := by decide +kernel
theorem dX9_trace_4 : decode cX9_trace 4 = .ok (.lreturn, 1) := by decide +kernel
theorem dJ6_bitCount_0f7a4_0 : decode cJ6_bitCount_0f7a4 0 = .ok (.iload_n 0, 1) := by decide +kernel
theorem dJ6_bitCount_0f7a4_1 : decode cJ6_bitCount_0f7a4 1 = .ok (.iload_n 0, 1) := by decide +kernel
theorem dJ6_bitCount_0f7a4_2 : decode cJ6_bitCount_0f7a4 2 = .ok (.iconst 1, 1) := by decide +kernel
theorem dJ6_bitCount_0f7a4_3 : decode cJ6_bitCount_0f7a4 3 = .ok (.iushr, 1) := by decide +kernel
theorem dJ6_bitCount_0f7a4_4 : decode cJ6_bitCount_0f7a4 4 = .ok (.ldc_w 265, 3) := by decide +kernel
theorem dJ6_bitCount_0f7a4_7 : decode cJ6_bitCount_0f7a4 7 = .ok (.iand, 1) := by decide +kernel
theorem dJ6_bitCount_0f7a4_8 : decode cJ6_bitCount_0f7a4 8 = .ok (.isub, 1) := by decide +kernel
theorem dJ6_bitCount_0f7a4_9 : decode cJ6_bitCount_0f7a4 9 = .ok (.istore_n 0, 1) := by decide +kernel
theorem dJ6_bitCount_0f7a4_10 : decode cJ6_bitCount_0f7a4 10 = .ok (.iload_n 0, 1) := by decide +kernel
theorem dJ6_bitCount_0f7a4_11 : decode cJ6_bitCount_0f7a4 11 = .ok (.ldc_w 266, 3) := by decide +kernel
theorem dJ6_bitCount_0f7a4_14 : decode cJ6_bitCount_0f7a4 14 = .ok (.iand, 1) := by decide +kernel
theorem dJ6_bitCount_0f7a4_15 : decode cJ6_bitCount_0f7a4 15 = .ok (.iload_n 0, 1) := by decide +kernel
theorem dJ6_bitCount_0f7a4_16 : decode cJ6_bitCount_0f7a4 16 = .ok (.iconst 2, 1) := by decide +kernel
theorem dJ6_bitCount_0f7a4_17 : decode cJ6_bitCount_0f7a4 17 = .ok (.iushr, 1) := by decide +kernel
theorem dJ6_bitCount_0f7a4_18 : decode cJ6_bitCount_0f7a4 18 = .ok (.ldc_w 266, 3) := by decide +kernel
theorem dJ6_bitCount_0f7a4_21 : decode cJ6_bitCount_0f7a4 21 = .ok (.iand, 1) := by decide +kernel
theorem dJ6_bitCount_0f7a4_22 : decode cJ6_bitCount_0f7a4 22 = .ok (.iadd, 1) := by decide +kernel
theorem dJ6_bitCount_0f7a4_23 : decode cJ6_bitCount_0f7a4 23 = .ok (.istore_n 0, 1) := by decide +kernel
theorem dJ6_bitCount_0f7a4_24 : decode cJ6_bitCount_0f7a4 24 = .ok (.iload_n 0, 1) := by decide +kernel
theorem dJ6_bitCount_0f7a4_25 : decode cJ6_bitCount_0f7a4 25 = .ok (.iload_n 0, 1) := by decide +kernel
theorem dJ6_bitCount_0f7a4_26 : decode cJ6_bitCount_0f7a4 26 = .ok (.iconst 4, 1) := by decide +kernel
theorem dJ6_bitCount_0f7a4_27 : decode cJ6_bitCount_0f7a4 27 = .ok (.iushr, 1) := by decide +kernel
theorem dJ6_bitCount_0f7a4_28 : decode cJ6_bitCount_0f7a4 28 = .ok (.iadd, 1) := by decide +kernel
theorem dJ6_bitCount_0f7a4_29 : decode cJ6_bitCount_0f7a4 29 = .ok (.ldc_w 267, 3) := by decide +kernel
theorem dJ6_bitCount_0f7a4_32 : decode cJ6_bitCount_0f7a4 32 = .ok (.iand, 1) := by decide +kernel
theorem dJ6_bitCount_0f7a4_33 : decode cJ6_bitCount_0f7a4 33 = .ok (.istore_n 0, 1) := by decide +kernel
theorem dJ6_bitCount_0f7a4_34 : decode cJ6_bitCount_0f7a4 34 = .ok (.iload_n 0, 1) := by decide +kernel
theorem dJ6_bitCount_0f7a4_35 : decode cJ6_bitCount_0f7a4 35 = .ok (.iload_n 0, 1) := by decide +kernel
theorem dJ6_bitCount_0f7a4_36 : decode cJ6_bitCount_0f7a4 36 = .ok (.bipush 8, 2) := by decide +kernel
theorem dJ6_bitCount_0f7a4_38 : decode cJ6_bitCount_0f7a4 38 = .ok (.iushr, 1) := by decide +kernel
theorem dJ6_bitCount_0f7a4_39 : decode cJ6_bitCount_0f7a4 39 = .ok (.iadd, 1) := by decide +kernel
theorem dJ6_bitCount_0f7a4_40 : decode cJ6_bitCount_0f7a4 40 = .ok (.istore_n 0, 1) := by decide +kernel
theorem dJ6_bitCount_0f7a4_41 : decode cJ6_bitCount_0f7a4 41 = .ok (.iload_n 0, 1) := by decide +kernel
theorem dJ6_bitCount_0f7a4_42 : decode cJ6_bitCount_0f7a4 42 = .ok (.iload_n 0, 1) := by decide +kernel
theorem dJ6_bitCount_0f7a4_43 : decode cJ6_bitCount_0f7a4 43 = .ok (.bipush 16, 2) := by decide +kernel
theorem dJ6_bitCount_0f7a4_45 : decode cJ6_bitCount_0f7a4 45 = .ok (.iushr, 1) := by decide +kernel
theorem dJ6_bitCount_0f7a4_46 : decode cJ6_bitCount_0f7a4 46 = .ok (.iadd, 1) := by decide +kernel
theorem dJ6_bitCount_0f7a4_47 : decode cJ6_bitCount_0f7a4 47 = .ok (.istore_n 0, 1) := by decide +kernel
theorem dJ6_bitCount_0f7a4_48 : decode cJ6_bitCount_0f7a4 48 = .ok (.iload_n 0, 1) := by decide +kernel
theorem dJ6_bitCount_0f7a4_49 : decode cJ6_bitCount_0f7a4 49 = .ok (.bipush 63, 2) := by decide +kernel
theorem dJ6_bitCount_0f7a4_51 : decode cJ6_bitCount_0f7a4 51 = .ok (.iand, 1) := by decide +kernel
theorem dJ6_bitCount_0f7a4_52 : decode cJ6_bitCount_0f7a4 52 = .ok (.ireturn, 1) := by decide +kernel
theorem dJ9_max_7cf53_0 : decode cJ9_max_7cf53 0 = .ok (.iload_n 0, 1) := by decide +kernel
theorem dJ9_max_7cf53_1 : decode cJ9_max_7cf53 1 = .ok (.iload_n 1, 1) := by decide +kernel
theorem dJ9_max_7cf53_2 : decode cJ9_max_7cf53 2 = .ok (.if_icmp .lt 7, 3) := by decide +kernel
theorem dJ9_max_7cf53_5 : decode cJ9_max_7cf53 5 = .ok (.iload_n 0, 1) := by decide +kernel
theorem dJ9_max_7cf53_6 : decode cJ9_max_7cf53 6 = .ok (.goto 4, 3) := by decide +kernel
theorem dJ9_max_7cf53_9 : decode cJ9_max_7cf53 9 = .ok (.iload_n 1, 1) := by decide +kernel
theorem dJ9_max_7cf53_10 : decode cJ9_max_7cf53 10 = .ok (.ireturn, 1) := by decide +kernel
theorem dJ9_min_7cf53_0 : decode cJ9_min_7cf53 0 = .ok (.iload_n 0, 1) := by decide +kernel
theorem dJ9_min_7cf53_1 : decode cJ9_min_7cf53 1 = .ok (.iload_n 1, 1) := by decide +kernel
theorem dJ9_min_7cf53_2 : decode cJ9_min_7cf53 2 = .ok (.if_icmp .gt 7, 3) := by decide +kernel
theorem dJ9_min_7cf53_5 : decode cJ9_min_7cf53 5 = .ok (.iload_n 0, 1) := by decide +kernel
theorem dJ9_min_7cf53_6 : decode cJ9_min_7cf53 6 = .ok (.goto 4, 3) := by decide +kernel
theorem dJ9_min_7cf53_9 : decode cJ9_min_7cf53 9 = .ok (.iload_n 1, 1) := by decide +kernel
theorem dJ9_min_7cf53_10 : decode cJ9_min_7cf53 10 = .ok (.ireturn, 1) := by decide +kernel
theorem dJ7_fill_53178_0 : decode cJ7_fill_53178 0 = .ok (.iconst 0, 1) := by decide +kernel
theorem dJ7_fill_53178_1 : decode cJ7_fill_53178 1 = .ok (.istore_n 2, 1) := by decide +kernel
theorem dJ7_fill_53178_2 : decode cJ7_fill_53178 2 = .ok (.aload_n 0, 1) := by decide +kernel
theorem dJ7_fill_53178_3 : decode cJ7_fill_53178 3 = .ok (.arraylength, 1) := by decide +kernel
theorem dJ7_fill_53178_4 : decode cJ7_fill_53178 4 = .ok (.istore_n 3, 1) := by decide +kernel
theorem dJ7_fill_53178_5 : decode cJ7_fill_53178 5 = .ok (.iload_n 2, 1) := by decide +kernel
theorem dJ7_fill_53178_6 : decode cJ7_fill_53178 6 = .ok (.iload_n 3, 1) := by decide +kernel
theorem dJ7_fill_53178_7 : decode cJ7_fill_53178 7 = .ok (.if_icmp .ge 13, 3) := by decide +kernel
theorem dJ7_fill_53178_10 : decode cJ7_fill_53178 10 = .ok (.aload_n 0, 1) := by decide +kernel
theorem dJ7_fill_53178_11 : decode cJ7_fill_53178 11 = .ok (.iload_n 2, 1) := by decide +kernel
theorem dJ7_fill_53178_12 : decode cJ7_fill_53178 12 = .ok (.iload_n 1, 1) := by decide +kernel
theorem dJ7_fill_53178_13 : decode cJ7_fill_53178 13 = .ok (.iastore, 1) := by decide +kernel
theorem dJ7_fill_53178_14 : decode cJ7_fill_53178 14 = .ok (.iinc 2 1, 3) := by decide +kernel
theorem dJ7_fill_53178_17 : decode cJ7_fill_53178 17 = .ok (.goto (-12), 3) := by decide +kernel
theorem dJ7_fill_53178_20 : decode cJ7_fill_53178 20 = .ok (.return_, 1) := by decide +kernel
theorem dL_law_0 : decode cL_law 0 = .ok (.new 7, 3) := by decide +kernel
theorem dL_law_3 : decode cL_law 3 = .ok (.dup, 1) := by decide +kernel
theorem dL_law_4 : decode cL_law 4 = .ok (.invokespecial 9, 3) := by decide +kernel
theorem dL_law_7 : decode cL_law 7 = .ok (.astore_n 1, 1) := by decide +kernel
theorem dL_law_8 : decode cL_law 8 = .ok (.new 10, 3) := by decide +kernel
theorem dL_law_11 : decode cL_law 11 = .ok (.dup, 1) := by decide +kernel
theorem dL_law_12 : decode cL_law 12 = .ok (.invokespecial 12, 3) := by decide +kernel
theorem dL_law_15 : decode cL_law 15 = .ok (.astore_n 2, 1) := by decide +kernel
theorem dL_law_16 : decode cL_law 16 = .ok (.iconst 0, 1) := by decide +kernel
theorem dL_law_17 : decode cL_law 17 = .ok (.istore_n 3, 1) := by decide +kernel
theorem dL_law_18 : decode cL_law 18 = .ok (.iload_n 3, 1) := by decide +kernel
theorem dL_law_19 : decode cL_law 19 = .ok (.aload_n 0, 1) := by decide +kernel
theorem dL_law_20 : decode cL_law 20 = .ok (.arraylength, 1) := by decide +kernel
theorem dL_law_21 : decode cL_law 21 = .ok (.bipush 7, 2) := by decide +kernel
theorem dL_law_23 : decode cL_law 23 = .ok (.isub, 1) := by decide +kernel
theorem dL_law_24 : decode cL_law 24 = .ok (.if_icmp .gt 905, 3) := by decide +kernel
theorem dL_law_27 : decode cL_law 27 = .ok (.aload_n 0, 1) := by decide +kernel
theorem dL_law_28 : decode cL_law 28 = .ok (.iload_n 3, 1) := by decide +kernel
theorem dL_law_29 : decode cL_law 29 = .ok (.iaload, 1) := by decide +kernel
theorem dL_law_30 : decode cL_law 30 = .ok (.bipush 31, 2) := by decide +kernel
theorem dL_law_32 : decode cL_law 32 = .ok (.iand, 1) := by decide +kernel
theorem dL_law_33 : decode cL_law 33 = .ok (.tableswitch 890 0 25 #[119, 142, 155, 168, 201, 234, 267, 300, 333, 376, 409, 442, 495, 508, 521, 544, 587, 610, 685, 738, 751, 774, 807, 830, 853, 876], 119) := by decide +kernel
theorem dL_law_152 : decode cL_law 152 = .ok (.aload_n 1, 1) := by decide +kernel
theorem dL_law_153 : decode cL_law 153 = .ok (.aload_n 0, 1) := by decide +kernel
theorem dL_law_154 : decode cL_law 154 = .ok (.iload_n 3, 1) := by decide +kernel
theorem dL_law_155 : decode cL_law 155 = .ok (.iconst 1, 1) := by decide +kernel
theorem dL_law_156 : decode cL_law 156 = .ok (.iadd, 1) := by decide +kernel
theorem dL_law_157 : decode cL_law 157 = .ok (.iaload, 1) := by decide +kernel
theorem dL_law_158 : decode cL_law 158 = .ok (.invokevirtual 13, 3) := by decide +kernel
theorem dL_law_161 : decode cL_law 161 = .ok (.aload_n 2, 1) := by decide +kernel
theorem dL_law_162 : decode cL_law 162 = .ok (.aload_n 0, 1) := by decide +kernel
theorem dL_law_163 : decode cL_law 163 = .ok (.iload_n 3, 1) := by decide +kernel
theorem dL_law_164 : decode cL_law 164 = .ok (.iconst 1, 1) := by decide +kernel
theorem dL_law_165 : decode cL_law 165 = .ok (.iadd, 1) := by decide +kernel
theorem dL_law_166 : decode cL_law 166 = .ok (.iaload, 1) := by decide +kernel
theorem dL_law_167 : decode cL_law 167 = .ok (.invokevirtual 17, 3) := by decide +kernel
theorem dL_law_170 : decode cL_law 170 = .ok (.if_icmp .eq 753, 3) := by decide +kernel
theorem dL_law_173 : decode cL_law 173 = .ok (.iconst 0, 1) := by decide +kernel
theorem dL_law_174 : decode cL_law 174 = .ok (.ireturn, 1) := by decide +kernel
theorem dL_law_175 : decode cL_law 175 = .ok (.aload_n 1, 1) := by decide +kernel
theorem dL_law_176 : decode cL_law 176 = .ok (.invokevirtual 18, 3) := by decide +kernel
theorem dL_law_179 : decode cL_law 179 = .ok (.aload_n 2, 1) := by decide +kernel
theorem dL_law_180 : decode cL_law 180 = .ok (.invokevirtual 22, 3) := by decide +kernel
theorem dL_law_183 : decode cL_law 183 = .ok (.if_icmp .eq 740, 3) := by decide +kernel
theorem dL_law_186 : decode cL_law 186 = .ok (.iconst 0, 1) := by decide +kernel
theorem dL_law_187 : decode cL_law 187 = .ok (.ireturn, 1) := by decide +kernel
theorem dL_law_188 : decode cL_law 188 = .ok (.aload_n 1, 1) := by decide +kernel
theorem dL_law_189 : decode cL_law 189 = .ok (.invokevirtual 23, 3) := by decide +kernel
theorem dL_law_192 : decode cL_law 192 = .ok (.aload_n 2, 1) := by decide +kernel
theorem dL_law_193 : decode cL_law 193 = .ok (.invokevirtual 26, 3) := by decide +kernel
theorem dL_law_196 : decode cL_law 196 = .ok (.if_icmp .eq 727, 3) := by decide +kernel
theorem dL_law_199 : decode cL_law 199 = .ok (.iconst 0, 1) := by decide +kernel
theorem dL_law_200 : decode cL_law 200 = .ok (.ireturn, 1) := by decide +kernel
theorem dL_law_201 : decode cL_law 201 = .ok (.aload_n 1, 1) := by decide +kernel
theorem dL_law_202 : decode cL_law 202 = .ok (.aload_n 0, 1) := by decide +kernel
theorem dL_law_203 : decode cL_law 203 = .ok (.iload_n 3, 1) := by decide +kernel
theorem dL_law_204 : decode cL_law 204 = .ok (.iconst 1, 1) := by decide +kernel
theorem dL_law_205 : decode cL_law 205 = .ok (.iadd, 1) := by decide +kernel
theorem dL_law_206 : decode cL_law 206 = .ok (.iaload, 1) := by decide +kernel
theorem dL_law_207 : decode cL_law 207 = .ok (.aload_n 0, 1) := by decide +kernel
theorem dL_law_208 : decode cL_law 208 = .ok (.iload_n 3, 1) := by decide +kernel
theorem dL_law_209 : decode cL_law 209 = .ok (.iconst 2, 1) := by decide +kernel
theorem dL_law_210 : decode cL_law 210 = .ok (.iadd, 1) := by decide +kernel
theorem dL_law_211 : decode cL_law 211 = .ok (.iaload, 1) := by decide +kernel
theorem dL_law_212 : decode cL_law 212 = .ok (.invokevirtual 27, 3) := by decide +kernel
theorem dL_law_215 : decode cL_law 215 = .ok (.aload_n 2, 1) := by decide +kernel
theorem dL_law_216 : decode cL_law 216 = .ok (.aload_n 0, 1) := by decide +kernel
theorem dL_law_217 : decode cL_law 217 = .ok (.iload_n 3, 1) := by decide +kernel
theorem dL_law_218 : decode cL_law 218 = .ok (.iconst 1, 1) := by decide +kernel
theorem dL_law_219 : decode cL_law 219 = .ok (.iadd, 1) := by decide +kernel
theorem dL_law_220 : decode cL_law 220 = .ok (.iaload, 1) := by decide +kernel
theorem dL_law_221 : decode cL_law 221 = .ok (.aload_n 0, 1) := by decide +kernel
theorem dL_law_222 : decode cL_law 222 = .ok (.iload_n 3, 1) := by decide +kernel
theorem dL_law_223 : decode cL_law 223 = .ok (.iconst 2, 1) := by decide +kernel
theorem dL_law_224 : decode cL_law 224 = .ok (.iadd, 1) := by decide +kernel
theorem dL_law_225 : decode cL_law 225 = .ok (.iaload, 1) := by decide +kernel
theorem dL_law_226 : decode cL_law 226 = .ok (.invokevirtual 31, 3) := by decide +kernel
theorem dL_law_229 : decode cL_law 229 = .ok (.if_icmp .eq 694, 3) := by decide +kernel
theorem dL_law_232 : decode cL_law 232 = .ok (.iconst 0, 1) := by decide +kernel
theorem dL_law_233 : decode cL_law 233 = .ok (.ireturn, 1) := by decide +kernel
theorem dL_law_234 : decode cL_law 234 = .ok (.aload_n 1, 1) := by decide +kernel
theorem dL_law_235 : decode cL_law 235 = .ok (.aload_n 0, 1) := by decide +kernel
theorem dL_law_236 : decode cL_law 236 = .ok (.iload_n 3, 1) := by decide +kernel
theorem dL_law_237 : decode cL_law 237 = .ok (.iconst 1, 1) := by decide +kernel
theorem dL_law_238 : decode cL_law 238 = .ok (.iadd, 1) := by decide +kernel
theorem dL_law_239 : decode cL_law 239 = .ok (.iaload, 1) := by decide +kernel
theorem dL_law_240 : decode cL_law 240 = .ok (.aload_n 0, 1) := by decide +kernel
theorem dL_law_241 : decode cL_law 241 = .ok (.iload_n 3, 1) := by decide +kernel
theorem dL_law_242 : decode cL_law 242 = .ok (.iconst 2, 1) := by decide +kernel
theorem dL_law_243 : decode cL_law 243 = .ok (.iadd, 1) := by decide +kernel
theorem dL_law_244 : decode cL_law 244 = .ok (.iaload, 1) := by decide +kernel
theorem dL_law_245 : decode cL_law 245 = .ok (.invokevirtual 32, 3) := by decide +kernel
theorem dL_law_248 : decode cL_law 248 = .ok (.aload_n 2, 1) := by decide +kernel
theorem dL_law_249 : decode cL_law 249 = .ok (.aload_n 0, 1) := by decide +kernel
theorem dL_law_250 : decode cL_law 250 = .ok (.iload_n 3, 1) := by decide +kernel
theorem dL_law_251 : decode cL_law 251 = .ok (.iconst 1, 1) := by decide +kernel
theorem dL_law_252 : decode cL_law 252 = .ok (.iadd, 1) := by decide +kernel
theorem dL_law_253 : decode cL_law 253 = .ok (.iaload, 1) := by decide +kernel
theorem dL_law_254 : decode cL_law 254 = .ok (.aload_n 0, 1) := by decide +kernel
theorem dL_law_255 : decode cL_law 255 = .ok (.iload_n 3, 1) := by decide +kernel
theorem dL_law_256 : decode cL_law 256 = .ok (.iconst 2, 1) := by decide +kernel
theorem dL_law_257 : decode cL_law 257 = .ok (.iadd, 1) := by decide +kernel
theorem dL_law_258 : decode cL_law 258 = .ok (.iaload, 1) := by decide +kernel
theorem dL_law_259 : decode cL_law 259 = .ok (.invokevirtual 35, 3) := by decide +kernel
theorem dL_law_262 : decode cL_law 262 = .ok (.if_icmp .eq 661, 3) := by decide +kernel
theorem dL_law_265 : decode cL_law 265 = .ok (.iconst 0, 1) := by decide +kernel
theorem dL_law_266 : decode cL_law 266 = .ok (.ireturn, 1) := by decide +kernel
theorem dL_law_267 : decode cL_law 267 = .ok (.aload_n 1, 1) := by decide +kernel
theorem dL_law_268 : decode cL_law 268 = .ok (.aload_n 0, 1) := by decide +kernel
theorem dL_law_269 : decode cL_law 269 = .ok (.iload_n 3, 1) := by decide +kernel
theorem dL_law_270 : decode cL_law 270 = .ok (.iconst 1, 1) := by decide +kernel
theorem dL_law_271 : decode cL_law 271 = .ok (.iadd, 1) := by decide +kernel
theorem dL_law_272 : decode cL_law 272 = .ok (.iaload, 1) := by decide +kernel
theorem dL_law_273 : decode cL_law 273 = .ok (.aload_n 0, 1) := by decide +kernel
theorem dL_law_274 : decode cL_law 274 = .ok (.iload_n 3, 1) := by decide +kernel
theorem dL_law_275 : decode cL_law 275 = .ok (.iconst 2, 1) := by decide +kernel
theorem dL_law_276 : decode cL_law 276 = .ok (.iadd, 1) := by decide +kernel
theorem dL_law_277 : decode cL_law 277 = .ok (.iaload, 1) := by decide +kernel
theorem dL_law_278 : decode cL_law 278 = .ok (.invokevirtual 36, 3) := by decide +kernel
theorem dL_law_281 : decode cL_law 281 = .ok (.aload_n 2, 1) := by decide +kernel
theorem dL_law_282 : decode cL_law 282 = .ok (.aload_n 0, 1) := by decide +kernel
theorem dL_law_283 : decode cL_law 283 = .ok (.iload_n 3, 1) := by decide +kernel
theorem dL_law_284 : decode cL_law 284 = .ok (.iconst 1, 1) := by decide +kernel
theorem dL_law_285 : decode cL_law 285 = .ok (.iadd, 1) := by decide +kernel
theorem dL_law_286 : decode cL_law 286 = .ok (.iaload, 1) := by decide +kernel
theorem dL_law_287 : decode cL_law 287 = .ok (.aload_n 0, 1) := by decide +kernel
theorem dL_law_288 : decode cL_law 288 = .ok (.iload_n 3, 1) := by decide +kernel
theorem dL_law_289 : decode cL_law 289 = .ok (.iconst 2, 1) := by decide +kernel
theorem dL_law_290 : decode cL_law 290 = .ok (.iadd, 1) := by decide +kernel
theorem dL_law_291 : decode cL_law 291 = .ok (.iaload, 1) := by decide +kernel
theorem dL_law_292 : decode cL_law 292 = .ok (.invokevirtual 39, 3) := by decide +kernel
theorem dL_law_295 : decode cL_law 295 = .ok (.if_icmp .eq 628, 3) := by decide +kernel
theorem dL_law_298 : decode cL_law 298 = .ok (.iconst 0, 1) := by decide +kernel
theorem dL_law_299 : decode cL_law 299 = .ok (.ireturn, 1) := by decide +kernel
theorem dL_law_300 : decode cL_law 300 = .ok (.aload_n 1, 1) := by decide +kernel
theorem dL_law_301 : decode cL_law 301 = .ok (.aload_n 0, 1) := by decide +kernel
theorem dL_law_302 : decode cL_law 302 = .ok (.iload_n 3, 1) := by decide +kernel
theorem dL_law_303 : decode cL_law 303 = .ok (.iconst 1, 1) := by decide +kernel
theorem dL_law_304 : decode cL_law 304 = .ok (.iadd, 1) := by decide +kernel
theorem dL_law_305 : decode cL_law 305 = .ok (.iaload, 1) := by decide +kernel
theorem dL_law_306 : decode cL_law 306 = .ok (.aload_n 0, 1) := by decide +kernel
theorem dL_law_307 : decode cL_law 307 = .ok (.iload_n 3, 1) := by decide +kernel
theorem dL_law_308 : decode cL_law 308 = .ok (.iconst 2, 1) := by decide +kernel
theorem dL_law_309 : decode cL_law 309 = .ok (.iadd, 1) := by decide +kernel
theorem dL_law_310 : decode cL_law 310 = .ok (.iaload, 1) := by decide +kernel
theorem dL_law_311 : decode cL_law 311 = .ok (.invokevirtual 40, 3) := by decide +kernel
theorem dL_law_314 : decode cL_law 314 = .ok (.aload_n 2, 1) := by decide +kernel
theorem dL_law_315 : decode cL_law 315 = .ok (.aload_n 0, 1) := by decide +kernel
theorem dL_law_316 : decode cL_law 316 = .ok (.iload_n 3, 1) := by decide +kernel
theorem dL_law_317 : decode cL_law 317 = .ok (.iconst 1, 1) := by decide +kernel
theorem dL_law_318 : decode cL_law 318 = .ok (.iadd, 1) := by decide +kernel
theorem dL_law_319 : decode cL_law 319 = .ok (.iaload, 1) := by decide +kernel
theorem dL_law_320 : decode cL_law 320 = .ok (.aload_n 0, 1) := by decide +kernel
theorem dL_law_321 : decode cL_law 321 = .ok (.iload_n 3, 1) := by decide +kernel
theorem dL_law_322 : decode cL_law 322 = .ok (.iconst 2, 1) := by decide +kernel
theorem dL_law_323 : decode cL_law 323 = .ok (.iadd, 1) := by decide +kernel
theorem dL_law_324 : decode cL_law 324 = .ok (.iaload, 1) := by decide +kernel
theorem dL_law_325 : decode cL_law 325 = .ok (.invokevirtual 43, 3) := by decide +kernel
theorem dL_law_328 : decode cL_law 328 = .ok (.if_icmp .eq 595, 3) := by decide +kernel
theorem dL_law_331 : decode cL_law 331 = .ok (.iconst 0, 1) := by decide +kernel
theorem dL_law_332 : decode cL_law 332 = .ok (.ireturn, 1) := by decide +kernel
theorem dL_law_333 : decode cL_law 333 = .ok (.aload_n 1, 1) := by decide +kernel
theorem dL_law_334 : decode cL_law 334 = .ok (.aload_n 0, 1) := by decide +kernel
theorem dL_law_335 : decode cL_law 335 = .ok (.iload_n 3, 1) := by decide +kernel
theorem dL_law_336 : decode cL_law 336 = .ok (.iconst 1, 1) := by decide +kernel
theorem dL_law_337 : decode cL_law 337 = .ok (.iadd, 1) := by decide +kernel
theorem dL_law_338 : decode cL_law 338 = .ok (.iaload, 1) := by decide +kernel
theorem dL_law_339 : decode cL_law 339 = .ok (.aload_n 0, 1) := by decide +kernel
theorem dL_law_340 : decode cL_law 340 = .ok (.iload_n 3, 1) := by decide +kernel
theorem dL_law_341 : decode cL_law 341 = .ok (.iconst 2, 1) := by decide +kernel
theorem dL_law_342 : decode cL_law 342 = .ok (.iadd, 1) := by decide +kernel
theorem dL_law_343 : decode cL_law 343 = .ok (.iaload, 1) := by decide +kernel
theorem dL_law_344 : decode cL_law 344 = .ok (.invokevirtual 44, 3) := by decide +kernel
theorem dL_law_347 : decode cL_law 347 = .ok (.aload_n 2, 1) := by decide +kernel
theorem dL_law_348 : decode cL_law 348 = .ok (.aload_n 0, 1) := by decide +kernel
theorem dL_law_349 : decode cL_law 349 = .ok (.iload_n 3, 1) := by decide +kernel
theorem dL_law_350 : decode cL_law 350 = .ok (.iconst 1, 1) := by decide +kernel
theorem dL_law_351 : decode cL_law 351 = .ok (.iadd, 1) := by decide +kernel
theorem dL_law_352 : decode cL_law 352 = .ok (.iaload, 1) := by decide +kernel
theorem dL_law_353 : decode cL_law 353 = .ok (.aload_n 0, 1) := by decide +kernel
theorem dL_law_354 : decode cL_law 354 = .ok (.iload_n 3, 1) := by decide +kernel
theorem dL_law_355 : decode cL_law 355 = .ok (.iconst 2, 1) := by decide +kernel
theorem dL_law_356 : decode cL_law 356 = .ok (.iadd, 1) := by decide +kernel
theorem dL_law_357 : decode cL_law 357 = .ok (.iaload, 1) := by decide +kernel
theorem dL_law_358 : decode cL_law 358 = .ok (.invokevirtual 47, 3) := by decide +kernel
theorem dL_law_361 : decode cL_law 361 = .ok (.if_icmp .eq 562, 3) := by decide +kernel
theorem dL_law_364 : decode cL_law 364 = .ok (.iconst 0, 1) := by decide +kernel
theorem dL_law_365 : decode cL_law 365 = .ok (.ireturn, 1) := by decide +kernel
theorem dL_law_366 : decode cL_law 366 = .ok (.aload_n 1, 1) := by decide +kernel
theorem dL_law_367 : decode cL_law 367 = .ok (.aload_n 0, 1) := by decide +kernel
theorem dL_law_368 : decode cL_law 368 = .ok (.iload_n 3, 1) := by decide +kernel
theorem dL_law_369 : decode cL_law 369 = .ok (.iconst 1, 1) := by decide +kernel
theorem dL_law_370 : decode cL_law 370 = .ok (.iadd, 1) := by decide +kernel
theorem dL_law_371 : decode cL_law 371 = .ok (.iaload, 1) := by decide +kernel
theorem dL_law_372 : decode cL_law 372 = .ok (.aload_n 0, 1) := by decide +kernel
theorem dL_law_373 : decode cL_law 373 = .ok (.iload_n 3, 1) := by decide +kernel
theorem dL_law_374 : decode cL_law 374 = .ok (.iconst 2, 1) := by decide +kernel
theorem dL_law_375 : decode cL_law 375 = .ok (.iadd, 1) := by decide +kernel
theorem dL_law_376 : decode cL_law 376 = .ok (.iaload, 1) := by decide +kernel
theorem dL_law_377 : decode cL_law 377 = .ok (.aload_n 0, 1) := by decide +kernel
theorem dL_law_378 : decode cL_law 378 = .ok (.iload_n 3, 1) := by decide +kernel
theorem dL_law_379 : decode cL_law 379 = .ok (.iconst 3, 1) := by decide +kernel
theorem dL_law_380 : decode cL_law 380 = .ok (.iadd, 1) := by decide +kernel
theorem dL_law_381 : decode cL_law 381 = .ok (.iaload, 1) := by decide +kernel
theorem dL_law_382 : decode cL_law 382 = .ok (.invokevirtual 48, 3) := by decide +kernel
theorem dL_law_385 : decode cL_law 385 = .ok (.aload_n 2, 1) := by decide +kernel
theorem dL_law_386 : decode cL_law 386 = .ok (.aload_n 0, 1) := by decide +kernel
theorem dL_law_387 : decode cL_law 387 = .ok (.iload_n 3, 1) := by decide +kernel
theorem dL_law_388 : decode cL_law 388 = .ok (.iconst 1, 1) := by decide +kernel
theorem dL_law_389 : decode cL_law 389 = .ok (.iadd, 1) := by decide +kernel
theorem dL_law_390 : decode cL_law 390 = .ok (.iaload, 1) := by decide +kernel
theorem dL_law_391 : decode cL_law 391 = .ok (.aload_n 0, 1) := by decide +kernel
theorem dL_law_392 : decode cL_law 392 = .ok (.iload_n 3, 1) := by decide +kernel
theorem dL_law_393 : decode cL_law 393 = .ok (.iconst 2, 1) := by decide +kernel
theorem dL_law_394 : decode cL_law 394 = .ok (.iadd, 1) := by decide +kernel
theorem dL_law_395 : decode cL_law 395 = .ok (.iaload, 1) := by decide +kernel
theorem dL_law_396 : decode cL_law 396 = .ok (.aload_n 0, 1) := by decide +kernel
theorem dL_law_397 : decode cL_law 397 = .ok (.iload_n 3, 1) := by decide +kernel
theorem dL_law_398 : decode cL_law 398 = .ok (.iconst 3, 1) := by decide +kernel
theorem dL_law_399 : decode cL_law 399 = .ok (.iadd, 1) := by decide +kernel
theorem dL_law_400 : decode cL_law 400 = .ok (.iaload, 1) := by decide +kernel
theorem dL_law_401 : decode cL_law 401 = .ok (.invokevirtual 52, 3) := by decide +kernel
theorem dL_law_404 : decode cL_law 404 = .ok (.if_icmp .eq 519, 3) := by decide +kernel
theorem dL_law_407 : decode cL_law 407 = .ok (.iconst 0, 1) := by decide +kernel
theorem dL_law_408 : decode cL_law 408 = .ok (.ireturn, 1) := by decide +kernel
theorem dL_law_409 : decode cL_law 409 = .ok (.aload_n 1, 1) := by decide +kernel
theorem dL_law_410 : decode cL_law 410 = .ok (.aload_n 0, 1) := by decide +kernel
theorem dL_law_411 : decode cL_law 411 = .ok (.iload_n 3, 1) := by decide +kernel
theorem dL_law_412 : decode cL_law 412 = .ok (.iconst 1, 1) := by decide +kernel
theorem dL_law_413 : decode cL_law 413 = .ok (.iadd, 1) := by decide +kernel
theorem dL_law_414 : decode cL_law 414 = .ok (.iaload, 1) := by decide +kernel
theorem dL_law_415 : decode cL_law 415 = .ok (.aload_n 0, 1) := by decide +kernel
theorem dL_law_416 : decode cL_law 416 = .ok (.iload_n 3, 1) := by decide +kernel
theorem dL_law_417 : decode cL_law 417 = .ok (.iconst 2, 1) := by decide +kernel
theorem dL_law_418 : decode cL_law 418 = .ok (.iadd, 1) := by decide +kernel
theorem dL_law_419 : decode cL_law 419 = .ok (.iaload, 1) := by decide +kernel
theorem dL_law_420 : decode cL_law 420 = .ok (.invokevirtual 53, 3) := by decide +kernel
theorem dL_law_423 : decode cL_law 423 = .ok (.aload_n 2, 1) := by decide +kernel
theorem dL_law_424 : decode cL_law 424 = .ok (.aload_n 0, 1) := by decide +kernel
theorem dL_law_425 : decode cL_law 425 = .ok (.iload_n 3, 1) := by decide +kernel
theorem dL_law_426 : decode cL_law 426 = .ok (.iconst 1, 1) := by decide +kernel
theorem dL_law_427 : decode cL_law 427 = .ok (.iadd, 1) := by decide +kernel
theorem dL_law_428 : decode cL_law 428 = .ok (.iaload, 1) := by decide +kernel
theorem dL_law_429 : decode cL_law 429 = .ok (.aload_n 0, 1) := by decide +kernel
theorem dL_law_430 : decode cL_law 430 = .ok (.iload_n 3, 1) := by decide +kernel
theorem dL_law_431 : decode cL_law 431 = .ok (.iconst 2, 1) := by decide +kernel
theorem dL_law_432 : decode cL_law 432 = .ok (.iadd, 1) := by decide +kernel
theorem dL_law_433 : decode cL_law 433 = .ok (.iaload, 1) := by decide +kernel
theorem dL_law_434 : decode cL_law 434 = .ok (.invokevirtual 56, 3) := by decide +kernel
theorem dL_law_437 : decode cL_law 437 = .ok (.if_icmp .eq 486, 3) := by decide +kernel
theorem dL_law_440 : decode cL_law 440 = .ok (.iconst 0, 1) := by decide +kernel
theorem dL_law_441 : decode cL_law 441 = .ok (.ireturn, 1) := by decide +kernel
theorem dL_law_442 : decode cL_law 442 = .ok (.aload_n 1, 1) := by decide +kernel
theorem dL_law_443 : decode cL_law 443 = .ok (.aload_n 0, 1) := by decide +kernel
theorem dL_law_444 : decode cL_law 444 = .ok (.iload_n 3, 1) := by decide +kernel
theorem dL_law_445 : decode cL_law 445 = .ok (.iconst 1, 1) := by decide +kernel
theorem dL_law_446 : decode cL_law 446 = .ok (.iadd, 1) := by decide +kernel
theorem dL_law_447 : decode cL_law 447 = .ok (.iaload, 1) := by decide +kernel
theorem dL_law_448 : decode cL_law 448 = .ok (.aload_n 0, 1) := by decide +kernel
theorem dL_law_449 : decode cL_law 449 = .ok (.iload_n 3, 1) := by decide +kernel
theorem dL_law_450 : decode cL_law 450 = .ok (.iconst 2, 1) := by decide +kernel
theorem dL_law_451 : decode cL_law 451 = .ok (.iadd, 1) := by decide +kernel
theorem dL_law_452 : decode cL_law 452 = .ok (.iaload, 1) := by decide +kernel
theorem dL_law_453 : decode cL_law 453 = .ok (.invokevirtual 57, 3) := by decide +kernel
theorem dL_law_456 : decode cL_law 456 = .ok (.aload_n 2, 1) := by decide +kernel
theorem dL_law_457 : decode cL_law 457 = .ok (.aload_n 0, 1) := by decide +kernel
theorem dL_law_458 : decode cL_law 458 = .ok (.iload_n 3, 1) := by decide +kernel
theorem dL_law_459 : decode cL_law 459 = .ok (.iconst 1, 1) := by decide +kernel
theorem dL_law_460 : decode cL_law 460 = .ok (.iadd, 1) := by decide +kernel
theorem dL_law_461 : decode cL_law 461 = .ok (.iaload, 1) := by decide +kernel
theorem dL_law_462 : decode cL_law 462 = .ok (.aload_n 0, 1) := by decide +kernel
theorem dL_law_463 : decode cL_law 463 = .ok (.iload_n 3, 1) := by decide +kernel
theorem dL_law_464 : decode cL_law 464 = .ok (.iconst 2, 1) := by decide +kernel
theorem dL_law_465 : decode cL_law 465 = .ok (.iadd, 1) := by decide +kernel
theorem dL_law_466 : decode cL_law 466 = .ok (.iaload, 1) := by decide +kernel
theorem dL_law_467 : decode cL_law 467 = .ok (.invokevirtual 60, 3) := by decide +kernel
theorem dL_law_470 : decode cL_law 470 = .ok (.if_icmp .eq 453, 3) := by decide +kernel
theorem dL_law_473 : decode cL_law 473 = .ok (.iconst 0, 1) := by decide +kernel
theorem dL_law_474 : decode cL_law 474 = .ok (.ireturn, 1) := by decide +kernel
theorem dL_law_475 : decode cL_law 475 = .ok (.aload_n 1, 1) := by decide +kernel
theorem dL_law_476 : decode cL_law 476 = .ok (.aload_n 0, 1) := by decide +kernel
theorem dL_law_477 : decode cL_law 477 = .ok (.iload_n 3, 1) := by decide +kernel
theorem dL_law_478 : decode cL_law 478 = .ok (.iconst 1, 1) := by decide +kernel
theorem dL_law_479 : decode cL_law 479 = .ok (.iadd, 1) := by decide +kernel
theorem dL_law_480 : decode cL_law 480 = .ok (.iaload, 1) := by decide +kernel
theorem dL_law_481 : decode cL_law 481 = .ok (.aload_n 0, 1) := by decide +kernel
theorem dL_law_482 : decode cL_law 482 = .ok (.iload_n 3, 1) := by decide +kernel
theorem dL_law_483 : decode cL_law 483 = .ok (.iconst 2, 1) := by decide +kernel
theorem dL_law_484 : decode cL_law 484 = .ok (.iadd, 1) := by decide +kernel
theorem dL_law_485 : decode cL_law 485 = .ok (.iaload, 1) := by decide +kernel
theorem dL_law_486 : decode cL_law 486 = .ok (.aload_n 0, 1) := by decide +kernel
theorem dL_law_487 : decode cL_law 487 = .ok (.iload_n 3, 1) := by decide +kernel
theorem dL_law_488 : decode cL_law 488 = .ok (.iconst 3, 1) := by decide +kernel
theorem dL_law_489 : decode cL_law 489 = .ok (.iadd, 1) := by decide +kernel
theorem dL_law_490 : decode cL_law 490 = .ok (.iaload, 1) := by decide +kernel
theorem dL_law_491 : decode cL_law 491 = .ok (.aload_n 0, 1) := by decide +kernel
theorem dL_law_492 : decode cL_law 492 = .ok (.iload_n 3, 1) := by decide +kernel
theorem dL_law_493 : decode cL_law 493 = .ok (.iconst 4, 1) := by decide +kernel
theorem dL_law_494 : decode cL_law 494 = .ok (.iadd, 1) := by decide +kernel
theorem dL_law_495 : decode cL_law 495 = .ok (.iaload, 1) := by decide +kernel
theorem dL_law_496 : decode cL_law 496 = .ok (.invokevirtual 61, 3) := by decide +kernel
theorem dL_law_499 : decode cL_law 499 = .ok (.aload_n 2, 1) := by decide +kernel
theorem dL_law_500 : decode cL_law 500 = .ok (.aload_n 0, 1) := by decide +kernel
theorem dL_law_501 : decode cL_law 501 = .ok (.iload_n 3, 1) := by decide +kernel
theorem dL_law_502 : decode cL_law 502 = .ok (.iconst 1, 1) := by decide +kernel
theorem dL_law_503 : decode cL_law 503 = .ok (.iadd, 1) := by decide +kernel
theorem dL_law_504 : decode cL_law 504 = .ok (.iaload, 1) := by decide +kernel
theorem dL_law_505 : decode cL_law 505 = .ok (.aload_n 0, 1) := by decide +kernel
theorem dL_law_506 : decode cL_law 506 = .ok (.iload_n 3, 1) := by decide +kernel
theorem dL_law_507 : decode cL_law 507 = .ok (.iconst 2, 1) := by decide +kernel
theorem dL_law_508 : decode cL_law 508 = .ok (.iadd, 1) := by decide +kernel
theorem dL_law_509 : decode cL_law 509 = .ok (.iaload, 1) := by decide +kernel
theorem dL_law_510 : decode cL_law 510 = .ok (.aload_n 0, 1) := by decide +kernel
theorem dL_law_511 : decode cL_law 511 = .ok (.iload_n 3, 1) := by decide +kernel
theorem dL_law_512 : decode cL_law 512 = .ok (.iconst 3, 1) := by decide +kernel
theorem dL_law_513 : decode cL_law 513 = .ok (.iadd, 1) := by decide +kernel
theorem dL_law_514 : decode cL_law 514 = .ok (.iaload, 1) := by decide +kernel
theorem dL_law_515 : decode cL_law 515 = .ok (.aload_n 0, 1) := by decide +kernel
theorem dL_law_516 : decode cL_law 516 = .ok (.iload_n 3, 1) := by decide +kernel
theorem dL_law_517 : decode cL_law 517 = .ok (.iconst 4, 1) := by decide +kernel
theorem dL_law_518 : decode cL_law 518 = .ok (.iadd, 1) := by decide +kernel
theorem dL_law_519 : decode cL_law 519 = .ok (.iaload, 1) := by decide +kernel
theorem dL_law_520 : decode cL_law 520 = .ok (.invokevirtual 65, 3) := by decide +kernel
theorem dL_law_523 : decode cL_law 523 = .ok (.if_icmp .eq 400, 3) := by decide +kernel
theorem dL_law_526 : decode cL_law 526 = .ok (.iconst 0, 1) := by decide +kernel
theorem dL_law_527 : decode cL_law 527 = .ok (.ireturn, 1) := by decide +kernel
theorem dL_law_528 : decode cL_law 528 = .ok (.aload_n 1, 1) := by decide +kernel
theorem dL_law_529 : decode cL_law 529 = .ok (.invokevirtual 66, 3) := by decide +kernel
theorem dL_law_532 : decode cL_law 532 = .ok (.aload_n 2, 1) := by decide +kernel
theorem dL_law_533 : decode cL_law 533 = .ok (.invokevirtual 69, 3) := by decide +kernel
theorem dL_law_536 : decode cL_law 536 = .ok (.if_icmp .eq 387, 3) := by decide +kernel
theorem dL_law_539 : decode cL_law 539 = .ok (.iconst 0, 1) := by decide +kernel
theorem dL_law_540 : decode cL_law 540 = .ok (.ireturn, 1) := by decide +kernel
theorem dL_law_541 : decode cL_law 541 = .ok (.aload_n 1, 1) := by decide +kernel
theorem dL_law_542 : decode cL_law 542 = .ok (.invokevirtual 70, 3) := by decide +kernel
theorem dL_law_545 : decode cL_law 545 = .ok (.aload_n 2, 1) := by decide +kernel
theorem dL_law_546 : decode cL_law 546 = .ok (.invokevirtual 73, 3) := by decide +kernel
theorem dL_law_549 : decode cL_law 549 = .ok (.if_icmp .eq 374, 3) := by decide +kernel
theorem dL_law_552 : decode cL_law 552 = .ok (.iconst 0, 1) := by decide +kernel
theorem dL_law_553 : decode cL_law 553 = .ok (.ireturn, 1) := by decide +kernel
theorem dL_law_554 : decode cL_law 554 = .ok (.aload_n 1, 1) := by decide +kernel
theorem dL_law_555 : decode cL_law 555 = .ok (.aload_n 0, 1) := by decide +kernel
theorem dL_law_556 : decode cL_law 556 = .ok (.iload_n 3, 1) := by decide +kernel
theorem dL_law_557 : decode cL_law 557 = .ok (.iconst 1, 1) := by decide +kernel
theorem dL_law_558 : decode cL_law 558 = .ok (.iadd, 1) := by decide +kernel
theorem dL_law_559 : decode cL_law 559 = .ok (.iaload, 1) := by decide +kernel
theorem dL_law_560 : decode cL_law 560 = .ok (.invokevirtual 74, 3) := by decide +kernel
theorem dL_law_563 : decode cL_law 563 = .ok (.aload_n 2, 1) := by decide +kernel
theorem dL_law_564 : decode cL_law 564 = .ok (.aload_n 0, 1) := by decide +kernel
theorem dL_law_565 : decode cL_law 565 = .ok (.iload_n 3, 1) := by decide +kernel
theorem dL_law_566 : decode cL_law 566 = .ok (.iconst 1, 1) := by decide +kernel
theorem dL_law_567 : decode cL_law 567 = .ok (.iadd, 1) := by decide +kernel
theorem dL_law_568 : decode cL_law 568 = .ok (.iaload, 1) := by decide +kernel
theorem dL_law_569 : decode cL_law 569 = .ok (.invokevirtual 77, 3) := by decide +kernel
theorem dL_law_572 : decode cL_law 572 = .ok (.if_icmp .eq 351, 3) := by decide +kernel
theorem dL_law_575 : decode cL_law 575 = .ok (.iconst 0, 1) := by decide +kernel
theorem dL_law_576 : decode cL_law 576 = .ok (.ireturn, 1) := by decide +kernel
theorem dL_law_577 : decode cL_law 577 = .ok (.aload_n 1, 1) := by decide +kernel
theorem dL_law_578 : decode cL_law 578 = .ok (.aload_n 0, 1) := by decide +kernel
theorem dL_law_579 : decode cL_law 579 = .ok (.iload_n 3, 1) := by decide +kernel
theorem dL_law_580 : decode cL_law 580 = .ok (.iconst 1, 1) := by decide +kernel
theorem dL_law_581 : decode cL_law 581 = .ok (.iadd, 1) := by decide +kernel
theorem dL_law_582 : decode cL_law 582 = .ok (.iaload, 1) := by decide +kernel
theorem dL_law_583 : decode cL_law 583 = .ok (.aload_n 0, 1) := by decide +kernel
theorem dL_law_584 : decode cL_law 584 = .ok (.iload_n 3, 1) := by decide +kernel
theorem dL_law_585 : decode cL_law 585 = .ok (.iconst 2, 1) := by decide +kernel
theorem dL_law_586 : decode cL_law 586 = .ok (.iadd, 1) := by decide +kernel
theorem dL_law_587 : decode cL_law 587 = .ok (.iaload, 1) := by decide +kernel
theorem dL_law_588 : decode cL_law 588 = .ok (.aload_n 0, 1) := by decide +kernel
theorem dL_law_589 : decode cL_law 589 = .ok (.iload_n 3, 1) := by decide +kernel
theorem dL_law_590 : decode cL_law 590 = .ok (.iconst 3, 1) := by decide +kernel
theorem dL_law_591 : decode cL_law 591 = .ok (.iadd, 1) := by decide +kernel
theorem dL_law_592 : decode cL_law 592 = .ok (.iaload, 1) := by decide +kernel
theorem dL_law_593 : decode cL_law 593 = .ok (.invokevirtual 78, 3) := by decide +kernel
theorem dL_law_596 : decode cL_law 596 = .ok (.aload_n 2, 1) := by decide +kernel
theorem dL_law_597 : decode cL_law 597 = .ok (.aload_n 0, 1) := by decide +kernel
theorem dL_law_598 : decode cL_law 598 = .ok (.iload_n 3, 1) := by decide +kernel
theorem dL_law_599 : decode cL_law 599 = .ok (.iconst 1, 1) := by decide +kernel
theorem dL_law_600 : decode cL_law 600 = .ok (.iadd, 1) := by decide +kernel
theorem dL_law_601 : decode cL_law 601 = .ok (.iaload, 1) := by decide +kernel
theorem dL_law_602 : decode cL_law 602 = .ok (.aload_n 0, 1) := by decide +kernel
theorem dL_law_603 : decode cL_law 603 = .ok (.iload_n 3, 1) := by decide +kernel
theorem dL_law_604 : decode cL_law 604 = .ok (.iconst 2, 1) := by decide +kernel
theorem dL_law_605 : decode cL_law 605 = .ok (.iadd, 1) := by decide +kernel
theorem dL_law_606 : decode cL_law 606 = .ok (.iaload, 1) := by decide +kernel
theorem dL_law_607 : decode cL_law 607 = .ok (.aload_n 0, 1) := by decide +kernel
theorem dL_law_608 : decode cL_law 608 = .ok (.iload_n 3, 1) := by decide +kernel
theorem dL_law_609 : decode cL_law 609 = .ok (.iconst 3, 1) := by decide +kernel
theorem dL_law_610 : decode cL_law 610 = .ok (.iadd, 1) := by decide +kernel
theorem dL_law_611 : decode cL_law 611 = .ok (.iaload, 1) := by decide +kernel
theorem dL_law_612 : decode cL_law 612 = .ok (.invokevirtual 81, 3) := by decide +kernel
theorem dL_law_615 : decode cL_law 615 = .ok (.if_icmp .eq 308, 3) := by decide +kernel
theorem dL_law_618 : decode cL_law 618 = .ok (.iconst 0, 1) := by decide +kernel
theorem dL_law_619 : decode cL_law 619 = .ok (.ireturn, 1) := by decide +kernel
theorem dL_law_620 : decode cL_law 620 = .ok (.aload_n 1, 1) := by decide +kernel
theorem dL_law_621 : decode cL_law 621 = .ok (.aload_n 0, 1) := by decide +kernel
theorem dL_law_622 : decode cL_law 622 = .ok (.iload_n 3, 1) := by decide +kernel
theorem dL_law_623 : decode cL_law 623 = .ok (.iconst 1, 1) := by decide +kernel
theorem dL_law_624 : decode cL_law 624 = .ok (.iadd, 1) := by decide +kernel
theorem dL_law_625 : decode cL_law 625 = .ok (.iaload, 1) := by decide +kernel
theorem dL_law_626 : decode cL_law 626 = .ok (.invokevirtual 82, 3) := by decide +kernel
theorem dL_law_629 : decode cL_law 629 = .ok (.aload_n 2, 1) := by decide +kernel
theorem dL_law_630 : decode cL_law 630 = .ok (.aload_n 0, 1) := by decide +kernel
theorem dL_law_631 : decode cL_law 631 = .ok (.iload_n 3, 1) := by decide +kernel
theorem dL_law_632 : decode cL_law 632 = .ok (.iconst 1, 1) := by decide +kernel
theorem dL_law_633 : decode cL_law 633 = .ok (.iadd, 1) := by decide +kernel
theorem dL_law_634 : decode cL_law 634 = .ok (.iaload, 1) := by decide +kernel
theorem dL_law_635 : decode cL_law 635 = .ok (.invokevirtual 85, 3) := by decide +kernel
theorem dL_law_638 : decode cL_law 638 = .ok (.if_icmp .eq 285, 3) := by decide +kernel
theorem dL_law_641 : decode cL_law 641 = .ok (.iconst 0, 1) := by decide +kernel
theorem dL_law_642 : decode cL_law 642 = .ok (.ireturn, 1) := by decide +kernel
theorem dL_law_643 : decode cL_law 643 = .ok (.aload_n 1, 1) := by decide +kernel
theorem dL_law_644 : decode cL_law 644 = .ok (.aload_n 0, 1) := by decide +kernel
theorem dL_law_645 : decode cL_law 645 = .ok (.iload_n 3, 1) := by decide +kernel
theorem dL_law_646 : decode cL_law 646 = .ok (.iconst 1, 1) := by decide +kernel
theorem dL_law_647 : decode cL_law 647 = .ok (.iadd, 1) := by decide +kernel
theorem dL_law_648 : decode cL_law 648 = .ok (.iaload, 1) := by decide +kernel
theorem dL_law_649 : decode cL_law 649 = .ok (.aload_n 0, 1) := by decide +kernel
theorem dL_law_650 : decode cL_law 650 = .ok (.iload_n 3, 1) := by decide +kernel
theorem dL_law_651 : decode cL_law 651 = .ok (.iconst 2, 1) := by decide +kernel
theorem dL_law_652 : decode cL_law 652 = .ok (.iadd, 1) := by decide +kernel
theorem dL_law_653 : decode cL_law 653 = .ok (.iaload, 1) := by decide +kernel
theorem dL_law_654 : decode cL_law 654 = .ok (.aload_n 0, 1) := by decide +kernel
theorem dL_law_655 : decode cL_law 655 = .ok (.iload_n 3, 1) := by decide +kernel
theorem dL_law_656 : decode cL_law 656 = .ok (.iconst 3, 1) := by decide +kernel
theorem dL_law_657 : decode cL_law 657 = .ok (.iadd, 1) := by decide +kernel
theorem dL_law_658 : decode cL_law 658 = .ok (.iaload, 1) := by decide +kernel
theorem dL_law_659 : decode cL_law 659 = .ok (.aload_n 0, 1) := by decide +kernel
theorem dL_law_660 : decode cL_law 660 = .ok (.iload_n 3, 1) := by decide +kernel
theorem dL_law_661 : decode cL_law 661 = .ok (.iconst 4, 1) := by decide +kernel
theorem dL_law_662 : decode cL_law 662 = .ok (.iadd, 1) := by decide +kernel
theorem dL_law_663 : decode cL_law 663 = .ok (.iaload, 1) := by decide +kernel
theorem dL_law_664 : decode cL_law 664 = .ok (.aload_n 0, 1) := by decide +kernel
theorem dL_law_665 : decode cL_law 665 = .ok (.iload_n 3, 1) := by decide +kernel
theorem dL_law_666 : decode cL_law 666 = .ok (.iconst 5, 1) := by decide +kernel
theorem dL_law_667 : decode cL_law 667 = .ok (.iadd, 1) := by decide +kernel
theorem dL_law_668 : decode cL_law 668 = .ok (.iaload, 1) := by decide +kernel
theorem dL_law_669 : decode cL_law 669 = .ok (.aload_n 0, 1) := by decide +kernel
theorem dL_law_670 : decode cL_law 670 = .ok (.iload_n 3, 1) := by decide +kernel
theorem dL_law_671 : decode cL_law 671 = .ok (.bipush 6, 2) := by decide +kernel
theorem dL_law_673 : decode cL_law 673 = .ok (.iadd, 1) := by decide +kernel
theorem dL_law_674 : decode cL_law 674 = .ok (.iaload, 1) := by decide +kernel
theorem dL_law_675 : decode cL_law 675 = .ok (.invokevirtual 86, 3) := by decide +kernel
theorem dL_law_678 : decode cL_law 678 = .ok (.aload_n 2, 1) := by decide +kernel
theorem dL_law_679 : decode cL_law 679 = .ok (.aload_n 0, 1) := by decide +kernel
theorem dL_law_680 : decode cL_law 680 = .ok (.iload_n 3, 1) := by decide +kernel
theorem dL_law_681 : decode cL_law 681 = .ok (.iconst 1, 1) := by decide +kernel
theorem dL_law_682 : decode cL_law 682 = .ok (.iadd, 1) := by decide +kernel
theorem dL_law_683 : decode cL_law 683 = .ok (.iaload, 1) := by decide +kernel
theorem dL_law_684 : decode cL_law 684 = .ok (.aload_n 0, 1) := by decide +kernel
theorem dL_law_685 : decode cL_law 685 = .ok (.iload_n 3, 1) := by decide +kernel
theorem dL_law_686 : decode cL_law 686 = .ok (.iconst 2, 1) := by decide +kernel
theorem dL_law_687 : decode cL_law 687 = .ok (.iadd, 1) := by decide +kernel
theorem dL_law_688 : decode cL_law 688 = .ok (.iaload, 1) := by decide +kernel
theorem dL_law_689 : decode cL_law 689 = .ok (.aload_n 0, 1) := by decide +kernel
theorem dL_law_690 : decode cL_law 690 = .ok (.iload_n 3, 1) := by decide +kernel
theorem dL_law_691 : decode cL_law 691 = .ok (.iconst 3, 1) := by decide +kernel
theorem dL_law_692 : decode cL_law 692 = .ok (.iadd, 1) := by decide +kernel
theorem dL_law_693 : decode cL_law 693 = .ok (.iaload, 1) := by decide +kernel
theorem dL_law_694 : decode cL_law 694 = .ok (.aload_n 0, 1) := by decide +kernel
theorem dL_law_695 : decode cL_law 695 = .ok (.iload_n 3, 1) := by decide +kernel
theorem dL_law_696 : decode cL_law 696 = .ok (.iconst 4, 1) := by decide +kernel
theorem dL_law_697 : decode cL_law 697 = .ok (.iadd, 1) := by decide +kernel
theorem dL_law_698 : decode cL_law 698 = .ok (.iaload, 1) := by decide +kernel
theorem dL_law_699 : decode cL_law 699 = .ok (.aload_n 0, 1) := by decide +kernel
theorem dL_law_700 : decode cL_law 700 = .ok (.iload_n 3, 1) := by decide +kernel
theorem dL_law_701 : decode cL_law 701 = .ok (.iconst 5, 1) := by decide +kernel
theorem dL_law_702 : decode cL_law 702 = .ok (.iadd, 1) := by decide +kernel
theorem dL_law_703 : decode cL_law 703 = .ok (.iaload, 1) := by decide +kernel
theorem dL_law_704 : decode cL_law 704 = .ok (.aload_n 0, 1) := by decide +kernel
theorem dL_law_705 : decode cL_law 705 = .ok (.iload_n 3, 1) := by decide +kernel
theorem dL_law_706 : decode cL_law 706 = .ok (.bipush 6, 2) := by decide +kernel
theorem dL_law_708 : decode cL_law 708 = .ok (.iadd, 1) := by decide +kernel
theorem dL_law_709 : decode cL_law 709 = .ok (.iaload, 1) := by decide +kernel
theorem dL_law_710 : decode cL_law 710 = .ok (.invokevirtual 90, 3) := by decide +kernel
theorem dL_law_713 : decode cL_law 713 = .ok (.if_icmp .eq 210, 3) := by decide +kernel
theorem dL_law_716 : decode cL_law 716 = .ok (.iconst 0, 1) := by decide +kernel
theorem dL_law_717 : decode cL_law 717 = .ok (.ireturn, 1) := by decide +kernel
theorem dL_law_718 : decode cL_law 718 = .ok (.aload_n 1, 1) := by decide +kernel
theorem dL_law_719 : decode cL_law 719 = .ok (.aload_n 0, 1) := by decide +kernel
theorem dL_law_720 : decode cL_law 720 = .ok (.iload_n 3, 1) := by decide +kernel
theorem dL_law_721 : decode cL_law 721 = .ok (.iconst 1, 1) := by decide +kernel
theorem dL_law_722 : decode cL_law 722 = .ok (.iadd, 1) := by decide +kernel
theorem dL_law_723 : decode cL_law 723 = .ok (.iaload, 1) := by decide +kernel
theorem dL_law_724 : decode cL_law 724 = .ok (.aload_n 0, 1) := by decide +kernel
theorem dL_law_725 : decode cL_law 725 = .ok (.iload_n 3, 1) := by decide +kernel
theorem dL_law_726 : decode cL_law 726 = .ok (.iconst 2, 1) := by decide +kernel
theorem dL_law_727 : decode cL_law 727 = .ok (.iadd, 1) := by decide +kernel
theorem dL_law_728 : decode cL_law 728 = .ok (.iaload, 1) := by decide +kernel
theorem dL_law_729 : decode cL_law 729 = .ok (.aload_n 0, 1) := by decide +kernel
theorem dL_law_730 : decode cL_law 730 = .ok (.iload_n 3, 1) := by decide +kernel
theorem dL_law_731 : decode cL_law 731 = .ok (.iconst 3, 1) := by decide +kernel
theorem dL_law_732 : decode cL_law 732 = .ok (.iadd, 1) := by decide +kernel
theorem dL_law_733 : decode cL_law 733 = .ok (.iaload, 1) := by decide +kernel
theorem dL_law_734 : decode cL_law 734 = .ok (.aload_n 0, 1) := by decide +kernel
theorem dL_law_735 : decode cL_law 735 = .ok (.iload_n 3, 1) := by decide +kernel
theorem dL_law_736 : decode cL_law 736 = .ok (.iconst 4, 1) := by decide +kernel
theorem dL_law_737 : decode cL_law 737 = .ok (.iadd, 1) := by decide +kernel
theorem dL_law_738 : decode cL_law 738 = .ok (.iaload, 1) := by decide +kernel
theorem dL_law_739 : decode cL_law 739 = .ok (.invokevirtual 91, 3) := by decide +kernel
theorem dL_law_742 : decode cL_law 742 = .ok (.aload_n 2, 1) := by decide +kernel
theorem dL_law_743 : decode cL_law 743 = .ok (.aload_n 0, 1) := by decide +kernel
theorem dL_law_744 : decode cL_law 744 = .ok (.iload_n 3, 1) := by decide +kernel
theorem dL_law_745 : decode cL_law 745 = .ok (.iconst 1, 1) := by decide +kernel
theorem dL_law_746 : decode cL_law 746 = .ok (.iadd, 1) := by decide +kernel
theorem dL_law_747 : decode cL_law 747 = .ok (.iaload, 1) := by decide +kernel
theorem dL_law_748 : decode cL_law 748 = .ok (.aload_n 0, 1) := by decide +kernel
theorem dL_law_749 : decode cL_law 749 = .ok (.iload_n 3, 1) := by decide +kernel
theorem dL_law_750 : decode cL_law 750 = .ok (.iconst 2, 1) := by decide +kernel
theorem dL_law_751 : decode cL_law 751 = .ok (.iadd, 1) := by decide +kernel
theorem dL_law_752 : decode cL_law 752 = .ok (.iaload, 1) := by decide +kernel
theorem dL_law_753 : decode cL_law 753 = .ok (.aload_n 0, 1) := by decide +kernel
theorem dL_law_754 : decode cL_law 754 = .ok (.iload_n 3, 1) := by decide +kernel
theorem dL_law_755 : decode cL_law 755 = .ok (.iconst 3, 1) := by decide +kernel
theorem dL_law_756 : decode cL_law 756 = .ok (.iadd, 1) := by decide +kernel
theorem dL_law_757 : decode cL_law 757 = .ok (.iaload, 1) := by decide +kernel
theorem dL_law_758 : decode cL_law 758 = .ok (.aload_n 0, 1) := by decide +kernel
theorem dL_law_759 : decode cL_law 759 = .ok (.iload_n 3, 1) := by decide +kernel
theorem dL_law_760 : decode cL_law 760 = .ok (.iconst 4, 1) := by decide +kernel
theorem dL_law_761 : decode cL_law 761 = .ok (.iadd, 1) := by decide +kernel
theorem dL_law_762 : decode cL_law 762 = .ok (.iaload, 1) := by decide +kernel
theorem dL_law_763 : decode cL_law 763 = .ok (.invokevirtual 94, 3) := by decide +kernel
theorem dL_law_766 : decode cL_law 766 = .ok (.if_icmp .eq 157, 3) := by decide +kernel
theorem dL_law_769 : decode cL_law 769 = .ok (.iconst 0, 1) := by decide +kernel
theorem dL_law_770 : decode cL_law 770 = .ok (.ireturn, 1) := by decide +kernel
theorem dL_law_771 : decode cL_law 771 = .ok (.aload_n 1, 1) := by decide +kernel
theorem dL_law_772 : decode cL_law 772 = .ok (.invokevirtual 95, 3) := by decide +kernel
theorem dL_law_775 : decode cL_law 775 = .ok (.aload_n 2, 1) := by decide +kernel
theorem dL_law_776 : decode cL_law 776 = .ok (.invokevirtual 98, 3) := by decide +kernel
theorem dL_law_779 : decode cL_law 779 = .ok (.if_icmp .eq 144, 3) := by decide +kernel
theorem dL_law_782 : decode cL_law 782 = .ok (.iconst 0, 1) := by decide +kernel
theorem dL_law_783 : decode cL_law 783 = .ok (.ireturn, 1) := by decide +kernel
theorem dL_law_784 : decode cL_law 784 = .ok (.aload_n 1, 1) := by decide +kernel
theorem dL_law_785 : decode cL_law 785 = .ok (.aload_n 0, 1) := by decide +kernel
theorem dL_law_786 : decode cL_law 786 = .ok (.iload_n 3, 1) := by decide +kernel
theorem dL_law_787 : decode cL_law 787 = .ok (.iconst 1, 1) := by decide +kernel
theorem dL_law_788 : decode cL_law 788 = .ok (.iadd, 1) := by decide +kernel
theorem dL_law_789 : decode cL_law 789 = .ok (.iaload, 1) := by decide +kernel
theorem dL_law_790 : decode cL_law 790 = .ok (.invokevirtual 99, 3) := by decide +kernel
theorem dL_law_793 : decode cL_law 793 = .ok (.aload_n 2, 1) := by decide +kernel
theorem dL_law_794 : decode cL_law 794 = .ok (.aload_n 0, 1) := by decide +kernel
theorem dL_law_795 : decode cL_law 795 = .ok (.iload_n 3, 1) := by decide +kernel
theorem dL_law_796 : decode cL_law 796 = .ok (.iconst 1, 1) := by decide +kernel
theorem dL_law_797 : decode cL_law 797 = .ok (.iadd, 1) := by decide +kernel
theorem dL_law_798 : decode cL_law 798 = .ok (.iaload, 1) := by decide +kernel
theorem dL_law_799 : decode cL_law 799 = .ok (.invokevirtual 102, 3) := by decide +kernel
theorem dL_law_802 : decode cL_law 802 = .ok (.if_icmp .eq 121, 3) := by decide +kernel
theorem dL_law_805 : decode cL_law 805 = .ok (.iconst 0, 1) := by decide +kernel
theorem dL_law_806 : decode cL_law 806 = .ok (.ireturn, 1) := by decide +kernel
theorem dL_law_807 : decode cL_law 807 = .ok (.aload_n 1, 1) := by decide +kernel
theorem dL_law_808 : decode cL_law 808 = .ok (.aload_n 0, 1) := by decide +kernel
theorem dL_law_809 : decode cL_law 809 = .ok (.iload_n 3, 1) := by decide +kernel
theorem dL_law_810 : decode cL_law 810 = .ok (.iconst 1, 1) := by decide +kernel
theorem dL_law_811 : decode cL_law 811 = .ok (.iadd, 1) := by decide +kernel
theorem dL_law_812 : decode cL_law 812 = .ok (.iaload, 1) := by decide +kernel
theorem dL_law_813 : decode cL_law 813 = .ok (.aload_n 0, 1) := by decide +kernel
theorem dL_law_814 : decode cL_law 814 = .ok (.iload_n 3, 1) := by decide +kernel
theorem dL_law_815 : decode cL_law 815 = .ok (.iconst 2, 1) := by decide +kernel
theorem dL_law_816 : decode cL_law 816 = .ok (.iadd, 1) := by decide +kernel
theorem dL_law_817 : decode cL_law 817 = .ok (.iaload, 1) := by decide +kernel
theorem dL_law_818 : decode cL_law 818 = .ok (.invokevirtual 103, 3) := by decide +kernel
theorem dL_law_821 : decode cL_law 821 = .ok (.aload_n 2, 1) := by decide +kernel
theorem dL_law_822 : decode cL_law 822 = .ok (.aload_n 0, 1) := by decide +kernel
theorem dL_law_823 : decode cL_law 823 = .ok (.iload_n 3, 1) := by decide +kernel
theorem dL_law_824 : decode cL_law 824 = .ok (.iconst 1, 1) := by decide +kernel
theorem dL_law_825 : decode cL_law 825 = .ok (.iadd, 1) := by decide +kernel
theorem dL_law_826 : decode cL_law 826 = .ok (.iaload, 1) := by decide +kernel
theorem dL_law_827 : decode cL_law 827 = .ok (.aload_n 0, 1) := by decide +kernel
theorem dL_law_828 : decode cL_law 828 = .ok (.iload_n 3, 1) := by decide +kernel
theorem dL_law_829 : decode cL_law 829 = .ok (.iconst 2, 1) := by decide +kernel
theorem dL_law_830 : decode cL_law 830 = .ok (.iadd, 1) := by decide +kernel
theorem dL_law_831 : decode cL_law 831 = .ok (.iaload, 1) := by decide +kernel
theorem dL_law_832 : decode cL_law 832 = .ok (.invokevirtual 106, 3) := by decide +kernel
theorem dL_law_835 : decode cL_law 835 = .ok (.if_icmp .eq 88, 3) := by decide +kernel
theorem dL_law_838 : decode cL_law 838 = .ok (.iconst 0, 1) := by decide +kernel
theorem dL_law_839 : decode cL_law 839 = .ok (.ireturn, 1) := by decide +kernel
theorem dL_law_840 : decode cL_law 840 = .ok (.aload_n 1, 1) := by decide +kernel
theorem dL_law_841 : decode cL_law 841 = .ok (.aload_n 0, 1) := by decide +kernel
theorem dL_law_842 : decode cL_law 842 = .ok (.iload_n 3, 1) := by decide +kernel
theorem dL_law_843 : decode cL_law 843 = .ok (.iconst 1, 1) := by decide +kernel
theorem dL_law_844 : decode cL_law 844 = .ok (.iadd, 1) := by decide +kernel
theorem dL_law_845 : decode cL_law 845 = .ok (.iaload, 1) := by decide +kernel
theorem dL_law_846 : decode cL_law 846 = .ok (.invokevirtual 107, 3) := by decide +kernel
theorem dL_law_849 : decode cL_law 849 = .ok (.aload_n 2, 1) := by decide +kernel
theorem dL_law_850 : decode cL_law 850 = .ok (.aload_n 0, 1) := by decide +kernel
theorem dL_law_851 : decode cL_law 851 = .ok (.iload_n 3, 1) := by decide +kernel
theorem dL_law_852 : decode cL_law 852 = .ok (.iconst 1, 1) := by decide +kernel
theorem dL_law_853 : decode cL_law 853 = .ok (.iadd, 1) := by decide +kernel
theorem dL_law_854 : decode cL_law 854 = .ok (.iaload, 1) := by decide +kernel
theorem dL_law_855 : decode cL_law 855 = .ok (.invokevirtual 110, 3) := by decide +kernel
theorem dL_law_858 : decode cL_law 858 = .ok (.if_icmp .eq 65, 3) := by decide +kernel
theorem dL_law_861 : decode cL_law 861 = .ok (.iconst 0, 1) := by decide +kernel
theorem dL_law_862 : decode cL_law 862 = .ok (.ireturn, 1) := by decide +kernel
theorem dL_law_863 : decode cL_law 863 = .ok (.aload_n 1, 1) := by decide +kernel
theorem dL_law_864 : decode cL_law 864 = .ok (.aload_n 0, 1) := by decide +kernel
theorem dL_law_865 : decode cL_law 865 = .ok (.iload_n 3, 1) := by decide +kernel
theorem dL_law_866 : decode cL_law 866 = .ok (.iconst 1, 1) := by decide +kernel
theorem dL_law_867 : decode cL_law 867 = .ok (.iadd, 1) := by decide +kernel
theorem dL_law_868 : decode cL_law 868 = .ok (.iaload, 1) := by decide +kernel
theorem dL_law_869 : decode cL_law 869 = .ok (.invokevirtual 111, 3) := by decide +kernel
theorem dL_law_872 : decode cL_law 872 = .ok (.aload_n 2, 1) := by decide +kernel
theorem dL_law_873 : decode cL_law 873 = .ok (.aload_n 0, 1) := by decide +kernel
theorem dL_law_874 : decode cL_law 874 = .ok (.iload_n 3, 1) := by decide +kernel
theorem dL_law_875 : decode cL_law 875 = .ok (.iconst 1, 1) := by decide +kernel
theorem dL_law_876 : decode cL_law 876 = .ok (.iadd, 1) := by decide +kernel
theorem dL_law_877 : decode cL_law 877 = .ok (.iaload, 1) := by decide +kernel
theorem dL_law_878 : decode cL_law 878 = .ok (.invokevirtual 114, 3) := by decide +kernel
theorem dL_law_881 : decode cL_law 881 = .ok (.if_icmp .eq 42, 3) := by decide +kernel
theorem dL_law_884 : decode cL_law 884 = .ok (.iconst 0, 1) := by decide +kernel
theorem dL_law_885 : decode cL_law 885 = .ok (.ireturn, 1) := by decide +kernel
theorem dL_law_886 : decode cL_law 886 = .ok (.aload_n 1, 1) := by decide +kernel
theorem dL_law_887 : decode cL_law 887 = .ok (.aload_n 0, 1) := by decide +kernel
theorem dL_law_888 : decode cL_law 888 = .ok (.iload_n 3, 1) := by decide +kernel
theorem dL_law_889 : decode cL_law 889 = .ok (.iconst 1, 1) := by decide +kernel
theorem dL_law_890 : decode cL_law 890 = .ok (.iadd, 1) := by decide +kernel
theorem dL_law_891 : decode cL_law 891 = .ok (.iaload, 1) := by decide +kernel
theorem dL_law_892 : decode cL_law 892 = .ok (.invokevirtual 115, 3) := by decide +kernel
theorem dL_law_895 : decode cL_law 895 = .ok (.aload_n 2, 1) := by decide +kernel
theorem dL_law_896 : decode cL_law 896 = .ok (.aload_n 0, 1) := by decide +kernel
theorem dL_law_897 : decode cL_law 897 = .ok (.iload_n 3, 1) := by decide +kernel
theorem dL_law_898 : decode cL_law 898 = .ok (.iconst 1, 1) := by decide +kernel
theorem dL_law_899 : decode cL_law 899 = .ok (.iadd, 1) := by decide +kernel
theorem dL_law_900 : decode cL_law 900 = .ok (.iaload, 1) := by decide +kernel
theorem dL_law_901 : decode cL_law 901 = .ok (.invokevirtual 118, 3) := by decide +kernel
theorem dL_law_904 : decode cL_law 904 = .ok (.if_icmp .eq 19, 3) := by decide +kernel
theorem dL_law_907 : decode cL_law 907 = .ok (.iconst 0, 1) := by decide +kernel
theorem dL_law_908 : decode cL_law 908 = .ok (.ireturn, 1) := by decide +kernel
theorem dL_law_909 : decode cL_law 909 = .ok (.aload_n 1, 1) := by decide +kernel
theorem dL_law_910 : decode cL_law 910 = .ok (.invokevirtual 119, 3) := by decide +kernel
theorem dL_law_913 : decode cL_law 913 = .ok (.aload_n 2, 1) := by decide +kernel
theorem dL_law_914 : decode cL_law 914 = .ok (.invokevirtual 123, 3) := by decide +kernel
theorem dL_law_917 : decode cL_law 917 = .ok (.lcmp, 1) := by decide +kernel
theorem dL_law_918 : decode cL_law 918 = .ok (.ifCond .eq 5, 3) := by decide +kernel
theorem dL_law_921 : decode cL_law 921 = .ok (.iconst 0, 1) := by decide +kernel
theorem dL_law_922 : decode cL_law 922 = .ok (.ireturn, 1) := by decide +kernel
theorem dL_law_923 : decode cL_law 923 = .ok (.iinc 3 7, 3) := by decide +kernel
theorem dL_law_926 : decode cL_law 926 = .ok (.goto (-908), 3) := by decide +kernel
theorem dL_law_929 : decode cL_law 929 = .ok (.iconst 1, 1) := by decide +kernel
theorem dL_law_930 : decode cL_law 930 = .ok (.ireturn, 1) := by decide +kernel
end
section
/-- the words that every method's contract begins from: all good words of the tables -/
def GG : List Cond := lw_tbl.filter goodWord
theorem gg_t {w : Cond} (i : Nat) (h : tables_1[i]? = some w) (hg : goodWord w = true) : w ∈ GG := List.mem_filter.mpr ⟨List.mem_append_right _ (List.mem_of_getElem? h), hg⟩
theorem gg_s {w : Cond} (i : Nat) (h : (k2_sels lw_privs)[i]? = some w) (hg : goodWord w = true) : w ∈ GG := List.mem_filter.mpr ⟨List.mem_append_left _ (List.mem_of_getElem? h), hg⟩
theorem gg_good {w : Cond} (h : w ∈ GG) : (w.onTables && w.keeps) = true ∨ ∃ ty, w = .arrayClass ty := good_of_word (List.mem_filter.mp h).2
theorem gg_lw {w : Cond} (h : w ∈ GG) : w ∈ lw_tbl := (List.mem_filter.mp h).1
theorem mw_0 : Cond.initialized RL ∈ GG := gg_t 0 (by decide +kernel) rfl
theorem mw_1 : Cond.initialized RX8 ∈ GG := gg_t 1 (by decide +kernel) rfl
theorem mw_2 : Cond.initialized RX6 ∈ GG := gg_t 2 (by decide +kernel) rfl
theorem mw_3 : Cond.initialized RX4 ∈ GG := gg_t 3 (by decide +kernel) rfl
theorem mw_4 : Cond.initialized RX2 ∈ GG := gg_t 4 (by decide +kernel) rfl
theorem mw_5 : Cond.initialized RX1 ∈ GG := gg_t 5 (by decide +kernel) rfl
theorem mw_6 : Cond.initialized RX0 ∈ GG := gg_t 6 (by decide +kernel) rfl
theorem mw_7 : Cond.initialized RX3 ∈ GG := gg_t 7 (by decide +kernel) rfl
theorem mw_8 : Cond.initialized RX7 ∈ GG := gg_t 8 (by decide +kernel) rfl
theorem mw_9 : Cond.initialized RX5 ∈ GG := gg_t 9 (by decide +kernel) rfl
theorem mw_10 : Cond.initialized RX9 ∈ GG := gg_t 10 (by decide +kernel) rfl
theorem mw_11 : Cond.initialized RJ7 ∈ GG := gg_t 11 (by decide +kernel) rfl
theorem mw_12 : Cond.initialized RJ9 ∈ GG := gg_t 12 (by decide +kernel) rfl
theorem mw_13 : Cond.initialized RJ10 ∈ GG := gg_t 13 (by decide +kernel) rfl
theorem mw_14 : Cond.initialized RJ6 ∈ GG := gg_t 14 (by decide +kernel) rfl
theorem mw_15 : Cond.classLink RL 7 RX8 ∈ GG := gg_t 15 (by decide +kernel) rfl
theorem mw_16 : Cond.instantiable RX8 12 ∈ GG := gg_t 16 (by decide +kernel) rfl
theorem mw_17 : Cond.methodLink RL 9 yX8_init ∈ GG := gg_t 17 (by decide +kernel) rfl
theorem mw_18 : Cond.instanceMethod yX8_init ∈ GG := gg_t 18 (by decide +kernel) rfl
theorem mw_19 : Cond.code yX8_init cX8_init 1 none ∈ GG := gg_t 19 (by decide +kernel) rfl
theorem mw_20 : Cond.methodLink RX8 1 objectInit ∈ GG := gg_t 20 (by decide +kernel) rfl
theorem mw_21 : Cond.instanceMethod objectInit ∈ GG := gg_t 21 (by decide +kernel) rfl
theorem mw_22 : Cond.code objectInit ⟨#[0xb1]⟩ 1 none ∈ GG := gg_t 22 (by decide +kernel) rfl
theorem mw_23 : Cond.classLink RX8 7 RX6 ∈ GG := gg_t 23 (by decide +kernel) rfl
theorem mw_24 : Cond.instantiable RX6 6 ∈ GG := gg_t 24 (by decide +kernel) rfl
theorem mw_26 : Cond.instanceMethod yX6_init ∈ GG := gg_t 26 (by decide +kernel) rfl
theorem mw_27 : Cond.code yX6_init cX6_init 1 none ∈ GG := gg_t 27 (by decide +kernel) rfl
theorem mw_28 : Cond.methodLink RX6 3 objectInit ∈ GG := gg_t 28 (by decide +kernel) rfl
theorem mw_29 : Cond.fieldLink RX6 9 "WellKnots$Text" "bytes" "[I" ∈ GG := gg_t 29 (by decide +kernel) rfl
theorem mw_30 : Cond.fieldLink RX6 15 "WellKnots$Text" "length" "I" ∈ GG := gg_t 30 (by decide +kernel) rfl
theorem mw_31 : Cond.fieldLink RX6 19 "WellKnots$Text" "next" "I" ∈ GG := gg_t 31 (by decide +kernel) rfl
theorem mw_32 : Cond.fieldLink RX6 22 "WellKnots$Text" "kind" "I" ∈ GG := gg_t 32 (by decide +kernel) rfl
theorem mw_33 : Cond.fieldLink RX6 25 "WellKnots$Text" "place" "I" ∈ GG := gg_t 33 (by decide +kernel) rfl
theorem mw_34 : Cond.fieldLink RX6 28 "WellKnots$Text" "value" "I" ∈ GG := gg_t 34 (by decide +kernel) rfl
theorem mw_35 : Cond.laysFinal "WellKnots$Text" "WellKnots$Text" "bytes" "[I" ∈ GG := gg_t 35 (by decide +kernel) rfl
theorem mw_37 : Cond.lays "WellKnots$Text" "WellKnots$Text" "length" "I" ∈ GG := gg_t 37 (by decide +kernel) rfl
theorem mw_39 : Cond.lays "WellKnots$Text" "WellKnots$Text" "next" "I" ∈ GG := gg_t 39 (by decide +kernel) rfl
theorem mw_41 : Cond.lays "WellKnots$Text" "WellKnots$Text" "kind" "I" ∈ GG := gg_t 41 (by decide +kernel) rfl
theorem mw_43 : Cond.lays "WellKnots$Text" "WellKnots$Text" "place" "I" ∈ GG := gg_t 43 (by decide +kernel) rfl
theorem mw_45 : Cond.lays "WellKnots$Text" "WellKnots$Text" "value" "I" ∈ GG := gg_t 45 (by decide +kernel) rfl
theorem mw_48 : Cond.arrayClass .int ∈ GG := gg_t 48 (by decide +kernel) rfl
theorem mw_49 : Cond.classLink RX8 16 RX4 ∈ GG := gg_t 49 (by decide +kernel) rfl
theorem mw_50 : Cond.instantiable RX4 12 ∈ GG := gg_t 50 (by decide +kernel) rfl
theorem mw_52 : Cond.instanceMethod yX4_init ∈ GG := gg_t 52 (by decide +kernel) rfl
theorem mw_53 : Cond.code yX4_init cX4_init 1 none ∈ GG := gg_t 53 (by decide +kernel) rfl
theorem mw_54 : Cond.methodLink RX4 3 objectInit ∈ GG := gg_t 54 (by decide +kernel) rfl
theorem mw_55 : Cond.classLink RX4 34 RX2 ∈ GG := gg_t 55 (by decide +kernel) rfl
theorem mw_56 : Cond.instantiable RX2 1 ∈ GG := gg_t 56 (by decide +kernel) rfl
theorem mw_58 : Cond.instanceMethod yX2_init ∈ GG := gg_t 58 (by decide +kernel) rfl
theorem mw_59 : Cond.code yX2_init cX2_init 1 none ∈ GG := gg_t 59 (by decide +kernel) rfl
theorem mw_60 : Cond.methodLink RX2 5 objectInit ∈ GG := gg_t 60 (by decide +kernel) rfl
theorem mw_61 : Cond.fieldLink RX2 11 "WellKnots$Moment" "row" "[I" ∈ GG := gg_t 61 (by decide +kernel) rfl
theorem mw_62 : Cond.laysFinal "WellKnots$Moment" "WellKnots$Moment" "row" "[I" ∈ GG := gg_t 62 (by decide +kernel) rfl
theorem mw_65 : Cond.arrayClass .boolean ∈ GG := gg_t 65 (by decide +kernel) rfl
theorem mw_66 : Cond.fieldLink RX4 44 "WellKnots$Road" "wells" "I" ∈ GG := gg_t 66 (by decide +kernel) rfl
theorem mw_70 : Cond.fieldLink RX4 48 "WellKnots$Road" "stages" "I" ∈ GG := gg_t 70 (by decide +kernel) rfl
theorem mw_72 : Cond.fieldLink RX4 51 "WellKnots$Road" "caravans" "I" ∈ GG := gg_t 72 (by decide +kernel) rfl
theorem mw_74 : Cond.fieldLink RX4 9 "WellKnots$Road" "refuses" "[Z" ∈ GG := gg_t 74 (by decide +kernel) rfl
theorem mw_75 : Cond.fieldLink RX4 15 "WellKnots$Road" "firstEnds" "[I" ∈ GG := gg_t 75 (by decide +kernel) rfl
theorem mw_76 : Cond.fieldLink RX4 19 "WellKnots$Road" "secondEnds" "[I" ∈ GG := gg_t 76 (by decide +kernel) rfl
theorem mw_77 : Cond.fieldLink RX4 22 "WellKnots$Road" "heats" "[I" ∈ GG := gg_t 77 (by decide +kernel) rfl
theorem mw_78 : Cond.fieldLink RX4 25 "WellKnots$Road" "nights" "[Z" ∈ GG := gg_t 78 (by decide +kernel) rfl
theorem mw_79 : Cond.fieldLink RX4 28 "WellKnots$Road" "lenders" "[I" ∈ GG := gg_t 79 (by decide +kernel) rfl
theorem mw_80 : Cond.fieldLink RX4 31 "WellKnots$Road" "bears" "[I" ∈ GG := gg_t 80 (by decide +kernel) rfl
theorem mw_81 : Cond.fieldLink RX4 37 "WellKnots$Road" "start" "LWellKnots$Moment;" ∈ GG := gg_t 81 (by decide +kernel) rfl
theorem mw_83 : Cond.fieldLink RX4 41 "WellKnots$Road" "said" "[I" ∈ GG := gg_t 83 (by decide +kernel) rfl
theorem mw_84 : Cond.lays "WellKnots$Road" "WellKnots$Road" "wells" "I" ∈ GG := gg_t 84 (by decide +kernel) rfl
theorem mw_86 : Cond.lays "WellKnots$Road" "WellKnots$Road" "stages" "I" ∈ GG := gg_t 86 (by decide +kernel) rfl
theorem mw_88 : Cond.lays "WellKnots$Road" "WellKnots$Road" "caravans" "I" ∈ GG := gg_t 88 (by decide +kernel) rfl
theorem mw_90 : Cond.laysFinal "WellKnots$Road" "WellKnots$Road" "refuses" "[Z" ∈ GG := gg_t 90 (by decide +kernel) rfl
theorem mw_92 : Cond.laysFinal "WellKnots$Road" "WellKnots$Road" "firstEnds" "[I" ∈ GG := gg_t 92 (by decide +kernel) rfl
theorem mw_94 : Cond.laysFinal "WellKnots$Road" "WellKnots$Road" "secondEnds" "[I" ∈ GG := gg_t 94 (by decide +kernel) rfl
theorem mw_96 : Cond.laysFinal "WellKnots$Road" "WellKnots$Road" "heats" "[I" ∈ GG := gg_t 96 (by decide +kernel) rfl
theorem mw_98 : Cond.laysFinal "WellKnots$Road" "WellKnots$Road" "nights" "[Z" ∈ GG := gg_t 98 (by decide +kernel) rfl
theorem mw_100 : Cond.laysFinal "WellKnots$Road" "WellKnots$Road" "lenders" "[I" ∈ GG := gg_t 100 (by decide +kernel) rfl
theorem mw_102 : Cond.laysFinal "WellKnots$Road" "WellKnots$Road" "bears" "[I" ∈ GG := gg_t 102 (by decide +kernel) rfl
theorem mw_104 : Cond.laysFinal "WellKnots$Road" "WellKnots$Road" "start" "LWellKnots$Moment;" ∈ GG := gg_t 104 (by decide +kernel) rfl
theorem mw_106 : Cond.laysFinal "WellKnots$Road" "WellKnots$Road" "said" "[I" ∈ GG := gg_t 106 (by decide +kernel) rfl
theorem mw_109 : Cond.classLink RX8 26 RX1 ∈ GG := gg_t 109 (by decide +kernel) rfl
theorem mw_110 : Cond.instantiable RX1 3 ∈ GG := gg_t 110 (by decide +kernel) rfl
theorem mw_112 : Cond.instanceMethod yX1_init ∈ GG := gg_t 112 (by decide +kernel) rfl
theorem mw_113 : Cond.code yX1_init cX1_init 1 none ∈ GG := gg_t 113 (by decide +kernel) rfl
theorem mw_114 : Cond.methodLink RX1 3 objectInit ∈ GG := gg_t 114 (by decide +kernel) rfl
theorem mw_115 : Cond.classLink RX1 9 RX2 ∈ GG := gg_t 115 (by decide +kernel) rfl
theorem mw_117 : Cond.fieldLink RX1 12 "WellKnots$Ledger" "now" "LWellKnots$Moment;" ∈ GG := gg_t 117 (by decide +kernel) rfl
theorem mw_119 : Cond.fieldLink RX1 18 "WellKnots$Ledger" "past" "[I" ∈ GG := gg_t 119 (by decide +kernel) rfl
theorem mw_120 : Cond.fieldLink RX1 26 "WellKnots$Ledger" "undos" "I" ∈ GG := gg_t 120 (by decide +kernel) rfl
theorem mw_122 : Cond.laysFinal "WellKnots$Ledger" "WellKnots$Ledger" "now" "LWellKnots$Moment;" ∈ GG := gg_t 122 (by decide +kernel) rfl
theorem mw_124 : Cond.laysFinal "WellKnots$Ledger" "WellKnots$Ledger" "past" "[I" ∈ GG := gg_t 124 (by decide +kernel) rfl
theorem mw_126 : Cond.lays "WellKnots$Ledger" "WellKnots$Ledger" "undos" "I" ∈ GG := gg_t 126 (by decide +kernel) rfl
theorem mw_129 : Cond.classLink RX8 39 RX0 ∈ GG := gg_t 129 (by decide +kernel) rfl
theorem mw_130 : Cond.instantiable RX0 3 ∈ GG := gg_t 130 (by decide +kernel) rfl
theorem mw_132 : Cond.instanceMethod yX0_init ∈ GG := gg_t 132 (by decide +kernel) rfl
theorem mw_133 : Cond.code yX0_init cX0_init 1 none ∈ GG := gg_t 133 (by decide +kernel) rfl
theorem mw_134 : Cond.methodLink RX0 3 objectInit ∈ GG := gg_t 134 (by decide +kernel) rfl
theorem mw_135 : Cond.fieldLink RX0 9 "WellKnots$Hearsay" "caravans" "[I" ∈ GG := gg_t 135 (by decide +kernel) rfl
theorem mw_136 : Cond.fieldLink RX0 15 "WellKnots$Hearsay" "stones" "[I" ∈ GG := gg_t 136 (by decide +kernel) rfl
theorem mw_137 : Cond.fieldLink RX0 18 "WellKnots$Hearsay" "size" "I" ∈ GG := gg_t 137 (by decide +kernel) rfl
theorem mw_139 : Cond.laysFinal "WellKnots$Hearsay" "WellKnots$Hearsay" "caravans" "[I" ∈ GG := gg_t 139 (by decide +kernel) rfl
theorem mw_141 : Cond.laysFinal "WellKnots$Hearsay" "WellKnots$Hearsay" "stones" "[I" ∈ GG := gg_t 141 (by decide +kernel) rfl
theorem mw_143 : Cond.lays "WellKnots$Hearsay" "WellKnots$Hearsay" "size" "I" ∈ GG := gg_t 143 (by decide +kernel) rfl
theorem mw_146 : Cond.classLink RX8 46 RX3 ∈ GG := gg_t 146 (by decide +kernel) rfl
theorem mw_147 : Cond.instantiable RX3 4 ∈ GG := gg_t 147 (by decide +kernel) rfl
theorem mw_149 : Cond.instanceMethod yX3_init ∈ GG := gg_t 149 (by decide +kernel) rfl
theorem mw_150 : Cond.code yX3_init cX3_init 1 none ∈ GG := gg_t 150 (by decide +kernel) rfl
theorem mw_151 : Cond.methodLink RX3 3 objectInit ∈ GG := gg_t 151 (by decide +kernel) rfl
theorem mw_152 : Cond.fieldLink RX3 9 "WellKnots$Ring" "ring" "[I" ∈ GG := gg_t 152 (by decide +kernel) rfl
theorem mw_153 : Cond.fieldLink RX3 15 "WellKnots$Ring" "path" "[I" ∈ GG := gg_t 153 (by decide +kernel) rfl
theorem mw_154 : Cond.fieldLink RX3 18 "WellKnots$Ring" "size" "I" ∈ GG := gg_t 154 (by decide +kernel) rfl
theorem mw_156 : Cond.fieldLink RX3 22 "WellKnots$Ring" "strike" "I" ∈ GG := gg_t 156 (by decide +kernel) rfl
theorem mw_158 : Cond.laysFinal "WellKnots$Ring" "WellKnots$Ring" "ring" "[I" ∈ GG := gg_t 158 (by decide +kernel) rfl
theorem mw_160 : Cond.laysFinal "WellKnots$Ring" "WellKnots$Ring" "path" "[I" ∈ GG := gg_t 160 (by decide +kernel) rfl
theorem mw_162 : Cond.lays "WellKnots$Ring" "WellKnots$Ring" "size" "I" ∈ GG := gg_t 162 (by decide +kernel) rfl
theorem mw_164 : Cond.lays "WellKnots$Ring" "WellKnots$Ring" "strike" "I" ∈ GG := gg_t 164 (by decide +kernel) rfl
theorem mw_167 : Cond.classLink RX8 53 RX7 ∈ GG := gg_t 167 (by decide +kernel) rfl
theorem mw_168 : Cond.instantiable RX7 5 ∈ GG := gg_t 168 (by decide +kernel) rfl
theorem mw_170 : Cond.instanceMethod yX7_init ∈ GG := gg_t 170 (by decide +kernel) rfl
theorem mw_171 : Cond.code yX7_init cX7_init 1 none ∈ GG := gg_t 171 (by decide +kernel) rfl
theorem mw_172 : Cond.methodLink RX7 3 objectInit ∈ GG := gg_t 172 (by decide +kernel) rfl
theorem mw_173 : Cond.fieldLink RX7 9 "WellKnots$Way" "heats" "[I" ∈ GG := gg_t 173 (by decide +kernel) rfl
theorem mw_174 : Cond.fieldLink RX7 15 "WellKnots$Way" "longer" "[I" ∈ GG := gg_t 174 (by decide +kernel) rfl
theorem mw_175 : Cond.fieldLink RX7 32 "WellKnots$Way" "length" "I" ∈ GG := gg_t 175 (by decide +kernel) rfl
theorem mw_177 : Cond.fieldLink RX7 36 "WellKnots$Way" "firstStage" "I" ∈ GG := gg_t 177 (by decide +kernel) rfl
theorem mw_179 : Cond.fieldLink RX7 39 "WellKnots$Way" "firstCups" "I" ∈ GG := gg_t 179 (by decide +kernel) rfl
theorem mw_181 : Cond.laysFinal "WellKnots$Way" "WellKnots$Way" "heats" "[I" ∈ GG := gg_t 181 (by decide +kernel) rfl
theorem mw_183 : Cond.laysFinal "WellKnots$Way" "WellKnots$Way" "longer" "[I" ∈ GG := gg_t 183 (by decide +kernel) rfl
theorem mw_185 : Cond.lays "WellKnots$Way" "WellKnots$Way" "length" "I" ∈ GG := gg_t 185 (by decide +kernel) rfl
theorem mw_187 : Cond.lays "WellKnots$Way" "WellKnots$Way" "firstStage" "I" ∈ GG := gg_t 187 (by decide +kernel) rfl
theorem mw_189 : Cond.lays "WellKnots$Way" "WellKnots$Way" "firstCups" "I" ∈ GG := gg_t 189 (by decide +kernel) rfl
theorem mw_192 : Cond.classLink RX8 60 RX5 ∈ GG := gg_t 192 (by decide +kernel) rfl
theorem mw_193 : Cond.instantiable RX5 1 ∈ GG := gg_t 193 (by decide +kernel) rfl
theorem mw_195 : Cond.instanceMethod yX5_init ∈ GG := gg_t 195 (by decide +kernel) rfl
theorem mw_196 : Cond.code yX5_init cX5_init 1 none ∈ GG := gg_t 196 (by decide +kernel) rfl
theorem mw_197 : Cond.methodLink RX5 3 objectInit ∈ GG := gg_t 197 (by decide +kernel) rfl
theorem mw_198 : Cond.fieldLink RX5 11 "WellKnots$Settling" "groups" "[I" ∈ GG := gg_t 198 (by decide +kernel) rfl
theorem mw_199 : Cond.laysFinal "WellKnots$Settling" "WellKnots$Settling" "groups" "[I" ∈ GG := gg_t 199 (by decide +kernel) rfl
theorem mw_202 : Cond.fieldLink RX8 10 "WellKnots" "text" "LWellKnots$Text;" ∈ GG := gg_t 202 (by decide +kernel) rfl
theorem mw_203 : Cond.fieldLink RX8 19 "WellKnots" "told" "LWellKnots$Road;" ∈ GG := gg_t 203 (by decide +kernel) rfl
theorem mw_204 : Cond.fieldLink RX8 23 "WellKnots" "draft" "LWellKnots$Road;" ∈ GG := gg_t 204 (by decide +kernel) rfl
theorem mw_205 : Cond.fieldLink RX8 29 "WellKnots" "ledger" "LWellKnots$Ledger;" ∈ GG := gg_t 205 (by decide +kernel) rfl
theorem mw_206 : Cond.fieldLink RX8 33 "WellKnots" "imageZero" "LWellKnots$Ledger;" ∈ GG := gg_t 206 (by decide +kernel) rfl
theorem mw_207 : Cond.fieldLink RX8 36 "WellKnots" "imageOne" "LWellKnots$Ledger;" ∈ GG := gg_t 207 (by decide +kernel) rfl
theorem mw_208 : Cond.fieldLink RX8 97 "WellKnots" "keptImages" "I" ∈ GG := gg_t 208 (by decide +kernel) rfl
theorem mw_209 : Cond.fieldLink RX8 42 "WellKnots" "hearsay" "LWellKnots$Hearsay;" ∈ GG := gg_t 209 (by decide +kernel) rfl
theorem mw_210 : Cond.fieldLink RX8 49 "WellKnots" "best" "LWellKnots$Ring;" ∈ GG := gg_t 210 (by decide +kernel) rfl
theorem mw_211 : Cond.fieldLink RX8 56 "WellKnots" "way" "LWellKnots$Way;" ∈ GG := gg_t 211 (by decide +kernel) rfl
theorem mw_212 : Cond.fieldLink RX8 63 "WellKnots" "settling" "LWellKnots$Settling;" ∈ GG := gg_t 212 (by decide +kernel) rfl
theorem mw_213 : Cond.fieldLink RX8 312 "WellKnots" "traced" "J" ∈ GG := gg_t 213 (by decide +kernel) rfl
theorem mw_214 : Cond.laysFinal "WellKnots" "WellKnots" "text" "LWellKnots$Text;" ∈ GG := gg_t 214 (by decide +kernel) rfl
theorem mw_216 : Cond.lays "WellKnots" "WellKnots" "told" "LWellKnots$Road;" ∈ GG := gg_t 216 (by decide +kernel) rfl
theorem mw_218 : Cond.lays "WellKnots" "WellKnots" "draft" "LWellKnots$Road;" ∈ GG := gg_t 218 (by decide +kernel) rfl
theorem mw_220 : Cond.laysFinal "WellKnots" "WellKnots" "ledger" "LWellKnots$Ledger;" ∈ GG := gg_t 220 (by decide +kernel) rfl
theorem mw_222 : Cond.laysFinal "WellKnots" "WellKnots" "imageZero" "LWellKnots$Ledger;" ∈ GG := gg_t 222 (by decide +kernel) rfl
theorem mw_224 : Cond.laysFinal "WellKnots" "WellKnots" "imageOne" "LWellKnots$Ledger;" ∈ GG := gg_t 224 (by decide +kernel) rfl
theorem mw_226 : Cond.lays "WellKnots" "WellKnots" "keptImages" "I" ∈ GG := gg_t 226 (by decide +kernel) rfl
theorem mw_228 : Cond.laysFinal "WellKnots" "WellKnots" "hearsay" "LWellKnots$Hearsay;" ∈ GG := gg_t 228 (by decide +kernel) rfl
theorem mw_230 : Cond.laysFinal "WellKnots" "WellKnots" "best" "LWellKnots$Ring;" ∈ GG := gg_t 230 (by decide +kernel) rfl
theorem mw_232 : Cond.laysFinal "WellKnots" "WellKnots" "way" "LWellKnots$Way;" ∈ GG := gg_t 232 (by decide +kernel) rfl
theorem mw_234 : Cond.laysFinal "WellKnots" "WellKnots" "settling" "LWellKnots$Settling;" ∈ GG := gg_t 234 (by decide +kernel) rfl
theorem mw_236 : Cond.lays "WellKnots" "WellKnots" "traced" "J" ∈ GG := gg_t 236 (by decide +kernel) rfl
theorem mw_239 : Cond.methodLink RL 13 yX8_type ∈ GG := gg_t 239 (by decide +kernel) rfl
theorem mw_240 : Cond.instanceMethod yX8_type ∈ GG := gg_t 240 (by decide +kernel) rfl
theorem mw_241 : Cond.selects RX8 yX8_type yX8_type ∈ GG := gg_t 241 (by decide +kernel) rfl
theorem mw_242 : Cond.code yX8_type cX8_type 2 (some .int) ∈ GG := gg_t 242 (by decide +kernel) rfl
theorem mw_243 : Cond.methodLink RX8 67 yX8_within ∈ GG := gg_t 243 (by decide +kernel) rfl
theorem mw_244 : Cond.static yX8_within ∈ GG := gg_t 244 (by decide +kernel) rfl
theorem mw_245 : Cond.code yX8_within cX8_within 3 (some .boolean) ∈ GG := gg_t 245 (by decide +kernel) rfl
theorem mw_246 : Cond.methodLink RX8 71 yX6_append ∈ GG := gg_t 246 (by decide +kernel) rfl
theorem mw_247 : Cond.instanceMethod yX6_append ∈ GG := gg_t 247 (by decide +kernel) rfl
theorem mw_248 : Cond.selects RX6 yX6_append yX6_append ∈ GG := gg_t 248 (by decide +kernel) rfl
theorem mw_249 : Cond.code yX6_append cX6_append 2 (some .boolean) ∈ GG := gg_t 249 (by decide +kernel) rfl
theorem mw_250 : Cond.methodLink RX8 75 yX6_size ∈ GG := gg_t 250 (by decide +kernel) rfl
theorem mw_251 : Cond.instanceMethod yX6_size ∈ GG := gg_t 251 (by decide +kernel) rfl
theorem mw_252 : Cond.selects RX6 yX6_size yX6_size ∈ GG := gg_t 252 (by decide +kernel) rfl
theorem mw_253 : Cond.code yX6_size cX6_size 1 (some .int) ∈ GG := gg_t 253 (by decide +kernel) rfl
theorem mw_254 : Cond.methodLink RL 18 yX8_clear ∈ GG := gg_t 254 (by decide +kernel) rfl
theorem mw_255 : Cond.instanceMethod yX8_clear ∈ GG := gg_t 255 (by decide +kernel) rfl
theorem mw_256 : Cond.selects RX8 yX8_clear yX8_clear ∈ GG := gg_t 256 (by decide +kernel) rfl
theorem mw_257 : Cond.code yX8_clear cX8_clear 1 (some .int) ∈ GG := gg_t 257 (by decide +kernel) rfl
theorem mw_258 : Cond.methodLink RX8 79 yX6_empty ∈ GG := gg_t 258 (by decide +kernel) rfl
theorem mw_259 : Cond.instanceMethod yX6_empty ∈ GG := gg_t 259 (by decide +kernel) rfl
theorem mw_260 : Cond.selects RX6 yX6_empty yX6_empty ∈ GG := gg_t 260 (by decide +kernel) rfl
theorem mw_261 : Cond.code yX6_empty cX6_empty 2 (some .int) ∈ GG := gg_t 261 (by decide +kernel) rfl
theorem mw_262 : Cond.methodLink RL 23 yX8_road ∈ GG := gg_t 262 (by decide +kernel) rfl
theorem mw_263 : Cond.instanceMethod yX8_road ∈ GG := gg_t 263 (by decide +kernel) rfl
theorem mw_264 : Cond.selects RX8 yX8_road yX8_road ∈ GG := gg_t 264 (by decide +kernel) rfl
theorem mw_265 : Cond.code yX8_road cX8_road 3 (some .int) ∈ GG := gg_t 265 (by decide +kernel) rfl
theorem mw_266 : Cond.methodLink RX8 82 yX4_tellAll ∈ GG := gg_t 266 (by decide +kernel) rfl
theorem mw_267 : Cond.instanceMethod yX4_tellAll ∈ GG := gg_t 267 (by decide +kernel) rfl
theorem mw_268 : Cond.selects RX4 yX4_tellAll yX4_tellAll ∈ GG := gg_t 268 (by decide +kernel) rfl
theorem mw_269 : Cond.code yX4_tellAll cX4_tellAll 3 (some .int) ∈ GG := gg_t 269 (by decide +kernel) rfl
theorem mw_270 : Cond.methodLink RX4 92 yX2_wipe ∈ GG := gg_t 270 (by decide +kernel) rfl
theorem mw_271 : Cond.instanceMethod yX2_wipe ∈ GG := gg_t 271 (by decide +kernel) rfl
theorem mw_272 : Cond.selects RX2 yX2_wipe yX2_wipe ∈ GG := gg_t 272 (by decide +kernel) rfl
theorem mw_273 : Cond.code yX2_wipe cX2_wipe 1 none ∈ GG := gg_t 273 (by decide +kernel) rfl
theorem mw_274 : Cond.methodLink RX2 15 yJ7_fill_53178 ∈ GG := gg_t 274 (by decide +kernel) rfl
theorem mw_275 : Cond.static yJ7_fill_53178 ∈ GG := gg_t 275 (by decide +kernel) rfl
theorem mw_276 : Cond.code yJ7_fill_53178 cJ7_fill_53178 4 none ∈ GG := gg_t 276 (by decide +kernel) rfl
theorem mw_277 : Cond.methodLink RX4 95 yX6_rewind ∈ GG := gg_t 277 (by decide +kernel) rfl
theorem mw_278 : Cond.instanceMethod yX6_rewind ∈ GG := gg_t 278 (by decide +kernel) rfl
theorem mw_279 : Cond.selects RX6 yX6_rewind yX6_rewind ∈ GG := gg_t 279 (by decide +kernel) rfl
theorem mw_280 : Cond.code yX6_rewind cX6_rewind 1 none ∈ GG := gg_t 280 (by decide +kernel) rfl
theorem mw_281 : Cond.methodLink RX4 100 yX6_scan ∈ GG := gg_t 281 (by decide +kernel) rfl
theorem mw_282 : Cond.instanceMethod yX6_scan ∈ GG := gg_t 282 (by decide +kernel) rfl
theorem mw_283 : Cond.selects RX6 yX6_scan yX6_scan ∈ GG := gg_t 283 (by decide +kernel) rfl
theorem mw_284 : Cond.code yX6_scan cX6_scan 2 none ∈ GG := gg_t 284 (by decide +kernel) rfl
theorem mw_285 : Cond.methodLink RX6 31 yX6_endOfRow ∈ GG := gg_t 285 (by decide +kernel) rfl
theorem mw_287 : Cond.instanceMethod yX6_endOfRow ∈ GG := gg_t 287 (by decide +kernel) rfl
theorem mw_288 : Cond.code yX6_endOfRow cX6_endOfRow 5 (some .int) ∈ GG := gg_t 288 (by decide +kernel) rfl
theorem mw_289 : Cond.methodLink RX6 49 Lib.Math.max.name ∈ GG := gg_t 289 (by decide +kernel) rfl
theorem mw_290 : Cond.static Lib.Math.max.name ∈ GG := gg_t 290 (by decide +kernel) rfl
theorem mw_291 : Cond.code Lib.Math.max.name Lib.Math.max.code 2 (some .int) ∈ GG := gg_t 291 (by decide +kernel) rfl
theorem mw_293 : Cond.methodLink RX6 39 yX6_readNumber ∈ GG := gg_t 293 (by decide +kernel) rfl
theorem mw_295 : Cond.instanceMethod yX6_readNumber ∈ GG := gg_t 295 (by decide +kernel) rfl
theorem mw_296 : Cond.code yX6_readNumber cX6_readNumber 3 none ∈ GG := gg_t 296 (by decide +kernel) rfl
theorem mw_297 : Cond.methodLink RX6 43 Lib.Math.min.name ∈ GG := gg_t 297 (by decide +kernel) rfl
theorem mw_298 : Cond.static Lib.Math.min.name ∈ GG := gg_t 298 (by decide +kernel) rfl
theorem mw_299 : Cond.code Lib.Math.min.name Lib.Math.min.code 2 (some .int) ∈ GG := gg_t 299 (by decide +kernel) rfl
theorem mw_300 : Cond.methodLink RX4 103 yX6_tokenKind ∈ GG := gg_t 300 (by decide +kernel) rfl
theorem mw_301 : Cond.instanceMethod yX6_tokenKind ∈ GG := gg_t 301 (by decide +kernel) rfl
theorem mw_302 : Cond.selects RX6 yX6_tokenKind yX6_tokenKind ∈ GG := gg_t 302 (by decide +kernel) rfl
theorem mw_303 : Cond.code yX6_tokenKind cX6_tokenKind 1 (some .int) ∈ GG := gg_t 303 (by decide +kernel) rfl
theorem mw_304 : Cond.methodLink RX4 107 yX4_tellItem ∈ GG := gg_t 304 (by decide +kernel) rfl
theorem mw_306 : Cond.instanceMethod yX4_tellItem ∈ GG := gg_t 306 (by decide +kernel) rfl
theorem mw_307 : Cond.code yX4_tellItem cX4_tellItem 2 (some .boolean) ∈ GG := gg_t 307 (by decide +kernel) rfl
theorem mw_308 : Cond.methodLink RX4 114 yX6_tokenValue ∈ GG := gg_t 308 (by decide +kernel) rfl
theorem mw_309 : Cond.instanceMethod yX6_tokenValue ∈ GG := gg_t 309 (by decide +kernel) rfl
theorem mw_310 : Cond.selects RX6 yX6_tokenValue yX6_tokenValue ∈ GG := gg_t 310 (by decide +kernel) rfl
theorem mw_311 : Cond.code yX6_tokenValue cX6_tokenValue 1 (some .int) ∈ GG := gg_t 311 (by decide +kernel) rfl
theorem mw_312 : Cond.methodLink RX4 117 yX4_tellWell ∈ GG := gg_t 312 (by decide +kernel) rfl
theorem mw_314 : Cond.instanceMethod yX4_tellWell ∈ GG := gg_t 314 (by decide +kernel) rfl
theorem mw_315 : Cond.code yX4_tellWell cX4_tellWell 2 (some .boolean) ∈ GG := gg_t 315 (by decide +kernel) rfl
theorem mw_316 : Cond.methodLink RX4 132 yX4_hear ∈ GG := gg_t 316 (by decide +kernel) rfl
theorem mw_318 : Cond.instanceMethod yX4_hear ∈ GG := gg_t 318 (by decide +kernel) rfl
theorem mw_319 : Cond.code yX4_hear cX4_hear 6 (some .boolean) ∈ GG := gg_t 319 (by decide +kernel) rfl
theorem mw_320 : Cond.methodLink RX4 136 yX4_hearStop ∈ GG := gg_t 320 (by decide +kernel) rfl
theorem mw_321 : Cond.static yX4_hearStop ∈ GG := gg_t 321 (by decide +kernel) rfl
theorem mw_322 : Cond.code yX4_hearStop cX4_hearStop 1 (some .boolean) ∈ GG := gg_t 322 (by decide +kernel) rfl
theorem mw_323 : Cond.methodLink RX4 120 yX4_tellStage ∈ GG := gg_t 323 (by decide +kernel) rfl
theorem mw_325 : Cond.instanceMethod yX4_tellStage ∈ GG := gg_t 325 (by decide +kernel) rfl
theorem mw_326 : Cond.code yX4_tellStage cX4_tellStage 2 (some .boolean) ∈ GG := gg_t 326 (by decide +kernel) rfl
theorem mw_327 : Cond.methodLink RX4 123 yX4_tellCaravan ∈ GG := gg_t 327 (by decide +kernel) rfl
theorem mw_329 : Cond.instanceMethod yX4_tellCaravan ∈ GG := gg_t 329 (by decide +kernel) rfl
theorem mw_330 : Cond.code yX4_tellCaravan cX4_tellCaravan 2 (some .boolean) ∈ GG := gg_t 330 (by decide +kernel) rfl
theorem mw_331 : Cond.methodLink RX4 139 yX2_setPlace ∈ GG := gg_t 331 (by decide +kernel) rfl
theorem mw_332 : Cond.instanceMethod yX2_setPlace ∈ GG := gg_t 332 (by decide +kernel) rfl
theorem mw_333 : Cond.selects RX2 yX2_setPlace yX2_setPlace ∈ GG := gg_t 333 (by decide +kernel) rfl
theorem mw_334 : Cond.code yX2_setPlace cX2_setPlace 3 none ∈ GG := gg_t 334 (by decide +kernel) rfl
theorem mw_335 : Cond.methodLink RX2 27 yX2_isCaravan ∈ GG := gg_t 335 (by decide +kernel) rfl
theorem mw_336 : Cond.static yX2_isCaravan ∈ GG := gg_t 336 (by decide +kernel) rfl
theorem mw_337 : Cond.code yX2_isCaravan cX2_isCaravan 1 (some .boolean) ∈ GG := gg_t 337 (by decide +kernel) rfl
theorem mw_338 : Cond.methodLink RX4 143 yX2_setCups ∈ GG := gg_t 338 (by decide +kernel) rfl
theorem mw_339 : Cond.instanceMethod yX2_setCups ∈ GG := gg_t 339 (by decide +kernel) rfl
theorem mw_340 : Cond.selects RX2 yX2_setCups yX2_setCups ∈ GG := gg_t 340 (by decide +kernel) rfl
theorem mw_341 : Cond.code yX2_setCups cX2_setCups 3 none ∈ GG := gg_t 341 (by decide +kernel) rfl
theorem mw_342 : Cond.methodLink RX4 146 yX2_wake ∈ GG := gg_t 342 (by decide +kernel) rfl
theorem mw_343 : Cond.instanceMethod yX2_wake ∈ GG := gg_t 343 (by decide +kernel) rfl
theorem mw_344 : Cond.selects RX2 yX2_wake yX2_wake ∈ GG := gg_t 344 (by decide +kernel) rfl
theorem mw_345 : Cond.code yX2_wake cX2_wake 2 none ∈ GG := gg_t 345 (by decide +kernel) rfl
theorem mw_346 : Cond.methodLink RX4 126 yX4_tellKnots ∈ GG := gg_t 346 (by decide +kernel) rfl
theorem mw_348 : Cond.instanceMethod yX4_tellKnots ∈ GG := gg_t 348 (by decide +kernel) rfl
theorem mw_349 : Cond.code yX4_tellKnots cX4_tellKnots 2 (some .boolean) ∈ GG := gg_t 349 (by decide +kernel) rfl
theorem mw_350 : Cond.methodLink RX4 150 yX2_setKnots ∈ GG := gg_t 350 (by decide +kernel) rfl
theorem mw_351 : Cond.instanceMethod yX2_setKnots ∈ GG := gg_t 351 (by decide +kernel) rfl
theorem mw_352 : Cond.selects RX2 yX2_setKnots yX2_setKnots ∈ GG := gg_t 352 (by decide +kernel) rfl
theorem mw_353 : Cond.code yX2_setKnots cX2_setKnots 4 none ∈ GG := gg_t 353 (by decide +kernel) rfl
theorem mw_354 : Cond.methodLink RX2 49 yX2_isWell ∈ GG := gg_t 354 (by decide +kernel) rfl
theorem mw_355 : Cond.static yX2_isWell ∈ GG := gg_t 355 (by decide +kernel) rfl
theorem mw_356 : Cond.code yX2_isWell cX2_isWell 1 (some .boolean) ∈ GG := gg_t 356 (by decide +kernel) rfl
theorem mw_357 : Cond.methodLink RX4 129 yX4_tellDues ∈ GG := gg_t 357 (by decide +kernel) rfl
theorem mw_359 : Cond.instanceMethod yX4_tellDues ∈ GG := gg_t 359 (by decide +kernel) rfl
theorem mw_360 : Cond.code yX4_tellDues cX4_tellDues 2 (some .boolean) ∈ GG := gg_t 360 (by decide +kernel) rfl
theorem mw_361 : Cond.methodLink RX4 154 yX2_setDues ∈ GG := gg_t 361 (by decide +kernel) rfl
theorem mw_362 : Cond.instanceMethod yX2_setDues ∈ GG := gg_t 362 (by decide +kernel) rfl
theorem mw_363 : Cond.selects RX2 yX2_setDues yX2_setDues ∈ GG := gg_t 363 (by decide +kernel) rfl
theorem mw_364 : Cond.code yX2_setDues cX2_setDues 4 none ∈ GG := gg_t 364 (by decide +kernel) rfl
theorem mw_365 : Cond.methodLink RX4 111 yX6_tokenPlace ∈ GG := gg_t 365 (by decide +kernel) rfl
theorem mw_366 : Cond.instanceMethod yX6_tokenPlace ∈ GG := gg_t 366 (by decide +kernel) rfl
theorem mw_367 : Cond.selects RX6 yX6_tokenPlace yX6_tokenPlace ∈ GG := gg_t 367 (by decide +kernel) rfl
theorem mw_368 : Cond.code yX6_tokenPlace cX6_tokenPlace 1 (some .int) ∈ GG := gg_t 368 (by decide +kernel) rfl
theorem mw_369 : Cond.methodLink RX8 90 yX1_begin ∈ GG := gg_t 369 (by decide +kernel) rfl
theorem mw_370 : Cond.instanceMethod yX1_begin ∈ GG := gg_t 370 (by decide +kernel) rfl
theorem mw_371 : Cond.selects RX1 yX1_begin yX1_begin ∈ GG := gg_t 371 (by decide +kernel) rfl
theorem mw_372 : Cond.code yX1_begin cX1_begin 2 none ∈ GG := gg_t 372 (by decide +kernel) rfl
theorem mw_373 : Cond.methodLink RX1 22 yX2_become ∈ GG := gg_t 373 (by decide +kernel) rfl
theorem mw_374 : Cond.instanceMethod yX2_become ∈ GG := gg_t 374 (by decide +kernel) rfl
theorem mw_375 : Cond.selects RX2 yX2_become yX2_become ∈ GG := gg_t 375 (by decide +kernel) rfl
theorem mw_376 : Cond.code yX2_become cX2_become 2 none ∈ GG := gg_t 376 (by decide +kernel) rfl
theorem mw_377 : Cond.methodLink RX2 21 arraycopyName ∈ GG := gg_t 377 (by decide +kernel) rfl
theorem mw_378 : Cond.static arraycopyName ∈ GG := gg_t 378 (by decide +kernel) rfl
theorem mw_379 : Cond.native arraycopyName ∈ GG := gg_t 379 (by decide +kernel) rfl
theorem mw_380 : Cond.methodLink RX8 94 yX0_drop ∈ GG := gg_t 380 (by decide +kernel) rfl
theorem mw_381 : Cond.instanceMethod yX0_drop ∈ GG := gg_t 381 (by decide +kernel) rfl
theorem mw_382 : Cond.selects RX0 yX0_drop yX0_drop ∈ GG := gg_t 382 (by decide +kernel) rfl
theorem mw_383 : Cond.code yX0_drop cX0_drop 2 (some .int) ∈ GG := gg_t 383 (by decide +kernel) rfl
theorem mw_384 : Cond.methodLink RL 27 yX8_stage ∈ GG := gg_t 384 (by decide +kernel) rfl
theorem mw_385 : Cond.instanceMethod yX8_stage ∈ GG := gg_t 385 (by decide +kernel) rfl
theorem mw_386 : Cond.selects RX8 yX8_stage yX8_stage ∈ GG := gg_t 386 (by decide +kernel) rfl
theorem mw_387 : Cond.code yX8_stage cX8_stage 3 (some .int) ∈ GG := gg_t 387 (by decide +kernel) rfl
theorem mw_388 : Cond.methodLink RX8 101 yX4_hasStage ∈ GG := gg_t 388 (by decide +kernel) rfl
theorem mw_389 : Cond.instanceMethod yX4_hasStage ∈ GG := gg_t 389 (by decide +kernel) rfl
theorem mw_390 : Cond.selects RX4 yX4_hasStage yX4_hasStage ∈ GG := gg_t 390 (by decide +kernel) rfl
theorem mw_391 : Cond.code yX4_hasStage cX4_hasStage 2 (some .boolean) ∈ GG := gg_t 391 (by decide +kernel) rfl
theorem mw_392 : Cond.methodLink RX8 104 yX4_firstEnd ∈ GG := gg_t 392 (by decide +kernel) rfl
theorem mw_393 : Cond.instanceMethod yX4_firstEnd ∈ GG := gg_t 393 (by decide +kernel) rfl
theorem mw_394 : Cond.selects RX4 yX4_firstEnd yX4_firstEnd ∈ GG := gg_t 394 (by decide +kernel) rfl
theorem mw_395 : Cond.code yX4_firstEnd cX4_firstEnd 2 (some .int) ∈ GG := gg_t 395 (by decide +kernel) rfl
theorem mw_396 : Cond.methodLink RX4 58 yX4_hasStage ∈ GG := gg_t 396 (by decide +kernel) rfl
theorem mw_397 : Cond.methodLink RX8 108 yX4_secondEnd ∈ GG := gg_t 397 (by decide +kernel) rfl
theorem mw_398 : Cond.instanceMethod yX4_secondEnd ∈ GG := gg_t 398 (by decide +kernel) rfl
theorem mw_399 : Cond.selects RX4 yX4_secondEnd yX4_secondEnd ∈ GG := gg_t 399 (by decide +kernel) rfl
theorem mw_400 : Cond.code yX4_secondEnd cX4_secondEnd 2 (some .int) ∈ GG := gg_t 400 (by decide +kernel) rfl
theorem mw_401 : Cond.methodLink RX8 111 yX4_heatOf ∈ GG := gg_t 401 (by decide +kernel) rfl
theorem mw_402 : Cond.instanceMethod yX4_heatOf ∈ GG := gg_t 402 (by decide +kernel) rfl
theorem mw_403 : Cond.selects RX4 yX4_heatOf yX4_heatOf ∈ GG := gg_t 403 (by decide +kernel) rfl
theorem mw_404 : Cond.code yX4_heatOf cX4_heatOf 2 (some .int) ∈ GG := gg_t 404 (by decide +kernel) rfl
theorem mw_405 : Cond.methodLink RX8 114 yX4_isByNight ∈ GG := gg_t 405 (by decide +kernel) rfl
theorem mw_406 : Cond.instanceMethod yX4_isByNight ∈ GG := gg_t 406 (by decide +kernel) rfl
theorem mw_407 : Cond.selects RX4 yX4_isByNight yX4_isByNight ∈ GG := gg_t 407 (by decide +kernel) rfl
theorem mw_408 : Cond.code yX4_isByNight cX4_isByNight 2 (some .boolean) ∈ GG := gg_t 408 (by decide +kernel) rfl
theorem mw_409 : Cond.methodLink RX8 117 yX4_lenderOf ∈ GG := gg_t 409 (by decide +kernel) rfl
theorem mw_410 : Cond.instanceMethod yX4_lenderOf ∈ GG := gg_t 410 (by decide +kernel) rfl
theorem mw_411 : Cond.selects RX4 yX4_lenderOf yX4_lenderOf ∈ GG := gg_t 411 (by decide +kernel) rfl
theorem mw_412 : Cond.code yX4_lenderOf cX4_lenderOf 2 (some .int) ∈ GG := gg_t 412 (by decide +kernel) rfl
theorem mw_413 : Cond.methodLink RL 32 yX8_caravan ∈ GG := gg_t 413 (by decide +kernel) rfl
theorem mw_414 : Cond.instanceMethod yX8_caravan ∈ GG := gg_t 414 (by decide +kernel) rfl
theorem mw_415 : Cond.selects RX8 yX8_caravan yX8_caravan ∈ GG := gg_t 415 (by decide +kernel) rfl
theorem mw_416 : Cond.code yX8_caravan cX8_caravan 4 (some .int) ∈ GG := gg_t 416 (by decide +kernel) rfl
theorem mw_417 : Cond.methodLink RX8 120 yX4_hasCaravan ∈ GG := gg_t 417 (by decide +kernel) rfl
theorem mw_418 : Cond.instanceMethod yX4_hasCaravan ∈ GG := gg_t 418 (by decide +kernel) rfl
theorem mw_419 : Cond.selects RX4 yX4_hasCaravan yX4_hasCaravan ∈ GG := gg_t 419 (by decide +kernel) rfl
theorem mw_420 : Cond.code yX4_hasCaravan cX4_hasCaravan 2 (some .boolean) ∈ GG := gg_t 420 (by decide +kernel) rfl
theorem mw_421 : Cond.methodLink RX8 126 yX2_placeOf ∈ GG := gg_t 421 (by decide +kernel) rfl
theorem mw_422 : Cond.instanceMethod yX2_placeOf ∈ GG := gg_t 422 (by decide +kernel) rfl
theorem mw_423 : Cond.selects RX2 yX2_placeOf yX2_placeOf ∈ GG := gg_t 423 (by decide +kernel) rfl
theorem mw_424 : Cond.code yX2_placeOf cX2_placeOf 2 (some .int) ∈ GG := gg_t 424 (by decide +kernel) rfl
theorem mw_425 : Cond.methodLink RX8 131 yX2_cupsOf ∈ GG := gg_t 425 (by decide +kernel) rfl
theorem mw_426 : Cond.instanceMethod yX2_cupsOf ∈ GG := gg_t 426 (by decide +kernel) rfl
theorem mw_427 : Cond.selects RX2 yX2_cupsOf yX2_cupsOf ∈ GG := gg_t 427 (by decide +kernel) rfl
theorem mw_428 : Cond.code yX2_cupsOf cX2_cupsOf 2 (some .int) ∈ GG := gg_t 428 (by decide +kernel) rfl
theorem mw_429 : Cond.methodLink RX8 134 yX4_bearsOf ∈ GG := gg_t 429 (by decide +kernel) rfl
theorem mw_430 : Cond.instanceMethod yX4_bearsOf ∈ GG := gg_t 430 (by decide +kernel) rfl
theorem mw_431 : Cond.selects RX4 yX4_bearsOf yX4_bearsOf ∈ GG := gg_t 431 (by decide +kernel) rfl
theorem mw_432 : Cond.code yX4_bearsOf cX4_bearsOf 2 (some .int) ∈ GG := gg_t 432 (by decide +kernel) rfl
theorem mw_433 : Cond.methodLink RX4 61 yX4_hasCaravan ∈ GG := gg_t 433 (by decide +kernel) rfl
theorem mw_434 : Cond.methodLink RX8 137 yX2_dryOf ∈ GG := gg_t 434 (by decide +kernel) rfl
theorem mw_435 : Cond.instanceMethod yX2_dryOf ∈ GG := gg_t 435 (by decide +kernel) rfl
theorem mw_436 : Cond.selects RX2 yX2_dryOf yX2_dryOf ∈ GG := gg_t 436 (by decide +kernel) rfl
theorem mw_437 : Cond.code yX2_dryOf cX2_dryOf 2 (some .int) ∈ GG := gg_t 437 (by decide +kernel) rfl
theorem mw_438 : Cond.methodLink RX8 140 yX2_isAlive ∈ GG := gg_t 438 (by decide +kernel) rfl
theorem mw_439 : Cond.instanceMethod yX2_isAlive ∈ GG := gg_t 439 (by decide +kernel) rfl
theorem mw_440 : Cond.selects RX2 yX2_isAlive yX2_isAlive ∈ GG := gg_t 440 (by decide +kernel) rfl
theorem mw_441 : Cond.code yX2_isAlive cX2_isAlive 2 (some .boolean) ∈ GG := gg_t 441 (by decide +kernel) rfl
theorem mw_443 : Cond.static yX8_hasBit ∈ GG := gg_t 443 (by decide +kernel) rfl
theorem mw_444 : Cond.code yX8_hasBit cX8_hasBit 2 (some .boolean) ∈ GG := gg_t 444 (by decide +kernel) rfl
theorem mw_445 : Cond.methodLink RX8 143 yX2_knotsOfCaravan ∈ GG := gg_t 445 (by decide +kernel) rfl
theorem mw_446 : Cond.instanceMethod yX2_knotsOfCaravan ∈ GG := gg_t 446 (by decide +kernel) rfl
theorem mw_447 : Cond.selects RX2 yX2_knotsOfCaravan yX2_knotsOfCaravan ∈ GG := gg_t 447 (by decide +kernel) rfl
theorem mw_448 : Cond.code yX2_knotsOfCaravan cX2_knotsOfCaravan 4 (some .int) ∈ GG := gg_t 448 (by decide +kernel) rfl
theorem mw_449 : Cond.methodLink RX2 52 yX2_knotsOf ∈ GG := gg_t 449 (by decide +kernel) rfl
theorem mw_450 : Cond.instanceMethod yX2_knotsOf ∈ GG := gg_t 450 (by decide +kernel) rfl
theorem mw_451 : Cond.selects RX2 yX2_knotsOf yX2_knotsOf ∈ GG := gg_t 451 (by decide +kernel) rfl
theorem mw_452 : Cond.code yX2_knotsOf cX2_knotsOf 3 (some .int) ∈ GG := gg_t 452 (by decide +kernel) rfl
theorem mw_453 : Cond.methodLink RL 36 yX8_well ∈ GG := gg_t 453 (by decide +kernel) rfl
theorem mw_454 : Cond.instanceMethod yX8_well ∈ GG := gg_t 454 (by decide +kernel) rfl
theorem mw_455 : Cond.selects RX8 yX8_well yX8_well ∈ GG := gg_t 455 (by decide +kernel) rfl
theorem mw_456 : Cond.code yX8_well cX8_well 4 (some .int) ∈ GG := gg_t 456 (by decide +kernel) rfl
theorem mw_457 : Cond.methodLink RX8 146 yX4_hasWell ∈ GG := gg_t 457 (by decide +kernel) rfl
theorem mw_458 : Cond.instanceMethod yX4_hasWell ∈ GG := gg_t 458 (by decide +kernel) rfl
theorem mw_459 : Cond.selects RX4 yX4_hasWell yX4_hasWell ∈ GG := gg_t 459 (by decide +kernel) rfl
theorem mw_460 : Cond.code yX4_hasWell cX4_hasWell 2 (some .boolean) ∈ GG := gg_t 460 (by decide +kernel) rfl
theorem mw_461 : Cond.constant RX8 149 (-1000000) ∈ GG := gg_t 461 (by decide +kernel) rfl
theorem mw_462 : Cond.methodLink RX8 150 yX4_refusesNight ∈ GG := gg_t 462 (by decide +kernel) rfl
theorem mw_463 : Cond.instanceMethod yX4_refusesNight ∈ GG := gg_t 463 (by decide +kernel) rfl
theorem mw_464 : Cond.selects RX4 yX4_refusesNight yX4_refusesNight ∈ GG := gg_t 464 (by decide +kernel) rfl
theorem mw_465 : Cond.code yX4_refusesNight cX4_refusesNight 2 (some .boolean) ∈ GG := gg_t 465 (by decide +kernel) rfl
theorem mw_466 : Cond.methodLink RX4 54 yX4_hasWell ∈ GG := gg_t 466 (by decide +kernel) rfl
theorem mw_467 : Cond.methodLink RX8 153 yX2_knotsAtWell ∈ GG := gg_t 467 (by decide +kernel) rfl
theorem mw_468 : Cond.instanceMethod yX2_knotsAtWell ∈ GG := gg_t 468 (by decide +kernel) rfl
theorem mw_469 : Cond.selects RX2 yX2_knotsAtWell yX2_knotsAtWell ∈ GG := gg_t 469 (by decide +kernel) rfl
theorem mw_470 : Cond.code yX2_knotsAtWell cX2_knotsAtWell 4 (some .int) ∈ GG := gg_t 470 (by decide +kernel) rfl
theorem mw_471 : Cond.methodLink RX8 156 yX2_duesBy ∈ GG := gg_t 471 (by decide +kernel) rfl
theorem mw_472 : Cond.instanceMethod yX2_duesBy ∈ GG := gg_t 472 (by decide +kernel) rfl
theorem mw_473 : Cond.selects RX2 yX2_duesBy yX2_duesBy ∈ GG := gg_t 473 (by decide +kernel) rfl
theorem mw_474 : Cond.code yX2_duesBy cX2_duesBy 4 (some .int) ∈ GG := gg_t 474 (by decide +kernel) rfl
theorem mw_475 : Cond.methodLink RX2 58 yX2_duesOf ∈ GG := gg_t 475 (by decide +kernel) rfl
theorem mw_476 : Cond.instanceMethod yX2_duesOf ∈ GG := gg_t 476 (by decide +kernel) rfl
theorem mw_477 : Cond.selects RX2 yX2_duesOf yX2_duesOf ∈ GG := gg_t 477 (by decide +kernel) rfl
theorem mw_478 : Cond.code yX2_duesOf cX2_duesOf 3 (some .int) ∈ GG := gg_t 478 (by decide +kernel) rfl
theorem mw_479 : Cond.methodLink RX8 159 yX2_netOf ∈ GG := gg_t 479 (by decide +kernel) rfl
theorem mw_480 : Cond.instanceMethod yX2_netOf ∈ GG := gg_t 480 (by decide +kernel) rfl
theorem mw_481 : Cond.selects RX2 yX2_netOf yX2_netOf ∈ GG := gg_t 481 (by decide +kernel) rfl
theorem mw_482 : Cond.code yX2_netOf cX2_netOf 2 (some .int) ∈ GG := gg_t 482 (by decide +kernel) rfl
theorem mw_483 : Cond.methodLink RX2 64 yX2_duesTo ∈ GG := gg_t 483 (by decide +kernel) rfl
theorem mw_484 : Cond.instanceMethod yX2_duesTo ∈ GG := gg_t 484 (by decide +kernel) rfl
theorem mw_485 : Cond.selects RX2 yX2_duesTo yX2_duesTo ∈ GG := gg_t 485 (by decide +kernel) rfl
theorem mw_486 : Cond.code yX2_duesTo cX2_duesTo 4 (some .int) ∈ GG := gg_t 486 (by decide +kernel) rfl
theorem mw_487 : Cond.methodLink RX2 61 yX2_duesBy ∈ GG := gg_t 487 (by decide +kernel) rfl
theorem mw_488 : Cond.methodLink RL 40 yX8_knots ∈ GG := gg_t 488 (by decide +kernel) rfl
theorem mw_489 : Cond.instanceMethod yX8_knots ∈ GG := gg_t 489 (by decide +kernel) rfl
end
section
theorem mw_490 : Cond.selects RX8 yX8_knots yX8_knots ∈ GG := gg_t 490 (by decide +kernel) rfl
theorem mw_491 : Cond.code yX8_knots cX8_knots 3 (some .int) ∈ GG := gg_t 491 (by decide +kernel) rfl
theorem mw_492 : Cond.methodLink RX8 162 yX2_knotsOf ∈ GG := gg_t 492 (by decide +kernel) rfl
theorem mw_493 : Cond.methodLink RL 44 yX8_dues ∈ GG := gg_t 493 (by decide +kernel) rfl
theorem mw_494 : Cond.instanceMethod yX8_dues ∈ GG := gg_t 494 (by decide +kernel) rfl
theorem mw_495 : Cond.selects RX8 yX8_dues yX8_dues ∈ GG := gg_t 495 (by decide +kernel) rfl
theorem mw_496 : Cond.code yX8_dues cX8_dues 3 (some .int) ∈ GG := gg_t 496 (by decide +kernel) rfl
theorem mw_497 : Cond.methodLink RX8 166 yX2_duesOf ∈ GG := gg_t 497 (by decide +kernel) rfl
theorem mw_498 : Cond.methodLink RL 48 yX8_goes ∈ GG := gg_t 498 (by decide +kernel) rfl
theorem mw_499 : Cond.instanceMethod yX8_goes ∈ GG := gg_t 499 (by decide +kernel) rfl
theorem mw_500 : Cond.selects RX8 yX8_goes yX8_goes ∈ GG := gg_t 500 (by decide +kernel) rfl
theorem mw_501 : Cond.code yX8_goes cX8_goes 8 (some .int) ∈ GG := gg_t 501 (by decide +kernel) rfl
theorem mw_502 : Cond.methodLink RX8 169 yX4_otherEnd ∈ GG := gg_t 502 (by decide +kernel) rfl
theorem mw_503 : Cond.instanceMethod yX4_otherEnd ∈ GG := gg_t 503 (by decide +kernel) rfl
theorem mw_504 : Cond.selects RX4 yX4_otherEnd yX4_otherEnd ∈ GG := gg_t 504 (by decide +kernel) rfl
theorem mw_505 : Cond.code yX4_otherEnd cX4_otherEnd 3 (some .int) ∈ GG := gg_t 505 (by decide +kernel) rfl
theorem mw_506 : Cond.methodLink RX4 64 yX4_firstEnd ∈ GG := gg_t 506 (by decide +kernel) rfl
theorem mw_507 : Cond.methodLink RX4 68 yX4_secondEnd ∈ GG := gg_t 507 (by decide +kernel) rfl
theorem mw_508 : Cond.methodLink RX8 172 yX1_remember ∈ GG := gg_t 508 (by decide +kernel) rfl
theorem mw_509 : Cond.instanceMethod yX1_remember ∈ GG := gg_t 509 (by decide +kernel) rfl
theorem mw_510 : Cond.selects RX1 yX1_remember yX1_remember ∈ GG := gg_t 510 (by decide +kernel) rfl
theorem mw_511 : Cond.code yX1_remember cX1_remember 1 none ∈ GG := gg_t 511 (by decide +kernel) rfl
theorem mw_512 : Cond.methodLink RX1 30 arraycopyName ∈ GG := gg_t 512 (by decide +kernel) rfl
theorem mw_513 : Cond.methodLink RX1 36 yX2_writeTo ∈ GG := gg_t 513 (by decide +kernel) rfl
theorem mw_514 : Cond.instanceMethod yX2_writeTo ∈ GG := gg_t 514 (by decide +kernel) rfl
theorem mw_515 : Cond.selects RX2 yX2_writeTo yX2_writeTo ∈ GG := gg_t 515 (by decide +kernel) rfl
theorem mw_516 : Cond.code yX2_writeTo cX2_writeTo 3 none ∈ GG := gg_t 516 (by decide +kernel) rfl
theorem mw_517 : Cond.methodLink RX8 175 yX2_setCups ∈ GG := gg_t 517 (by decide +kernel) rfl
theorem mw_518 : Cond.methodLink RX8 179 yX2_setPlace ∈ GG := gg_t 518 (by decide +kernel) rfl
theorem mw_519 : Cond.methodLink RX8 182 yX2_setDry ∈ GG := gg_t 519 (by decide +kernel) rfl
theorem mw_520 : Cond.instanceMethod yX2_setDry ∈ GG := gg_t 520 (by decide +kernel) rfl
theorem mw_521 : Cond.selects RX2 yX2_setDry yX2_setDry ∈ GG := gg_t 521 (by decide +kernel) rfl
theorem mw_522 : Cond.code yX2_setDry cX2_setDry 3 none ∈ GG := gg_t 522 (by decide +kernel) rfl
theorem mw_523 : Cond.methodLink RX8 185 yX2_die ∈ GG := gg_t 523 (by decide +kernel) rfl
theorem mw_524 : Cond.instanceMethod yX2_die ∈ GG := gg_t 524 (by decide +kernel) rfl
theorem mw_525 : Cond.selects RX2 yX2_die yX2_die ∈ GG := gg_t 525 (by decide +kernel) rfl
theorem mw_526 : Cond.code yX2_die cX2_die 3 none ∈ GG := gg_t 526 (by decide +kernel) rfl
theorem mw_527 : Cond.methodLink RX2 35 yX2_knotsOfCaravan ∈ GG := gg_t 527 (by decide +kernel) rfl
theorem mw_528 : Cond.methodLink RX2 39 Lib.Math.min.name ∈ GG := gg_t 528 (by decide +kernel) rfl
theorem mw_529 : Cond.methodLink RX2 45 yX2_setKnots ∈ GG := gg_t 529 (by decide +kernel) rfl
theorem mw_530 : Cond.methodLink RX8 189 yX4_paidBy ∈ GG := gg_t 530 (by decide +kernel) rfl
theorem mw_531 : Cond.instanceMethod yX4_paidBy ∈ GG := gg_t 531 (by decide +kernel) rfl
theorem mw_532 : Cond.selects RX4 yX4_paidBy yX4_paidBy ∈ GG := gg_t 532 (by decide +kernel) rfl
theorem mw_533 : Cond.code yX4_paidBy cX4_paidBy 3 (some .int) ∈ GG := gg_t 533 (by decide +kernel) rfl
theorem mw_534 : Cond.methodLink RX4 71 yX4_isByNight ∈ GG := gg_t 534 (by decide +kernel) rfl
theorem mw_535 : Cond.methodLink RX4 74 yX4_lenderOf ∈ GG := gg_t 535 (by decide +kernel) rfl
theorem mw_536 : Cond.methodLink RX4 77 yX4_refusesNight ∈ GG := gg_t 536 (by decide +kernel) rfl
theorem mw_537 : Cond.methodLink RX8 192 Lib.Math.max.name ∈ GG := gg_t 537 (by decide +kernel) rfl
theorem mw_538 : Cond.methodLink RX8 197 yX2_setKnots ∈ GG := gg_t 538 (by decide +kernel) rfl
theorem mw_539 : Cond.methodLink RL 53 yX8_drinks ∈ GG := gg_t 539 (by decide +kernel) rfl
theorem mw_540 : Cond.instanceMethod yX8_drinks ∈ GG := gg_t 540 (by decide +kernel) rfl
theorem mw_541 : Cond.selects RX8 yX8_drinks yX8_drinks ∈ GG := gg_t 541 (by decide +kernel) rfl
theorem mw_542 : Cond.code yX8_drinks cX8_drinks 4 (some .int) ∈ GG := gg_t 542 (by decide +kernel) rfl
theorem mw_543 : Cond.methodLink RX8 201 yX8_canBorrow ∈ GG := gg_t 543 (by decide +kernel) rfl
theorem mw_545 : Cond.instanceMethod yX8_canBorrow ∈ GG := gg_t 545 (by decide +kernel) rfl
theorem mw_546 : Cond.code yX8_canBorrow cX8_canBorrow 4 (some .boolean) ∈ GG := gg_t 546 (by decide +kernel) rfl
theorem mw_547 : Cond.methodLink RX8 205 yX8_borrow ∈ GG := gg_t 547 (by decide +kernel) rfl
theorem mw_549 : Cond.instanceMethod yX8_borrow ∈ GG := gg_t 549 (by decide +kernel) rfl
theorem mw_550 : Cond.code yX8_borrow cX8_borrow 6 (some .int) ∈ GG := gg_t 550 (by decide +kernel) rfl
theorem mw_551 : Cond.methodLink RL 57 yX8_fills ∈ GG := gg_t 551 (by decide +kernel) rfl
theorem mw_552 : Cond.instanceMethod yX8_fills ∈ GG := gg_t 552 (by decide +kernel) rfl
theorem mw_553 : Cond.selects RX8 yX8_fills yX8_fills ∈ GG := gg_t 553 (by decide +kernel) rfl
theorem mw_554 : Cond.code yX8_fills cX8_fills 4 (some .int) ∈ GG := gg_t 554 (by decide +kernel) rfl
theorem mw_555 : Cond.methodLink RL 61 yX8_hands ∈ GG := gg_t 555 (by decide +kernel) rfl
theorem mw_556 : Cond.instanceMethod yX8_hands ∈ GG := gg_t 556 (by decide +kernel) rfl
theorem mw_557 : Cond.selects RX8 yX8_hands yX8_hands ∈ GG := gg_t 557 (by decide +kernel) rfl
theorem mw_558 : Cond.code yX8_hands cX8_hands 8 (some .int) ∈ GG := gg_t 558 (by decide +kernel) rfl
theorem mw_559 : Cond.methodLink RL 66 yX8_strikes ∈ GG := gg_t 559 (by decide +kernel) rfl
theorem mw_560 : Cond.instanceMethod yX8_strikes ∈ GG := gg_t 560 (by decide +kernel) rfl
theorem mw_561 : Cond.selects RX8 yX8_strikes yX8_strikes ∈ GG := gg_t 561 (by decide +kernel) rfl
theorem mw_562 : Cond.code yX8_strikes cX8_strikes 5 (some .int) ∈ GG := gg_t 562 (by decide +kernel) rfl
theorem mw_563 : Cond.methodLink RX8 211 yX3_find ∈ GG := gg_t 563 (by decide +kernel) rfl
theorem mw_564 : Cond.instanceMethod yX3_find ∈ GG := gg_t 564 (by decide +kernel) rfl
theorem mw_565 : Cond.selects RX3 yX3_find yX3_find ∈ GG := gg_t 565 (by decide +kernel) rfl
theorem mw_566 : Cond.code yX3_find cX3_find 4 none ∈ GG := gg_t 566 (by decide +kernel) rfl
theorem mw_567 : Cond.methodLink RX3 25 yX3_walk ∈ GG := gg_t 567 (by decide +kernel) rfl
theorem mw_569 : Cond.instanceMethod yX3_walk ∈ GG := gg_t 569 (by decide +kernel) rfl
theorem mw_570 : Cond.code yX3_walk cX3_walk 10 none ∈ GG := gg_t 570 (by decide +kernel) rfl
theorem mw_571 : Cond.methodLink RX3 29 yX2_duesOf ∈ GG := gg_t 571 (by decide +kernel) rfl
theorem mw_572 : Cond.methodLink RX3 35 Lib.Math.min.name ∈ GG := gg_t 572 (by decide +kernel) rfl
theorem mw_573 : Cond.methodLink RX3 40 yX3_offer ∈ GG := gg_t 573 (by decide +kernel) rfl
theorem mw_575 : Cond.instanceMethod yX3_offer ∈ GG := gg_t 575 (by decide +kernel) rfl
theorem mw_576 : Cond.code yX3_offer cX3_offer 5 none ∈ GG := gg_t 576 (by decide +kernel) rfl
theorem mw_577 : Cond.methodLink RX3 48 arraycopyName ∈ GG := gg_t 577 (by decide +kernel) rfl
theorem mw_579 : Cond.methodLink RX8 217 yX3_wellAt ∈ GG := gg_t 579 (by decide +kernel) rfl
theorem mw_580 : Cond.instanceMethod yX3_wellAt ∈ GG := gg_t 580 (by decide +kernel) rfl
theorem mw_581 : Cond.selects RX3 yX3_wellAt yX3_wellAt ∈ GG := gg_t 581 (by decide +kernel) rfl
theorem mw_582 : Cond.code yX3_wellAt cX3_wellAt 2 (some .int) ∈ GG := gg_t 582 (by decide +kernel) rfl
theorem mw_583 : Cond.methodLink RX8 223 yX2_setDues ∈ GG := gg_t 583 (by decide +kernel) rfl
theorem mw_584 : Cond.methodLink RL 70 yX8_undo ∈ GG := gg_t 584 (by decide +kernel) rfl
theorem mw_585 : Cond.instanceMethod yX8_undo ∈ GG := gg_t 585 (by decide +kernel) rfl
theorem mw_586 : Cond.selects RX8 yX8_undo yX8_undo ∈ GG := gg_t 586 (by decide +kernel) rfl
theorem mw_587 : Cond.code yX8_undo cX8_undo 1 (some .int) ∈ GG := gg_t 587 (by decide +kernel) rfl
theorem mw_588 : Cond.methodLink RX8 226 yX1_takeBack ∈ GG := gg_t 588 (by decide +kernel) rfl
theorem mw_589 : Cond.instanceMethod yX1_takeBack ∈ GG := gg_t 589 (by decide +kernel) rfl
theorem mw_590 : Cond.selects RX1 yX1_takeBack yX1_takeBack ∈ GG := gg_t 590 (by decide +kernel) rfl
theorem mw_591 : Cond.code yX1_takeBack cX1_takeBack 1 (some .boolean) ∈ GG := gg_t 591 (by decide +kernel) rfl
theorem mw_592 : Cond.methodLink RX1 40 yX2_readFrom ∈ GG := gg_t 592 (by decide +kernel) rfl
theorem mw_593 : Cond.instanceMethod yX2_readFrom ∈ GG := gg_t 593 (by decide +kernel) rfl
theorem mw_594 : Cond.selects RX2 yX2_readFrom yX2_readFrom ∈ GG := gg_t 594 (by decide +kernel) rfl
theorem mw_595 : Cond.code yX2_readFrom cX2_readFrom 3 none ∈ GG := gg_t 595 (by decide +kernel) rfl
theorem mw_596 : Cond.methodLink RL 74 yX8_now ∈ GG := gg_t 596 (by decide +kernel) rfl
theorem mw_597 : Cond.instanceMethod yX8_now ∈ GG := gg_t 597 (by decide +kernel) rfl
theorem mw_598 : Cond.selects RX8 yX8_now yX8_now ∈ GG := gg_t 598 (by decide +kernel) rfl
theorem mw_599 : Cond.code yX8_now cX8_now 3 (some .int) ∈ GG := gg_t 599 (by decide +kernel) rfl
theorem mw_600 : Cond.methodLink RX8 233 yX2_sand ∈ GG := gg_t 600 (by decide +kernel) rfl
theorem mw_601 : Cond.instanceMethod yX2_sand ∈ GG := gg_t 601 (by decide +kernel) rfl
theorem mw_602 : Cond.selects RX2 yX2_sand yX2_sand ∈ GG := gg_t 602 (by decide +kernel) rfl
theorem mw_603 : Cond.code yX2_sand cX2_sand 1 (some .int) ∈ GG := gg_t 603 (by decide +kernel) rfl
theorem mw_604 : Cond.methodLink RX8 236 yX2_alive ∈ GG := gg_t 604 (by decide +kernel) rfl
theorem mw_605 : Cond.instanceMethod yX2_alive ∈ GG := gg_t 605 (by decide +kernel) rfl
theorem mw_606 : Cond.selects RX2 yX2_alive yX2_alive ∈ GG := gg_t 606 (by decide +kernel) rfl
theorem mw_607 : Cond.code yX2_alive cX2_alive 1 (some .int) ∈ GG := gg_t 607 (by decide +kernel) rfl
theorem mw_608 : Cond.methodLink RX8 239 yX2_allKnots ∈ GG := gg_t 608 (by decide +kernel) rfl
theorem mw_609 : Cond.instanceMethod yX2_allKnots ∈ GG := gg_t 609 (by decide +kernel) rfl
theorem mw_610 : Cond.selects RX2 yX2_allKnots yX2_allKnots ∈ GG := gg_t 610 (by decide +kernel) rfl
theorem mw_611 : Cond.code yX2_allKnots cX2_allKnots 3 (some .int) ∈ GG := gg_t 611 (by decide +kernel) rfl
theorem mw_612 : Cond.methodLink RX2 55 yX2_knotsAtWell ∈ GG := gg_t 612 (by decide +kernel) rfl
theorem mw_613 : Cond.methodLink RX8 242 yX2_allDues ∈ GG := gg_t 613 (by decide +kernel) rfl
theorem mw_614 : Cond.instanceMethod yX2_allDues ∈ GG := gg_t 614 (by decide +kernel) rfl
theorem mw_615 : Cond.selects RX2 yX2_allDues yX2_allDues ∈ GG := gg_t 615 (by decide +kernel) rfl
theorem mw_616 : Cond.code yX2_allDues cX2_allDues 3 (some .int) ∈ GG := gg_t 616 (by decide +kernel) rfl
theorem mw_617 : Cond.methodLink RX8 245 yX5_fewestPayments ∈ GG := gg_t 617 (by decide +kernel) rfl
theorem mw_618 : Cond.instanceMethod yX5_fewestPayments ∈ GG := gg_t 618 (by decide +kernel) rfl
theorem mw_619 : Cond.selects RX5 yX5_fewestPayments yX5_fewestPayments ∈ GG := gg_t 619 (by decide +kernel) rfl
theorem mw_620 : Cond.code yX5_fewestPayments cX5_fewestPayments 8 (some .int) ∈ GG := gg_t 620 (by decide +kernel) rfl
theorem mw_621 : Cond.methodLink RX5 15 Lib.Math.min.name ∈ GG := gg_t 621 (by decide +kernel) rfl
theorem mw_622 : Cond.methodLink RX5 21 Lib.Math.max.name ∈ GG := gg_t 622 (by decide +kernel) rfl
theorem mw_624 : Cond.methodLink RX5 28 yX2_netOf ∈ GG := gg_t 624 (by decide +kernel) rfl
theorem mw_625 : Cond.methodLink RX8 249 yX4_salt ∈ GG := gg_t 625 (by decide +kernel) rfl
theorem mw_626 : Cond.instanceMethod yX4_salt ∈ GG := gg_t 626 (by decide +kernel) rfl
theorem mw_627 : Cond.selects RX4 yX4_salt yX4_salt ∈ GG := gg_t 627 (by decide +kernel) rfl
theorem mw_628 : Cond.code yX4_salt cX4_salt 3 (some .int) ∈ GG := gg_t 628 (by decide +kernel) rfl
theorem mw_629 : Cond.methodLink RX4 80 yJ6_bitCount_0f7a4 ∈ GG := gg_t 629 (by decide +kernel) rfl
theorem mw_630 : Cond.static yJ6_bitCount_0f7a4 ∈ GG := gg_t 630 (by decide +kernel) rfl
theorem mw_631 : Cond.code yJ6_bitCount_0f7a4 cJ6_bitCount_0f7a4 1 (some .int) ∈ GG := gg_t 631 (by decide +kernel) rfl
theorem mw_632 : Cond.constant RJ6 265 (1431655765) ∈ GG := gg_t 632 (by decide +kernel) rfl
theorem mw_633 : Cond.constant RJ6 266 (858993459) ∈ GG := gg_t 633 (by decide +kernel) rfl
theorem mw_634 : Cond.constant RJ6 267 (252645135) ∈ GG := gg_t 634 (by decide +kernel) rfl
theorem mw_635 : Cond.methodLink RX4 85 yX4_endsEachStage ∈ GG := gg_t 635 (by decide +kernel) rfl
theorem mw_637 : Cond.instanceMethod yX4_endsEachStage ∈ GG := gg_t 637 (by decide +kernel) rfl
theorem mw_638 : Cond.code yX4_endsEachStage cX4_endsEachStage 3 (some .boolean) ∈ GG := gg_t 638 (by decide +kernel) rfl
theorem mw_640 : Cond.methodLink RL 78 yX8_pass ∈ GG := gg_t 640 (by decide +kernel) rfl
theorem mw_641 : Cond.instanceMethod yX8_pass ∈ GG := gg_t 641 (by decide +kernel) rfl
theorem mw_642 : Cond.selects RX8 yX8_pass yX8_pass ∈ GG := gg_t 642 (by decide +kernel) rfl
theorem mw_643 : Cond.code yX8_pass cX8_pass 4 (some .int) ∈ GG := gg_t 643 (by decide +kernel) rfl
theorem mw_644 : Cond.methodLink RX8 252 yX7_find ∈ GG := gg_t 644 (by decide +kernel) rfl
theorem mw_645 : Cond.instanceMethod yX7_find ∈ GG := gg_t 645 (by decide +kernel) rfl
theorem mw_646 : Cond.selects RX7 yX7_find yX7_find ∈ GG := gg_t 646 (by decide +kernel) rfl
theorem mw_647 : Cond.code yX7_find cX7_find 9 none ∈ GG := gg_t 647 (by decide +kernel) rfl
theorem mw_648 : Cond.methodLink RX7 18 yX2_placeOf ∈ GG := gg_t 648 (by decide +kernel) rfl
theorem mw_649 : Cond.methodLink RX7 24 yX4_bearsOf ∈ GG := gg_t 649 (by decide +kernel) rfl
theorem mw_650 : Cond.methodLink RX7 29 yX2_dryOf ∈ GG := gg_t 650 (by decide +kernel) rfl
theorem mw_651 : Cond.methodLink RX7 42 yJ7_fill_53178 ∈ GG := gg_t 651 (by decide +kernel) rfl
theorem mw_652 : Cond.methodLink RX7 51 yX2_cupsOf ∈ GG := gg_t 652 (by decide +kernel) rfl
theorem mw_653 : Cond.methodLink RX7 54 yX7_firstOnto ∈ GG := gg_t 653 (by decide +kernel) rfl
theorem mw_655 : Cond.instanceMethod yX7_firstOnto ∈ GG := gg_t 655 (by decide +kernel) rfl
theorem mw_656 : Cond.code yX7_firstOnto cX7_firstOnto 5 (some .int) ∈ GG := gg_t 656 (by decide +kernel) rfl
theorem mw_657 : Cond.methodLink RX7 74 yX7_heatOver ∈ GG := gg_t 657 (by decide +kernel) rfl
theorem mw_659 : Cond.instanceMethod yX7_heatOver ∈ GG := gg_t 659 (by decide +kernel) rfl
theorem mw_660 : Cond.code yX7_heatOver cX7_heatOver 5 (some .int) ∈ GG := gg_t 660 (by decide +kernel) rfl
theorem mw_661 : Cond.methodLink RX7 86 yX4_otherEnd ∈ GG := gg_t 661 (by decide +kernel) rfl
theorem mw_662 : Cond.methodLink RX7 58 yX4_heatOf ∈ GG := gg_t 662 (by decide +kernel) rfl
theorem mw_663 : Cond.methodLink RX7 77 Lib.Math.min.name ∈ GG := gg_t 663 (by decide +kernel) rfl
theorem mw_664 : Cond.methodLink RX7 61 Lib.Math.max.name ∈ GG := gg_t 664 (by decide +kernel) rfl
theorem mw_665 : Cond.methodLink RX7 67 yX7_lengthen ∈ GG := gg_t 665 (by decide +kernel) rfl
theorem mw_667 : Cond.instanceMethod yX7_lengthen ∈ GG := gg_t 667 (by decide +kernel) rfl
theorem mw_668 : Cond.code yX7_lengthen cX7_lengthen 4 none ∈ GG := gg_t 668 (by decide +kernel) rfl
theorem mw_669 : Cond.methodLink RX7 80 arraycopyName ∈ GG := gg_t 669 (by decide +kernel) rfl
theorem mw_670 : Cond.methodLink RL 82 yX8_ring ∈ GG := gg_t 670 (by decide +kernel) rfl
theorem mw_671 : Cond.instanceMethod yX8_ring ∈ GG := gg_t 671 (by decide +kernel) rfl
theorem mw_672 : Cond.selects RX8 yX8_ring yX8_ring ∈ GG := gg_t 672 (by decide +kernel) rfl
theorem mw_673 : Cond.code yX8_ring cX8_ring 2 (some .int) ∈ GG := gg_t 673 (by decide +kernel) rfl
theorem mw_674 : Cond.methodLink RL 86 yX8_safe ∈ GG := gg_t 674 (by decide +kernel) rfl
theorem mw_675 : Cond.instanceMethod yX8_safe ∈ GG := gg_t 675 (by decide +kernel) rfl
theorem mw_676 : Cond.selects RX8 yX8_safe yX8_safe ∈ GG := gg_t 676 (by decide +kernel) rfl
theorem mw_677 : Cond.code yX8_safe cX8_safe 11 (some .int) ∈ GG := gg_t 677 (by decide +kernel) rfl
theorem mw_678 : Cond.methodLink RX8 264 yX8_chancesAlive ∈ GG := gg_t 678 (by decide +kernel) rfl
theorem mw_679 : Cond.static yX8_chancesAlive ∈ GG := gg_t 679 (by decide +kernel) rfl
theorem mw_680 : Cond.code yX8_chancesAlive cX8_chancesAlive 5 (some .int) ∈ GG := gg_t 680 (by decide +kernel) rfl
theorem mw_681 : Cond.methodLink RL 91 yX8_hears ∈ GG := gg_t 681 (by decide +kernel) rfl
theorem mw_682 : Cond.instanceMethod yX8_hears ∈ GG := gg_t 682 (by decide +kernel) rfl
theorem mw_683 : Cond.selects RX8 yX8_hears yX8_hears ∈ GG := gg_t 683 (by decide +kernel) rfl
theorem mw_684 : Cond.code yX8_hears cX8_hears 5 (some .int) ∈ GG := gg_t 684 (by decide +kernel) rfl
theorem mw_685 : Cond.methodLink RX8 268 yX0_append ∈ GG := gg_t 685 (by decide +kernel) rfl
theorem mw_686 : Cond.instanceMethod yX0_append ∈ GG := gg_t 686 (by decide +kernel) rfl
theorem mw_687 : Cond.selects RX0 yX0_append yX0_append ∈ GG := gg_t 687 (by decide +kernel) rfl
theorem mw_688 : Cond.code yX0_append cX0_append 3 (some .boolean) ∈ GG := gg_t 688 (by decide +kernel) rfl
theorem mw_689 : Cond.methodLink RL 95 yX8_forget ∈ GG := gg_t 689 (by decide +kernel) rfl
theorem mw_690 : Cond.instanceMethod yX8_forget ∈ GG := gg_t 690 (by decide +kernel) rfl
theorem mw_691 : Cond.selects RX8 yX8_forget yX8_forget ∈ GG := gg_t 691 (by decide +kernel) rfl
theorem mw_692 : Cond.code yX8_forget cX8_forget 1 (some .int) ∈ GG := gg_t 692 (by decide +kernel) rfl
theorem mw_693 : Cond.methodLink RL 99 yX8_stones ∈ GG := gg_t 693 (by decide +kernel) rfl
theorem mw_694 : Cond.instanceMethod yX8_stones ∈ GG := gg_t 694 (by decide +kernel) rfl
theorem mw_695 : Cond.selects RX8 yX8_stones yX8_stones ∈ GG := gg_t 695 (by decide +kernel) rfl
theorem mw_696 : Cond.code yX8_stones cX8_stones 2 (some .int) ∈ GG := gg_t 696 (by decide +kernel) rfl
theorem mw_697 : Cond.methodLink RX8 271 yX0_sucked ∈ GG := gg_t 697 (by decide +kernel) rfl
theorem mw_698 : Cond.instanceMethod yX0_sucked ∈ GG := gg_t 698 (by decide +kernel) rfl
theorem mw_699 : Cond.selects RX0 yX0_sucked yX0_sucked ∈ GG := gg_t 699 (by decide +kernel) rfl
theorem mw_700 : Cond.code yX0_sucked cX0_sucked 3 (some .int) ∈ GG := gg_t 700 (by decide +kernel) rfl
theorem mw_702 : Cond.methodLink RX8 274 yX0_liars ∈ GG := gg_t 702 (by decide +kernel) rfl
theorem mw_703 : Cond.instanceMethod yX0_liars ∈ GG := gg_t 703 (by decide +kernel) rfl
theorem mw_704 : Cond.selects RX0 yX0_liars yX0_liars ∈ GG := gg_t 704 (by decide +kernel) rfl
theorem mw_705 : Cond.code yX0_liars cX0_liars 3 (some .int) ∈ GG := gg_t 705 (by decide +kernel) rfl
theorem mw_706 : Cond.methodLink RL 103 yX8_mark ∈ GG := gg_t 706 (by decide +kernel) rfl
theorem mw_707 : Cond.instanceMethod yX8_mark ∈ GG := gg_t 707 (by decide +kernel) rfl
theorem mw_708 : Cond.selects RX8 yX8_mark yX8_mark ∈ GG := gg_t 708 (by decide +kernel) rfl
theorem mw_709 : Cond.code yX8_mark cX8_mark 3 (some .int) ∈ GG := gg_t 709 (by decide +kernel) rfl
theorem mw_710 : Cond.methodLink RX8 277 yX8_markAsWell ∈ GG := gg_t 710 (by decide +kernel) rfl
theorem mw_712 : Cond.instanceMethod yX8_markAsWell ∈ GG := gg_t 712 (by decide +kernel) rfl
theorem mw_713 : Cond.code yX8_markAsWell cX8_markAsWell 2 (some .int) ∈ GG := gg_t 713 (by decide +kernel) rfl
theorem mw_714 : Cond.methodLink RX8 280 yX8_markAsKnot ∈ GG := gg_t 714 (by decide +kernel) rfl
theorem mw_716 : Cond.instanceMethod yX8_markAsKnot ∈ GG := gg_t 716 (by decide +kernel) rfl
theorem mw_717 : Cond.code yX8_markAsKnot cX8_markAsKnot 2 (some .int) ∈ GG := gg_t 717 (by decide +kernel) rfl
theorem mw_718 : Cond.constantLong RX8 316 (10) ∈ GG := gg_t 718 (by decide +kernel) rfl
theorem mw_719 : Cond.methodLink RX8 318 yX4_stagesLentBy ∈ GG := gg_t 719 (by decide +kernel) rfl
theorem mw_720 : Cond.instanceMethod yX4_stagesLentBy ∈ GG := gg_t 720 (by decide +kernel) rfl
theorem mw_721 : Cond.selects RX4 yX4_stagesLentBy yX4_stagesLentBy ∈ GG := gg_t 721 (by decide +kernel) rfl
theorem mw_722 : Cond.code yX4_stagesLentBy cX4_stagesLentBy 4 (some .int) ∈ GG := gg_t 722 (by decide +kernel) rfl
theorem mw_723 : Cond.methodLink RX8 283 yX8_markAsDew ∈ GG := gg_t 723 (by decide +kernel) rfl
theorem mw_725 : Cond.instanceMethod yX8_markAsDew ∈ GG := gg_t 725 (by decide +kernel) rfl
theorem mw_726 : Cond.code yX8_markAsDew cX8_markAsDew 2 (some .int) ∈ GG := gg_t 726 (by decide +kernel) rfl
theorem mw_727 : Cond.constantLong RX8 321 (100) ∈ GG := gg_t 727 (by decide +kernel) rfl
theorem mw_728 : Cond.methodLink RX8 286 yX8_markAsChild ∈ GG := gg_t 728 (by decide +kernel) rfl
theorem mw_730 : Cond.instanceMethod yX8_markAsChild ∈ GG := gg_t 730 (by decide +kernel) rfl
theorem mw_731 : Cond.code yX8_markAsChild cX8_markAsChild 2 (some .int) ∈ GG := gg_t 731 (by decide +kernel) rfl
theorem mw_732 : Cond.constantLong RX8 323 (1000) ∈ GG := gg_t 732 (by decide +kernel) rfl
theorem mw_733 : Cond.methodLink RX8 289 yX8_markAsCamel ∈ GG := gg_t 733 (by decide +kernel) rfl
theorem mw_735 : Cond.instanceMethod yX8_markAsCamel ∈ GG := gg_t 735 (by decide +kernel) rfl
theorem mw_736 : Cond.code yX8_markAsCamel cX8_markAsCamel 2 (some .int) ∈ GG := gg_t 736 (by decide +kernel) rfl
theorem mw_737 : Cond.constantLong RX8 325 (10000) ∈ GG := gg_t 737 (by decide +kernel) rfl
theorem mw_738 : Cond.methodLink RX8 292 yX8_markAsMirage ∈ GG := gg_t 738 (by decide +kernel) rfl
theorem mw_740 : Cond.instanceMethod yX8_markAsMirage ∈ GG := gg_t 740 (by decide +kernel) rfl
theorem mw_741 : Cond.code yX8_markAsMirage cX8_markAsMirage 2 (some .int) ∈ GG := gg_t 741 (by decide +kernel) rfl
theorem mw_742 : Cond.constantLong RX8 327 (100000) ∈ GG := gg_t 742 (by decide +kernel) rfl
theorem mw_743 : Cond.methodLink RL 107 yX8_keep ∈ GG := gg_t 743 (by decide +kernel) rfl
theorem mw_744 : Cond.instanceMethod yX8_keep ∈ GG := gg_t 744 (by decide +kernel) rfl
theorem mw_745 : Cond.selects RX8 yX8_keep yX8_keep ∈ GG := gg_t 745 (by decide +kernel) rfl
theorem mw_746 : Cond.code yX8_keep cX8_keep 2 (some .int) ∈ GG := gg_t 746 (by decide +kernel) rfl
theorem mw_747 : Cond.methodLink RX8 295 yX8_imageOf ∈ GG := gg_t 747 (by decide +kernel) rfl
theorem mw_749 : Cond.instanceMethod yX8_imageOf ∈ GG := gg_t 749 (by decide +kernel) rfl
theorem mw_750 : Cond.code yX8_imageOf cX8_imageOf 2 (some (.object "WellKnots$Ledger")) ∈ GG := gg_t 750 (by decide +kernel) rfl
theorem mw_751 : Cond.methodLink RX8 299 yX1_become ∈ GG := gg_t 751 (by decide +kernel) rfl
theorem mw_752 : Cond.instanceMethod yX1_become ∈ GG := gg_t 752 (by decide +kernel) rfl
theorem mw_753 : Cond.selects RX1 yX1_become yX1_become ∈ GG := gg_t 753 (by decide +kernel) rfl
theorem mw_754 : Cond.code yX1_become cX1_become 2 none ∈ GG := gg_t 754 (by decide +kernel) rfl
theorem mw_755 : Cond.methodLink RL 111 yX8_back ∈ GG := gg_t 755 (by decide +kernel) rfl
theorem mw_756 : Cond.instanceMethod yX8_back ∈ GG := gg_t 756 (by decide +kernel) rfl
theorem mw_757 : Cond.selects RX8 yX8_back yX8_back ∈ GG := gg_t 757 (by decide +kernel) rfl
theorem mw_758 : Cond.code yX8_back cX8_back 2 (some .int) ∈ GG := gg_t 758 (by decide +kernel) rfl
theorem mw_759 : Cond.methodLink RX8 303 yX8_hasBit ∈ GG := gg_t 759 (by decide +kernel) rfl
theorem mw_760 : Cond.methodLink RL 115 yX8_count ∈ GG := gg_t 760 (by decide +kernel) rfl
theorem mw_761 : Cond.instanceMethod yX8_count ∈ GG := gg_t 761 (by decide +kernel) rfl
theorem mw_762 : Cond.selects RX8 yX8_count yX8_count ∈ GG := gg_t 762 (by decide +kernel) rfl
theorem mw_763 : Cond.code yX8_count cX8_count 2 (some .int) ∈ GG := gg_t 763 (by decide +kernel) rfl
theorem mw_764 : Cond.methodLink RL 119 yX8_trace ∈ GG := gg_t 764 (by decide +kernel) rfl
theorem mw_765 : Cond.instanceMethod yX8_trace ∈ GG := gg_t 765 (by decide +kernel) rfl
theorem mw_766 : Cond.selects RX8 yX8_trace yX8_trace ∈ GG := gg_t 766 (by decide +kernel) rfl
theorem mw_767 : Cond.code yX8_trace cX8_trace 1 (some .long) ∈ GG := gg_t 767 (by decide +kernel) rfl
theorem mw_768 : Cond.classLink RL 10 RX9 ∈ GG := gg_t 768 (by decide +kernel) rfl
theorem mw_769 : Cond.instantiable RX9 21 ∈ GG := gg_t 769 (by decide +kernel) rfl
theorem mw_770 : Cond.methodLink RL 12 yX9_init ∈ GG := gg_t 770 (by decide +kernel) rfl
theorem mw_771 : Cond.instanceMethod yX9_init ∈ GG := gg_t 771 (by decide +kernel) rfl
theorem mw_772 : Cond.code yX9_init cX9_init 1 none ∈ GG := gg_t 772 (by decide +kernel) rfl
theorem mw_773 : Cond.methodLink RX9 1 objectInit ∈ GG := gg_t 773 (by decide +kernel) rfl
theorem mw_774 : Cond.methodLink RX9 47 yX9_reads ∈ GG := gg_t 774 (by decide +kernel) rfl
theorem mw_776 : Cond.instanceMethod yX9_reads ∈ GG := gg_t 776 (by decide +kernel) rfl
theorem mw_777 : Cond.code yX9_reads cX9_reads 2 (some .boolean) ∈ GG := gg_t 777 (by decide +kernel) rfl
theorem mw_778 : Cond.methodLink RX9 85 yX9_token ∈ GG := gg_t 778 (by decide +kernel) rfl
theorem mw_780 : Cond.instanceMethod yX9_token ∈ GG := gg_t 780 (by decide +kernel) rfl
theorem mw_781 : Cond.code yX9_token cX9_token 2 none ∈ GG := gg_t 781 (by decide +kernel) rfl
theorem mw_782 : Cond.methodLink RX9 65 yX9_letterAt ∈ GG := gg_t 782 (by decide +kernel) rfl
theorem mw_784 : Cond.instanceMethod yX9_letterAt ∈ GG := gg_t 784 (by decide +kernel) rfl
theorem mw_785 : Cond.code yX9_letterAt cX9_letterAt 2 (some .int) ∈ GG := gg_t 785 (by decide +kernel) rfl
theorem mw_786 : Cond.methodLink RX9 72 yX9_isLetter ∈ GG := gg_t 786 (by decide +kernel) rfl
theorem mw_787 : Cond.static yX9_isLetter ∈ GG := gg_t 787 (by decide +kernel) rfl
theorem mw_788 : Cond.code yX9_isLetter cX9_isLetter 1 (some .boolean) ∈ GG := gg_t 788 (by decide +kernel) rfl
theorem mw_789 : Cond.methodLink RX9 54 yX9_in ∈ GG := gg_t 789 (by decide +kernel) rfl
theorem mw_790 : Cond.static yX9_in ∈ GG := gg_t 790 (by decide +kernel) rfl
theorem mw_791 : Cond.code yX9_in cX9_in 3 (some .boolean) ∈ GG := gg_t 791 (by decide +kernel) rfl
theorem mw_792 : Cond.methodLink RX9 76 yX9_isDigit ∈ GG := gg_t 792 (by decide +kernel) rfl
theorem mw_793 : Cond.static yX9_isDigit ∈ GG := gg_t 793 (by decide +kernel) rfl
theorem mw_794 : Cond.code yX9_isDigit cX9_isDigit 1 (some .boolean) ∈ GG := gg_t 794 (by decide +kernel) rfl
theorem mw_795 : Cond.methodLink RX9 102 yX9_readsItem ∈ GG := gg_t 795 (by decide +kernel) rfl
theorem mw_797 : Cond.instanceMethod yX9_readsItem ∈ GG := gg_t 797 (by decide +kernel) rfl
theorem mw_798 : Cond.code yX9_readsItem cX9_readsItem 3 (some .boolean) ∈ GG := gg_t 798 (by decide +kernel) rfl
theorem mw_799 : Cond.methodLink RX9 88 yX9_number ∈ GG := gg_t 799 (by decide +kernel) rfl
theorem mw_801 : Cond.instanceMethod yX9_number ∈ GG := gg_t 801 (by decide +kernel) rfl
theorem mw_802 : Cond.code yX9_number cX9_number 3 (some .boolean) ∈ GG := gg_t 802 (by decide +kernel) rfl
theorem mw_803 : Cond.methodLink RX9 92 yX9_readsStage ∈ GG := gg_t 803 (by decide +kernel) rfl
theorem mw_805 : Cond.instanceMethod yX9_readsStage ∈ GG := gg_t 805 (by decide +kernel) rfl
theorem mw_806 : Cond.code yX9_readsStage cX9_readsStage 3 (some .boolean) ∈ GG := gg_t 806 (by decide +kernel) rfl
theorem mw_807 : Cond.methodLink RX9 95 yX9_readsCaravan ∈ GG := gg_t 807 (by decide +kernel) rfl
theorem mw_809 : Cond.instanceMethod yX9_readsCaravan ∈ GG := gg_t 809 (by decide +kernel) rfl
theorem mw_810 : Cond.code yX9_readsCaravan cX9_readsCaravan 2 (some .boolean) ∈ GG := gg_t 810 (by decide +kernel) rfl
theorem mw_811 : Cond.methodLink RX9 98 yX9_readsDebt ∈ GG := gg_t 811 (by decide +kernel) rfl
theorem mw_813 : Cond.instanceMethod yX9_readsDebt ∈ GG := gg_t 813 (by decide +kernel) rfl
theorem mw_814 : Cond.code yX9_readsDebt cX9_readsDebt 5 (some .boolean) ∈ GG := gg_t 814 (by decide +kernel) rfl
theorem mw_815 : Cond.methodLink RX9 51 yX9_begins ∈ GG := gg_t 815 (by decide +kernel) rfl
theorem mw_817 : Cond.instanceMethod yX9_begins ∈ GG := gg_t 817 (by decide +kernel) rfl
theorem mw_818 : Cond.code yX9_begins cX9_begins 2 none ∈ GG := gg_t 818 (by decide +kernel) rfl
theorem mw_819 : Cond.fieldLink RX9 181 "WellKnotsModel" "trace" "J" ∈ GG := gg_t 819 (by decide +kernel) rfl
theorem mw_820 : Cond.fieldLink RX9 7 "WellKnotsModel" "text" "[I" ∈ GG := gg_t 820 (by decide +kernel) rfl
theorem mw_821 : Cond.fieldLink RX9 58 "WellKnotsModel" "typed" "I" ∈ GG := gg_t 821 (by decide +kernel) rfl
theorem mw_822 : Cond.fieldLink RX9 13 "WellKnotsModel" "told" "[I" ∈ GG := gg_t 822 (by decide +kernel) rfl
theorem mw_823 : Cond.fieldLink RX9 16 "WellKnotsModel" "draft" "[I" ∈ GG := gg_t 823 (by decide +kernel) rfl
theorem mw_824 : Cond.fieldLink RX9 19 "WellKnotsModel" "begun" "[I" ∈ GG := gg_t 824 (by decide +kernel) rfl
theorem mw_825 : Cond.fieldLink RX9 22 "WellKnotsModel" "s" "[I" ∈ GG := gg_t 825 (by decide +kernel) rfl
theorem mw_826 : Cond.fieldLink RX9 25 "WellKnotsModel" "images" "[I" ∈ GG := gg_t 826 (by decide +kernel) rfl
theorem mw_827 : Cond.fieldLink RX9 28 "WellKnotsModel" "kept" "[Z" ∈ GG := gg_t 827 (by decide +kernel) rfl
theorem mw_828 : Cond.fieldLink RX9 32 "WellKnotsModel" "notes" "[I" ∈ GG := gg_t 828 (by decide +kernel) rfl
theorem mw_829 : Cond.fieldLink RX9 105 "WellKnotsModel" "noted" "I" ∈ GG := gg_t 829 (by decide +kernel) rfl
theorem mw_830 : Cond.fieldLink RX9 62 "WellKnotsModel" "at" "I" ∈ GG := gg_t 830 (by decide +kernel) rfl
theorem mw_831 : Cond.fieldLink RX9 79 "WellKnotsModel" "sort" "I" ∈ GG := gg_t 831 (by decide +kernel) rfl
theorem mw_832 : Cond.fieldLink RX9 69 "WellKnotsModel" "start" "I" ∈ GG := gg_t 832 (by decide +kernel) rfl
theorem mw_833 : Cond.fieldLink RX9 82 "WellKnotsModel" "value" "I" ∈ GG := gg_t 833 (by decide +kernel) rfl
theorem mw_834 : Cond.fieldLink RX9 35 "WellKnotsModel" "walk" "[I" ∈ GG := gg_t 834 (by decide +kernel) rfl
theorem mw_835 : Cond.fieldLink RX9 38 "WellKnotsModel" "best" "[I" ∈ GG := gg_t 835 (by decide +kernel) rfl
theorem mw_836 : Cond.fieldLink RX9 153 "WellKnotsModel" "bestMany" "I" ∈ GG := gg_t 836 (by decide +kernel) rfl
theorem mw_837 : Cond.fieldLink RX9 150 "WellKnotsModel" "bestStrike" "I" ∈ GG := gg_t 837 (by decide +kernel) rfl
theorem mw_838 : Cond.fieldLink RX9 41 "WellKnotsModel" "parts" "[I" ∈ GG := gg_t 838 (by decide +kernel) rfl
theorem mw_839 : Cond.fieldLink RX9 44 "WellKnotsModel" "heats" "[I" ∈ GG := gg_t 839 (by decide +kernel) rfl
theorem mw_840 : Cond.lays "WellKnotsModel" "WellKnotsModel" "trace" "J" ∈ GG := gg_t 840 (by decide +kernel) rfl
theorem mw_842 : Cond.laysFinal "WellKnotsModel" "WellKnotsModel" "text" "[I" ∈ GG := gg_t 842 (by decide +kernel) rfl
theorem mw_844 : Cond.lays "WellKnotsModel" "WellKnotsModel" "typed" "I" ∈ GG := gg_t 844 (by decide +kernel) rfl
theorem mw_846 : Cond.laysFinal "WellKnotsModel" "WellKnotsModel" "told" "[I" ∈ GG := gg_t 846 (by decide +kernel) rfl
theorem mw_848 : Cond.laysFinal "WellKnotsModel" "WellKnotsModel" "draft" "[I" ∈ GG := gg_t 848 (by decide +kernel) rfl
theorem mw_850 : Cond.laysFinal "WellKnotsModel" "WellKnotsModel" "begun" "[I" ∈ GG := gg_t 850 (by decide +kernel) rfl
theorem mw_852 : Cond.laysFinal "WellKnotsModel" "WellKnotsModel" "s" "[I" ∈ GG := gg_t 852 (by decide +kernel) rfl
theorem mw_854 : Cond.laysFinal "WellKnotsModel" "WellKnotsModel" "images" "[I" ∈ GG := gg_t 854 (by decide +kernel) rfl
theorem mw_856 : Cond.laysFinal "WellKnotsModel" "WellKnotsModel" "kept" "[Z" ∈ GG := gg_t 856 (by decide +kernel) rfl
theorem mw_858 : Cond.laysFinal "WellKnotsModel" "WellKnotsModel" "notes" "[I" ∈ GG := gg_t 858 (by decide +kernel) rfl
theorem mw_860 : Cond.lays "WellKnotsModel" "WellKnotsModel" "noted" "I" ∈ GG := gg_t 860 (by decide +kernel) rfl
theorem mw_862 : Cond.lays "WellKnotsModel" "WellKnotsModel" "at" "I" ∈ GG := gg_t 862 (by decide +kernel) rfl
theorem mw_864 : Cond.lays "WellKnotsModel" "WellKnotsModel" "sort" "I" ∈ GG := gg_t 864 (by decide +kernel) rfl
theorem mw_866 : Cond.lays "WellKnotsModel" "WellKnotsModel" "start" "I" ∈ GG := gg_t 866 (by decide +kernel) rfl
theorem mw_868 : Cond.lays "WellKnotsModel" "WellKnotsModel" "value" "I" ∈ GG := gg_t 868 (by decide +kernel) rfl
theorem mw_870 : Cond.laysFinal "WellKnotsModel" "WellKnotsModel" "walk" "[I" ∈ GG := gg_t 870 (by decide +kernel) rfl
theorem mw_872 : Cond.laysFinal "WellKnotsModel" "WellKnotsModel" "best" "[I" ∈ GG := gg_t 872 (by decide +kernel) rfl
theorem mw_874 : Cond.lays "WellKnotsModel" "WellKnotsModel" "bestMany" "I" ∈ GG := gg_t 874 (by decide +kernel) rfl
theorem mw_876 : Cond.lays "WellKnotsModel" "WellKnotsModel" "bestStrike" "I" ∈ GG := gg_t 876 (by decide +kernel) rfl
theorem mw_878 : Cond.laysFinal "WellKnotsModel" "WellKnotsModel" "parts" "[I" ∈ GG := gg_t 878 (by decide +kernel) rfl
theorem mw_880 : Cond.laysFinal "WellKnotsModel" "WellKnotsModel" "heats" "[I" ∈ GG := gg_t 880 (by decide +kernel) rfl
theorem mw_883 : Cond.methodLink RL 17 yX9_type ∈ GG := gg_t 883 (by decide +kernel) rfl
theorem mw_884 : Cond.instanceMethod yX9_type ∈ GG := gg_t 884 (by decide +kernel) rfl
theorem mw_885 : Cond.selects RX9 yX9_type yX9_type ∈ GG := gg_t 885 (by decide +kernel) rfl
theorem mw_886 : Cond.code yX9_type cX9_type 2 (some .int) ∈ GG := gg_t 886 (by decide +kernel) rfl
theorem mw_887 : Cond.methodLink RL 22 yX9_clear ∈ GG := gg_t 887 (by decide +kernel) rfl
theorem mw_888 : Cond.instanceMethod yX9_clear ∈ GG := gg_t 888 (by decide +kernel) rfl
theorem mw_889 : Cond.selects RX9 yX9_clear yX9_clear ∈ GG := gg_t 889 (by decide +kernel) rfl
theorem mw_890 : Cond.code yX9_clear cX9_clear 2 (some .int) ∈ GG := gg_t 890 (by decide +kernel) rfl
theorem mw_891 : Cond.methodLink RL 26 yX9_road ∈ GG := gg_t 891 (by decide +kernel) rfl
theorem mw_892 : Cond.instanceMethod yX9_road ∈ GG := gg_t 892 (by decide +kernel) rfl
theorem mw_893 : Cond.selects RX9 yX9_road yX9_road ∈ GG := gg_t 893 (by decide +kernel) rfl
theorem mw_894 : Cond.code yX9_road cX9_road 1 (some .int) ∈ GG := gg_t 894 (by decide +kernel) rfl
theorem mw_895 : Cond.methodLink RL 31 yX9_stage ∈ GG := gg_t 895 (by decide +kernel) rfl
theorem mw_896 : Cond.instanceMethod yX9_stage ∈ GG := gg_t 896 (by decide +kernel) rfl
theorem mw_897 : Cond.selects RX9 yX9_stage yX9_stage ∈ GG := gg_t 897 (by decide +kernel) rfl
theorem mw_898 : Cond.code yX9_stage cX9_stage 3 (some .int) ∈ GG := gg_t 898 (by decide +kernel) rfl
theorem mw_899 : Cond.methodLink RX9 108 yX9_isStage ∈ GG := gg_t 899 (by decide +kernel) rfl
theorem mw_901 : Cond.instanceMethod yX9_isStage ∈ GG := gg_t 901 (by decide +kernel) rfl
theorem mw_902 : Cond.code yX9_isStage cX9_isStage 2 (some .boolean) ∈ GG := gg_t 902 (by decide +kernel) rfl
theorem mw_903 : Cond.methodLink RL 35 yX9_caravan ∈ GG := gg_t 903 (by decide +kernel) rfl
theorem mw_904 : Cond.instanceMethod yX9_caravan ∈ GG := gg_t 904 (by decide +kernel) rfl
theorem mw_905 : Cond.selects RX9 yX9_caravan yX9_caravan ∈ GG := gg_t 905 (by decide +kernel) rfl
theorem mw_906 : Cond.code yX9_caravan cX9_caravan 3 (some .int) ∈ GG := gg_t 906 (by decide +kernel) rfl
theorem mw_907 : Cond.methodLink RX9 114 yX9_isCaravan ∈ GG := gg_t 907 (by decide +kernel) rfl
theorem mw_909 : Cond.instanceMethod yX9_isCaravan ∈ GG := gg_t 909 (by decide +kernel) rfl
theorem mw_910 : Cond.code yX9_isCaravan cX9_isCaravan 2 (some .boolean) ∈ GG := gg_t 910 (by decide +kernel) rfl
theorem mw_911 : Cond.methodLink RX9 117 yX9_isAlive ∈ GG := gg_t 911 (by decide +kernel) rfl
theorem mw_913 : Cond.instanceMethod yX9_isAlive ∈ GG := gg_t 913 (by decide +kernel) rfl
theorem mw_914 : Cond.code yX9_isAlive cX9_isAlive 2 (some .boolean) ∈ GG := gg_t 914 (by decide +kernel) rfl
theorem mw_915 : Cond.methodLink RX9 111 yX9_has ∈ GG := gg_t 915 (by decide +kernel) rfl
theorem mw_916 : Cond.static yX9_has ∈ GG := gg_t 916 (by decide +kernel) rfl
theorem mw_917 : Cond.code yX9_has cX9_has 2 (some .boolean) ∈ GG := gg_t 917 (by decide +kernel) rfl
theorem mw_918 : Cond.methodLink RX9 120 yX9_knotsOf ∈ GG := gg_t 918 (by decide +kernel) rfl
theorem mw_920 : Cond.instanceMethod yX9_knotsOf ∈ GG := gg_t 920 (by decide +kernel) rfl
theorem mw_921 : Cond.code yX9_knotsOf cX9_knotsOf 4 (some .int) ∈ GG := gg_t 921 (by decide +kernel) rfl
theorem mw_922 : Cond.methodLink RL 39 yX9_well ∈ GG := gg_t 922 (by decide +kernel) rfl
theorem mw_923 : Cond.instanceMethod yX9_well ∈ GG := gg_t 923 (by decide +kernel) rfl
theorem mw_924 : Cond.selects RX9 yX9_well yX9_well ∈ GG := gg_t 924 (by decide +kernel) rfl
theorem mw_925 : Cond.code yX9_well cX9_well 3 (some .int) ∈ GG := gg_t 925 (by decide +kernel) rfl
theorem mw_926 : Cond.methodLink RX9 126 yX9_isWell ∈ GG := gg_t 926 (by decide +kernel) rfl
theorem mw_928 : Cond.instanceMethod yX9_isWell ∈ GG := gg_t 928 (by decide +kernel) rfl
theorem mw_929 : Cond.code yX9_isWell cX9_isWell 2 (some .boolean) ∈ GG := gg_t 929 (by decide +kernel) rfl
theorem mw_930 : Cond.constant RX9 129 (-1000000) ∈ GG := gg_t 930 (by decide +kernel) rfl
theorem mw_931 : Cond.methodLink RX9 130 yX9_knotsAt ∈ GG := gg_t 931 (by decide +kernel) rfl
theorem mw_933 : Cond.instanceMethod yX9_knotsAt ∈ GG := gg_t 933 (by decide +kernel) rfl
theorem mw_934 : Cond.code yX9_knotsAt cX9_knotsAt 4 (some .int) ∈ GG := gg_t 934 (by decide +kernel) rfl
theorem mw_935 : Cond.methodLink RX9 123 yX9_duesOf ∈ GG := gg_t 935 (by decide +kernel) rfl
theorem mw_937 : Cond.instanceMethod yX9_duesOf ∈ GG := gg_t 937 (by decide +kernel) rfl
theorem mw_938 : Cond.code yX9_duesOf cX9_duesOf 4 (some .int) ∈ GG := gg_t 938 (by decide +kernel) rfl
theorem mw_939 : Cond.methodLink RX9 133 yX9_net ∈ GG := gg_t 939 (by decide +kernel) rfl
theorem mw_941 : Cond.instanceMethod yX9_net ∈ GG := gg_t 941 (by decide +kernel) rfl
theorem mw_942 : Cond.code yX9_net cX9_net 4 (some .int) ∈ GG := gg_t 942 (by decide +kernel) rfl
theorem mw_943 : Cond.methodLink RL 43 yX9_knots ∈ GG := gg_t 943 (by decide +kernel) rfl
theorem mw_944 : Cond.instanceMethod yX9_knots ∈ GG := gg_t 944 (by decide +kernel) rfl
theorem mw_945 : Cond.selects RX9 yX9_knots yX9_knots ∈ GG := gg_t 945 (by decide +kernel) rfl
theorem mw_946 : Cond.code yX9_knots cX9_knots 3 (some .int) ∈ GG := gg_t 946 (by decide +kernel) rfl
theorem mw_947 : Cond.methodLink RL 47 yX9_dues ∈ GG := gg_t 947 (by decide +kernel) rfl
end
section
theorem mw_948 : Cond.instanceMethod yX9_dues ∈ GG := gg_t 948 (by decide +kernel) rfl
theorem mw_949 : Cond.selects RX9 yX9_dues yX9_dues ∈ GG := gg_t 949 (by decide +kernel) rfl
theorem mw_950 : Cond.code yX9_dues cX9_dues 3 (some .int) ∈ GG := gg_t 950 (by decide +kernel) rfl
theorem mw_951 : Cond.methodLink RL 52 yX9_goes ∈ GG := gg_t 951 (by decide +kernel) rfl
theorem mw_952 : Cond.instanceMethod yX9_goes ∈ GG := gg_t 952 (by decide +kernel) rfl
theorem mw_953 : Cond.selects RX9 yX9_goes yX9_goes ∈ GG := gg_t 953 (by decide +kernel) rfl
theorem mw_954 : Cond.code yX9_goes cX9_goes 8 (some .int) ∈ GG := gg_t 954 (by decide +kernel) rfl
theorem mw_955 : Cond.methodLink RX9 136 yX9_keeps ∈ GG := gg_t 955 (by decide +kernel) rfl
theorem mw_957 : Cond.instanceMethod yX9_keeps ∈ GG := gg_t 957 (by decide +kernel) rfl
theorem mw_958 : Cond.code yX9_keeps cX9_keeps 3 none ∈ GG := gg_t 958 (by decide +kernel) rfl
theorem mw_959 : Cond.methodLink RX9 139 yX9_dies ∈ GG := gg_t 959 (by decide +kernel) rfl
theorem mw_961 : Cond.instanceMethod yX9_dies ∈ GG := gg_t 961 (by decide +kernel) rfl
theorem mw_962 : Cond.code yX9_dies cX9_dies 3 none ∈ GG := gg_t 962 (by decide +kernel) rfl
theorem mw_963 : Cond.methodLink RX9 143 yX9_paid ∈ GG := gg_t 963 (by decide +kernel) rfl
theorem mw_965 : Cond.instanceMethod yX9_paid ∈ GG := gg_t 965 (by decide +kernel) rfl
theorem mw_966 : Cond.code yX9_paid cX9_paid 5 (some .int) ∈ GG := gg_t 966 (by decide +kernel) rfl
theorem mw_967 : Cond.methodLink RL 56 yX9_drinks ∈ GG := gg_t 967 (by decide +kernel) rfl
theorem mw_968 : Cond.instanceMethod yX9_drinks ∈ GG := gg_t 968 (by decide +kernel) rfl
theorem mw_969 : Cond.selects RX9 yX9_drinks yX9_drinks ∈ GG := gg_t 969 (by decide +kernel) rfl
theorem mw_970 : Cond.code yX9_drinks cX9_drinks 4 (some .int) ∈ GG := gg_t 970 (by decide +kernel) rfl
theorem mw_971 : Cond.methodLink RL 60 yX9_fills ∈ GG := gg_t 971 (by decide +kernel) rfl
theorem mw_972 : Cond.instanceMethod yX9_fills ∈ GG := gg_t 972 (by decide +kernel) rfl
theorem mw_973 : Cond.selects RX9 yX9_fills yX9_fills ∈ GG := gg_t 973 (by decide +kernel) rfl
theorem mw_974 : Cond.code yX9_fills cX9_fills 4 (some .int) ∈ GG := gg_t 974 (by decide +kernel) rfl
theorem mw_975 : Cond.methodLink RL 65 yX9_hands ∈ GG := gg_t 975 (by decide +kernel) rfl
theorem mw_976 : Cond.instanceMethod yX9_hands ∈ GG := gg_t 976 (by decide +kernel) rfl
theorem mw_977 : Cond.selects RX9 yX9_hands yX9_hands ∈ GG := gg_t 977 (by decide +kernel) rfl
theorem mw_978 : Cond.code yX9_hands cX9_hands 7 (some .int) ∈ GG := gg_t 978 (by decide +kernel) rfl
theorem mw_979 : Cond.methodLink RL 69 yX9_strikes ∈ GG := gg_t 979 (by decide +kernel) rfl
theorem mw_980 : Cond.instanceMethod yX9_strikes ∈ GG := gg_t 980 (by decide +kernel) rfl
theorem mw_981 : Cond.selects RX9 yX9_strikes yX9_strikes ∈ GG := gg_t 981 (by decide +kernel) rfl
theorem mw_982 : Cond.code yX9_strikes cX9_strikes 2 (some .int) ∈ GG := gg_t 982 (by decide +kernel) rfl
theorem mw_983 : Cond.methodLink RX9 162 yX9_rings ∈ GG := gg_t 983 (by decide +kernel) rfl
theorem mw_985 : Cond.instanceMethod yX9_rings ∈ GG := gg_t 985 (by decide +kernel) rfl
theorem mw_986 : Cond.code yX9_rings cX9_rings 4 none ∈ GG := gg_t 986 (by decide +kernel) rfl
theorem mw_987 : Cond.methodLink RX9 156 yX9_mayWalk ∈ GG := gg_t 987 (by decide +kernel) rfl
theorem mw_989 : Cond.instanceMethod yX9_mayWalk ∈ GG := gg_t 989 (by decide +kernel) rfl
theorem mw_990 : Cond.code yX9_mayWalk cX9_mayWalk 5 (some .boolean) ∈ GG := gg_t 990 (by decide +kernel) rfl
theorem mw_991 : Cond.methodLink RX9 159 yX9_tries ∈ GG := gg_t 991 (by decide +kernel) rfl
theorem mw_993 : Cond.instanceMethod yX9_tries ∈ GG := gg_t 993 (by decide +kernel) rfl
theorem mw_994 : Cond.code yX9_tries cX9_tries 5 none ∈ GG := gg_t 994 (by decide +kernel) rfl
theorem mw_995 : Cond.methodLink RX9 147 yX9_strikeOf ∈ GG := gg_t 995 (by decide +kernel) rfl
theorem mw_997 : Cond.instanceMethod yX9_strikeOf ∈ GG := gg_t 997 (by decide +kernel) rfl
theorem mw_998 : Cond.code yX9_strikeOf cX9_strikeOf 5 (some .int) ∈ GG := gg_t 998 (by decide +kernel) rfl
theorem mw_999 : Cond.methodLink RL 73 yX9_undo ∈ GG := gg_t 999 (by decide +kernel) rfl
theorem mw_1000 : Cond.instanceMethod yX9_undo ∈ GG := gg_t 1000 (by decide +kernel) rfl
theorem mw_1001 : Cond.selects RX9 yX9_undo yX9_undo ∈ GG := gg_t 1001 (by decide +kernel) rfl
theorem mw_1002 : Cond.code yX9_undo cX9_undo 3 (some .int) ∈ GG := gg_t 1002 (by decide +kernel) rfl
theorem mw_1003 : Cond.methodLink RL 77 yX9_now ∈ GG := gg_t 1003 (by decide +kernel) rfl
theorem mw_1004 : Cond.instanceMethod yX9_now ∈ GG := gg_t 1004 (by decide +kernel) rfl
theorem mw_1005 : Cond.selects RX9 yX9_now yX9_now ∈ GG := gg_t 1005 (by decide +kernel) rfl
theorem mw_1006 : Cond.code yX9_now cX9_now 5 (some .int) ∈ GG := gg_t 1006 (by decide +kernel) rfl
theorem mw_1007 : Cond.methodLink RX9 171 yX9_settle ∈ GG := gg_t 1007 (by decide +kernel) rfl
theorem mw_1009 : Cond.instanceMethod yX9_settle ∈ GG := gg_t 1009 (by decide +kernel) rfl
theorem mw_1010 : Cond.code yX9_settle cX9_settle 6 (some .int) ∈ GG := gg_t 1010 (by decide +kernel) rfl
theorem mw_1011 : Cond.methodLink RX9 165 yX9_netOf ∈ GG := gg_t 1011 (by decide +kernel) rfl
theorem mw_1013 : Cond.instanceMethod yX9_netOf ∈ GG := gg_t 1013 (by decide +kernel) rfl
theorem mw_1014 : Cond.code yX9_netOf cX9_netOf 4 (some .int) ∈ GG := gg_t 1014 (by decide +kernel) rfl
theorem mw_1015 : Cond.methodLink RX9 168 yX9_ones ∈ GG := gg_t 1015 (by decide +kernel) rfl
theorem mw_1016 : Cond.static yX9_ones ∈ GG := gg_t 1016 (by decide +kernel) rfl
theorem mw_1017 : Cond.code yX9_ones cX9_ones 3 (some .int) ∈ GG := gg_t 1017 (by decide +kernel) rfl
theorem mw_1018 : Cond.methodLink RX9 175 yX9_salt ∈ GG := gg_t 1018 (by decide +kernel) rfl
theorem mw_1020 : Cond.instanceMethod yX9_salt ∈ GG := gg_t 1020 (by decide +kernel) rfl
theorem mw_1021 : Cond.code yX9_salt cX9_salt 5 (some .int) ∈ GG := gg_t 1021 (by decide +kernel) rfl
theorem mw_1022 : Cond.methodLink RL 81 yX9_pass ∈ GG := gg_t 1022 (by decide +kernel) rfl
theorem mw_1023 : Cond.instanceMethod yX9_pass ∈ GG := gg_t 1023 (by decide +kernel) rfl
theorem mw_1024 : Cond.selects RX9 yX9_pass yX9_pass ∈ GG := gg_t 1024 (by decide +kernel) rfl
theorem mw_1025 : Cond.code yX9_pass cX9_pass 13 (some .int) ∈ GG := gg_t 1025 (by decide +kernel) rfl
theorem mw_1026 : Cond.methodLink RX9 178 yX9_reckons ∈ GG := gg_t 1026 (by decide +kernel) rfl
theorem mw_1028 : Cond.instanceMethod yX9_reckons ∈ GG := gg_t 1028 (by decide +kernel) rfl
theorem mw_1029 : Cond.code yX9_reckons cX9_reckons 8 none ∈ GG := gg_t 1029 (by decide +kernel) rfl
theorem mw_1030 : Cond.methodLink RL 85 yX9_ring ∈ GG := gg_t 1030 (by decide +kernel) rfl
theorem mw_1031 : Cond.instanceMethod yX9_ring ∈ GG := gg_t 1031 (by decide +kernel) rfl
theorem mw_1032 : Cond.selects RX9 yX9_ring yX9_ring ∈ GG := gg_t 1032 (by decide +kernel) rfl
theorem mw_1033 : Cond.code yX9_ring cX9_ring 2 (some .int) ∈ GG := gg_t 1033 (by decide +kernel) rfl
theorem mw_1034 : Cond.methodLink RL 90 yX9_safe ∈ GG := gg_t 1034 (by decide +kernel) rfl
theorem mw_1035 : Cond.instanceMethod yX9_safe ∈ GG := gg_t 1035 (by decide +kernel) rfl
theorem mw_1036 : Cond.selects RX9 yX9_safe yX9_safe ∈ GG := gg_t 1036 (by decide +kernel) rfl
theorem mw_1037 : Cond.code yX9_safe cX9_safe 13 (some .int) ∈ GG := gg_t 1037 (by decide +kernel) rfl
theorem mw_1038 : Cond.methodLink RL 94 yX9_hears ∈ GG := gg_t 1038 (by decide +kernel) rfl
theorem mw_1039 : Cond.instanceMethod yX9_hears ∈ GG := gg_t 1039 (by decide +kernel) rfl
theorem mw_1040 : Cond.selects RX9 yX9_hears yX9_hears ∈ GG := gg_t 1040 (by decide +kernel) rfl
theorem mw_1041 : Cond.code yX9_hears cX9_hears 5 (some .int) ∈ GG := gg_t 1041 (by decide +kernel) rfl
theorem mw_1042 : Cond.methodLink RL 98 yX9_forget ∈ GG := gg_t 1042 (by decide +kernel) rfl
theorem mw_1043 : Cond.instanceMethod yX9_forget ∈ GG := gg_t 1043 (by decide +kernel) rfl
theorem mw_1044 : Cond.selects RX9 yX9_forget yX9_forget ∈ GG := gg_t 1044 (by decide +kernel) rfl
theorem mw_1045 : Cond.code yX9_forget cX9_forget 2 (some .int) ∈ GG := gg_t 1045 (by decide +kernel) rfl
theorem mw_1046 : Cond.methodLink RL 102 yX9_stones ∈ GG := gg_t 1046 (by decide +kernel) rfl
theorem mw_1047 : Cond.instanceMethod yX9_stones ∈ GG := gg_t 1047 (by decide +kernel) rfl
theorem mw_1048 : Cond.selects RX9 yX9_stones yX9_stones ∈ GG := gg_t 1048 (by decide +kernel) rfl
theorem mw_1049 : Cond.code yX9_stones cX9_stones 6 (some .int) ∈ GG := gg_t 1049 (by decide +kernel) rfl
theorem mw_1050 : Cond.methodLink RL 106 yX9_mark ∈ GG := gg_t 1050 (by decide +kernel) rfl
theorem mw_1051 : Cond.instanceMethod yX9_mark ∈ GG := gg_t 1051 (by decide +kernel) rfl
theorem mw_1052 : Cond.selects RX9 yX9_mark yX9_mark ∈ GG := gg_t 1052 (by decide +kernel) rfl
theorem mw_1053 : Cond.code yX9_mark cX9_mark 6 (some .int) ∈ GG := gg_t 1053 (by decide +kernel) rfl
theorem mw_1054 : Cond.constantLong RX9 185 (11) ∈ GG := gg_t 1054 (by decide +kernel) rfl
theorem mw_1055 : Cond.constantLong RX9 187 (101) ∈ GG := gg_t 1055 (by decide +kernel) rfl
theorem mw_1056 : Cond.constantLong RX9 189 (1011) ∈ GG := gg_t 1056 (by decide +kernel) rfl
theorem mw_1057 : Cond.constantLong RX9 191 (10101) ∈ GG := gg_t 1057 (by decide +kernel) rfl
theorem mw_1058 : Cond.constantLong RX9 193 (100001) ∈ GG := gg_t 1058 (by decide +kernel) rfl
theorem mw_1059 : Cond.methodLink RL 110 yX9_keep ∈ GG := gg_t 1059 (by decide +kernel) rfl
theorem mw_1060 : Cond.instanceMethod yX9_keep ∈ GG := gg_t 1060 (by decide +kernel) rfl
theorem mw_1061 : Cond.selects RX9 yX9_keep yX9_keep ∈ GG := gg_t 1061 (by decide +kernel) rfl
theorem mw_1062 : Cond.code yX9_keep cX9_keep 3 (some .int) ∈ GG := gg_t 1062 (by decide +kernel) rfl
theorem mw_1063 : Cond.methodLink RL 114 yX9_back ∈ GG := gg_t 1063 (by decide +kernel) rfl
theorem mw_1064 : Cond.instanceMethod yX9_back ∈ GG := gg_t 1064 (by decide +kernel) rfl
theorem mw_1065 : Cond.selects RX9 yX9_back yX9_back ∈ GG := gg_t 1065 (by decide +kernel) rfl
theorem mw_1066 : Cond.code yX9_back cX9_back 3 (some .int) ∈ GG := gg_t 1066 (by decide +kernel) rfl
theorem mw_1067 : Cond.methodLink RL 118 yX9_count ∈ GG := gg_t 1067 (by decide +kernel) rfl
theorem mw_1068 : Cond.instanceMethod yX9_count ∈ GG := gg_t 1068 (by decide +kernel) rfl
theorem mw_1069 : Cond.selects RX9 yX9_count yX9_count ∈ GG := gg_t 1069 (by decide +kernel) rfl
theorem mw_1070 : Cond.code yX9_count cX9_count 2 (some .int) ∈ GG := gg_t 1070 (by decide +kernel) rfl
theorem mw_1071 : Cond.methodLink RL 123 yX9_trace ∈ GG := gg_t 1071 (by decide +kernel) rfl
theorem mw_1072 : Cond.instanceMethod yX9_trace ∈ GG := gg_t 1072 (by decide +kernel) rfl
theorem mw_1073 : Cond.selects RX9 yX9_trace yX9_trace ∈ GG := gg_t 1073 (by decide +kernel) rfl
theorem mw_1074 : Cond.code yX9_trace cX9_trace 1 (some .long) ∈ GG := gg_t 1074 (by decide +kernel) rfl
theorem ms_0 : Cond.selects RX6 yX6_endOfRow yX6_endOfRow ∈ GG := gg_s 0 (by decide +kernel) rfl
theorem ms_1 : Cond.selects RX6 yX6_readNumber yX6_readNumber ∈ GG := gg_s 1 (by decide +kernel) rfl
theorem ms_2 : Cond.selects RX4 yX4_tellItem yX4_tellItem ∈ GG := gg_s 2 (by decide +kernel) rfl
theorem ms_3 : Cond.selects RX4 yX4_tellWell yX4_tellWell ∈ GG := gg_s 3 (by decide +kernel) rfl
theorem ms_4 : Cond.selects RX4 yX4_hear yX4_hear ∈ GG := gg_s 4 (by decide +kernel) rfl
theorem ms_5 : Cond.selects RX4 yX4_tellStage yX4_tellStage ∈ GG := gg_s 5 (by decide +kernel) rfl
theorem ms_6 : Cond.selects RX4 yX4_tellCaravan yX4_tellCaravan ∈ GG := gg_s 6 (by decide +kernel) rfl
theorem ms_7 : Cond.selects RX4 yX4_tellKnots yX4_tellKnots ∈ GG := gg_s 7 (by decide +kernel) rfl
theorem ms_8 : Cond.selects RX4 yX4_tellDues yX4_tellDues ∈ GG := gg_s 8 (by decide +kernel) rfl
theorem ms_9 : Cond.selects RX8 yX8_canBorrow yX8_canBorrow ∈ GG := gg_s 9 (by decide +kernel) rfl
theorem ms_10 : Cond.selects RX8 yX8_borrow yX8_borrow ∈ GG := gg_s 10 (by decide +kernel) rfl
theorem ms_11 : Cond.selects RX3 yX3_walk yX3_walk ∈ GG := gg_s 11 (by decide +kernel) rfl
theorem ms_12 : Cond.selects RX3 yX3_offer yX3_offer ∈ GG := gg_s 12 (by decide +kernel) rfl
theorem ms_13 : Cond.selects RX4 yX4_endsEachStage yX4_endsEachStage ∈ GG := gg_s 13 (by decide +kernel) rfl
theorem ms_14 : Cond.selects RX7 yX7_firstOnto yX7_firstOnto ∈ GG := gg_s 14 (by decide +kernel) rfl
theorem ms_15 : Cond.selects RX7 yX7_heatOver yX7_heatOver ∈ GG := gg_s 15 (by decide +kernel) rfl
theorem ms_16 : Cond.selects RX7 yX7_lengthen yX7_lengthen ∈ GG := gg_s 16 (by decide +kernel) rfl
theorem ms_17 : Cond.selects RX8 yX8_markAsWell yX8_markAsWell ∈ GG := gg_s 17 (by decide +kernel) rfl
theorem ms_18 : Cond.selects RX8 yX8_markAsKnot yX8_markAsKnot ∈ GG := gg_s 18 (by decide +kernel) rfl
theorem ms_19 : Cond.selects RX8 yX8_markAsDew yX8_markAsDew ∈ GG := gg_s 19 (by decide +kernel) rfl
theorem ms_20 : Cond.selects RX8 yX8_markAsChild yX8_markAsChild ∈ GG := gg_s 20 (by decide +kernel) rfl
theorem ms_21 : Cond.selects RX8 yX8_markAsCamel yX8_markAsCamel ∈ GG := gg_s 21 (by decide +kernel) rfl
theorem ms_22 : Cond.selects RX8 yX8_markAsMirage yX8_markAsMirage ∈ GG := gg_s 22 (by decide +kernel) rfl
theorem ms_23 : Cond.selects RX8 yX8_imageOf yX8_imageOf ∈ GG := gg_s 23 (by decide +kernel) rfl
theorem ms_24 : Cond.selects RX9 yX9_reads yX9_reads ∈ GG := gg_s 24 (by decide +kernel) rfl
theorem ms_25 : Cond.selects RX9 yX9_token yX9_token ∈ GG := gg_s 25 (by decide +kernel) rfl
theorem ms_26 : Cond.selects RX9 yX9_letterAt yX9_letterAt ∈ GG := gg_s 26 (by decide +kernel) rfl
theorem ms_27 : Cond.selects RX9 yX9_readsItem yX9_readsItem ∈ GG := gg_s 27 (by decide +kernel) rfl
theorem ms_28 : Cond.selects RX9 yX9_number yX9_number ∈ GG := gg_s 28 (by decide +kernel) rfl
theorem ms_29 : Cond.selects RX9 yX9_readsStage yX9_readsStage ∈ GG := gg_s 29 (by decide +kernel) rfl
theorem ms_30 : Cond.selects RX9 yX9_readsCaravan yX9_readsCaravan ∈ GG := gg_s 30 (by decide +kernel) rfl
theorem ms_31 : Cond.selects RX9 yX9_readsDebt yX9_readsDebt ∈ GG := gg_s 31 (by decide +kernel) rfl
theorem ms_32 : Cond.selects RX9 yX9_begins yX9_begins ∈ GG := gg_s 32 (by decide +kernel) rfl
theorem ms_33 : Cond.selects RX9 yX9_isStage yX9_isStage ∈ GG := gg_s 33 (by decide +kernel) rfl
theorem ms_34 : Cond.selects RX9 yX9_isCaravan yX9_isCaravan ∈ GG := gg_s 34 (by decide +kernel) rfl
theorem ms_35 : Cond.selects RX9 yX9_isAlive yX9_isAlive ∈ GG := gg_s 35 (by decide +kernel) rfl
theorem ms_36 : Cond.selects RX9 yX9_knotsOf yX9_knotsOf ∈ GG := gg_s 36 (by decide +kernel) rfl
theorem ms_37 : Cond.selects RX9 yX9_isWell yX9_isWell ∈ GG := gg_s 37 (by decide +kernel) rfl
theorem ms_38 : Cond.selects RX9 yX9_knotsAt yX9_knotsAt ∈ GG := gg_s 38 (by decide +kernel) rfl
theorem ms_39 : Cond.selects RX9 yX9_duesOf yX9_duesOf ∈ GG := gg_s 39 (by decide +kernel) rfl
theorem ms_40 : Cond.selects RX9 yX9_net yX9_net ∈ GG := gg_s 40 (by decide +kernel) rfl
theorem ms_41 : Cond.selects RX9 yX9_keeps yX9_keeps ∈ GG := gg_s 41 (by decide +kernel) rfl
theorem ms_42 : Cond.selects RX9 yX9_dies yX9_dies ∈ GG := gg_s 42 (by decide +kernel) rfl
theorem ms_43 : Cond.selects RX9 yX9_paid yX9_paid ∈ GG := gg_s 43 (by decide +kernel) rfl
theorem ms_44 : Cond.selects RX9 yX9_rings yX9_rings ∈ GG := gg_s 44 (by decide +kernel) rfl
theorem ms_45 : Cond.selects RX9 yX9_mayWalk yX9_mayWalk ∈ GG := gg_s 45 (by decide +kernel) rfl
theorem ms_46 : Cond.selects RX9 yX9_tries yX9_tries ∈ GG := gg_s 46 (by decide +kernel) rfl
theorem ms_47 : Cond.selects RX9 yX9_strikeOf yX9_strikeOf ∈ GG := gg_s 47 (by decide +kernel) rfl
theorem ms_48 : Cond.selects RX9 yX9_settle yX9_settle ∈ GG := gg_s 48 (by decide +kernel) rfl
theorem ms_49 : Cond.selects RX9 yX9_netOf yX9_netOf ∈ GG := gg_s 49 (by decide +kernel) rfl
theorem ms_50 : Cond.selects RX9 yX9_salt yX9_salt ∈ GG := gg_s 50 (by decide +kernel) rfl
theorem ms_51 : Cond.selects RX9 yX9_reckons yX9_reckons ∈ GG := gg_s 51 (by decide +kernel) rfl
theorem layX0 : ∀ w ∈ u_ws RX0 TX0 3, w ∈ GG := List.forall_mem_cons.mpr ⟨mw_139, List.forall_mem_cons.mpr ⟨mw_141, List.forall_mem_cons.mpr ⟨mw_143, fun _ h => absurd h List.not_mem_nil⟩⟩⟩
theorem layX1 : ∀ w ∈ u_ws RX1 TX1 3, w ∈ GG := List.forall_mem_cons.mpr ⟨mw_122, List.forall_mem_cons.mpr ⟨mw_124, List.forall_mem_cons.mpr ⟨mw_126, fun _ h => absurd h List.not_mem_nil⟩⟩⟩
theorem layX2 : ∀ w ∈ u_ws RX2 TX2 1, w ∈ GG := List.forall_mem_cons.mpr ⟨mw_62, fun _ h => absurd h List.not_mem_nil⟩
theorem layX3 : ∀ w ∈ u_ws RX3 TX3 4, w ∈ GG := List.forall_mem_cons.mpr ⟨mw_158, List.forall_mem_cons.mpr ⟨mw_160, List.forall_mem_cons.mpr ⟨mw_162, List.forall_mem_cons.mpr ⟨mw_164, fun _ h => absurd h List.not_mem_nil⟩⟩⟩⟩
theorem layX4 : ∀ w ∈ u_ws RX4 TX4 12, w ∈ GG := List.forall_mem_cons.mpr ⟨mw_84, List.forall_mem_cons.mpr ⟨mw_86, List.forall_mem_cons.mpr ⟨mw_88, List.forall_mem_cons.mpr ⟨mw_90, List.forall_mem_cons.mpr ⟨mw_92, List.forall_mem_cons.mpr ⟨mw_94, List.forall_mem_cons.mpr ⟨mw_96, List.forall_mem_cons.mpr ⟨mw_98, List.forall_mem_cons.mpr ⟨mw_100, List.forall_mem_cons.mpr ⟨mw_102, List.forall_mem_cons.mpr ⟨mw_104, List.forall_mem_cons.mpr ⟨mw_106, fun _ h => absurd h List.not_mem_nil⟩⟩⟩⟩⟩⟩⟩⟩⟩⟩⟩⟩
theorem layX5 : ∀ w ∈ u_ws RX5 TX5 1, w ∈ GG := List.forall_mem_cons.mpr ⟨mw_199, fun _ h => absurd h List.not_mem_nil⟩
theorem layX6 : ∀ w ∈ u_ws RX6 TX6 6, w ∈ GG := List.forall_mem_cons.mpr ⟨mw_35, List.forall_mem_cons.mpr ⟨mw_37, List.forall_mem_cons.mpr ⟨mw_39, List.forall_mem_cons.mpr ⟨mw_41, List.forall_mem_cons.mpr ⟨mw_43, List.forall_mem_cons.mpr ⟨mw_45, fun _ h => absurd h List.not_mem_nil⟩⟩⟩⟩⟩⟩
theorem layX7 : ∀ w ∈ u_ws RX7 TX7 5, w ∈ GG := List.forall_mem_cons.mpr ⟨mw_181, List.forall_mem_cons.mpr ⟨mw_183, List.forall_mem_cons.mpr ⟨mw_185, List.forall_mem_cons.mpr ⟨mw_187, List.forall_mem_cons.mpr ⟨mw_189, fun _ h => absurd h List.not_mem_nil⟩⟩⟩⟩⟩
theorem layX8 : ∀ w ∈ u_ws RX8 TX8 12, w ∈ GG := List.forall_mem_cons.mpr ⟨mw_214, List.forall_mem_cons.mpr ⟨mw_216, List.forall_mem_cons.mpr ⟨mw_218, List.forall_mem_cons.mpr ⟨mw_220, List.forall_mem_cons.mpr ⟨mw_222, List.forall_mem_cons.mpr ⟨mw_224, List.forall_mem_cons.mpr ⟨mw_226, List.forall_mem_cons.mpr ⟨mw_228, List.forall_mem_cons.mpr ⟨mw_230, List.forall_mem_cons.mpr ⟨mw_232, List.forall_mem_cons.mpr ⟨mw_234, List.forall_mem_cons.mpr ⟨mw_236, fun _ h => absurd h List.not_mem_nil⟩⟩⟩⟩⟩⟩⟩⟩⟩⟩⟩⟩
theorem layX9 : ∀ w ∈ u_ws RX9 TX9 21, w ∈ GG := List.forall_mem_cons.mpr ⟨mw_840, List.forall_mem_cons.mpr ⟨mw_842, List.forall_mem_cons.mpr ⟨mw_844, List.forall_mem_cons.mpr ⟨mw_846, List.forall_mem_cons.mpr ⟨mw_848, List.forall_mem_cons.mpr ⟨mw_850, List.forall_mem_cons.mpr ⟨mw_852, List.forall_mem_cons.mpr ⟨mw_854, List.forall_mem_cons.mpr ⟨mw_856, List.forall_mem_cons.mpr ⟨mw_858, List.forall_mem_cons.mpr ⟨mw_860, List.forall_mem_cons.mpr ⟨mw_862, List.forall_mem_cons.mpr ⟨mw_864, List.forall_mem_cons.mpr ⟨mw_866, List.forall_mem_cons.mpr ⟨mw_868, List.forall_mem_cons.mpr ⟨mw_870, List.forall_mem_cons.mpr ⟨mw_872, List.forall_mem_cons.mpr ⟨mw_874, List.forall_mem_cons.mpr ⟨mw_876, List.forall_mem_cons.mpr ⟨mw_878, List.forall_mem_cons.mpr ⟨mw_880, fun _ h => absurd h List.not_mem_nil⟩⟩⟩⟩⟩⟩⟩⟩⟩⟩⟩⟩⟩⟩⟩⟩⟩⟩⟩⟩⟩
end
section
abbrev cls : List vw_C := [(RX0, TX0, 3), (RX1, TX1, 3), (RX2, TX2, 1), (RX3, TX3, 4), (RX4, TX4, 12), (RX5, TX5, 1), (RX6, TX6, 6), (RX7, TX7, 5), (RX8, TX8, 12), (RX9, TX9, 21)]
def nestF : List (String × Nat × String × String × String) := [("WellKnots$Way", 48, "WellKnots$Road", "wells", "I"), ("WellKnots", 208, "WellKnots$Road", "wells", "I"), ("WellKnots$Way", 71, "WellKnots$Road", "stages", "I"), ("WellKnots", 306, "WellKnots$Road", "stages", "I"), ("WellKnots", 309, "WellKnots$Road", "caravans", "I"), ("WellKnots", 86, "WellKnots$Road", "start", "LWellKnots$Moment;"), ("WellKnots", 123, "WellKnots$Ledger", "now", "LWellKnots$Moment;"), ("WellKnots", 230, "WellKnots$Ledger", "undos", "I"), ("WellKnots", 270, "WellKnots$Hearsay", "size", "I"), ("WellKnots", 215, "WellKnots$Ring", "size", "I"), ("WellKnots", 220, "WellKnots$Ring", "strike", "I"), ("WellKnots", 255, "WellKnots$Way", "length", "I"), ("WellKnots", 258, "WellKnots$Way", "firstStage", "I"), ("WellKnots", 261, "WellKnots$Way", "firstCups", "I")]
def nestM : List (String × Nat × MethodName) := [("WellKnots", 9, ⟨"WellKnots$Text", "<init>", "()V"⟩), ("WellKnots", 18, ⟨"WellKnots$Road", "<init>", "()V"⟩), ("WellKnots$Road", 36, ⟨"WellKnots$Moment", "<init>", "()V"⟩), ("WellKnots", 28, ⟨"WellKnots$Ledger", "<init>", "()V"⟩), ("WellKnots$Ledger", 11, ⟨"WellKnots$Moment", "<init>", "()V"⟩), ("WellKnots", 41, ⟨"WellKnots$Hearsay", "<init>", "()V"⟩), ("WellKnots", 48, ⟨"WellKnots$Ring", "<init>", "()V"⟩), ("WellKnots", 55, ⟨"WellKnots$Way", "<init>", "()V"⟩), ("WellKnots", 62, ⟨"WellKnots$Settling", "<init>", "()V"⟩), ("WellKnots$Text", 35, ⟨"WellKnots", "within", "(III)Z"⟩), ("WellKnots$Moment", 31, ⟨"WellKnots", "hasBit", "(II)Z"⟩), ("WellKnots$Ring", 44, ⟨"WellKnots", "hasBit", "(II)Z"⟩), ("WellKnots$Settling", 24, ⟨"WellKnots", "hasBit", "(II)Z"⟩), ("WellKnots$Road", 88, ⟨"WellKnots", "hasBit", "(II)Z"⟩), ("WellKnots$Hearsay", 22, ⟨"WellKnots", "within", "(III)Z"⟩)]
/-- the nest mates' links: words that no method's list can hold -/
def NW (U : State) : Prop := (∀ x ∈ nestF, va_Nw (.fieldLinkNest x.1 x.2.1 x.2.2.1 x.2.2.2.1 x.2.2.2.2 "WellKnots") U) ∧ ∀ x ∈ nestM, va_Nw (.methodLinkNest x.1 x.2.1 x.2.2 "WellKnots") U
theorem NW.warm {s U : State} (hW : s.WarmedH U.vm) (h : NW s) : NW U := ⟨fun x hx => va_Nw.warmF hW (h.1 x hx), fun x hx => va_Nw.warmM hW (h.2 x hx)⟩
theorem NW.same {s U : State} (hv : s.vm = U.vm) (h : NW s) : NW U := ⟨fun x hx => va_Nw.same rfl hv (h.1 x hx), fun x hx => va_Nw.same rfl hv (h.2 x hx)⟩
abbrev tyl (cI cZ : ClassId) : List (ClassId × FieldType) := [(cI, .int), (cZ, .boolean)]
abbrev gA (z : Nat) : Nat → Prop := fun q => z ≤ q
/-- the room of a method whose calls are h deep -/
abbrev rmH (h : Nat) : Room := { frames := h, cells := 0, slots := 0, locals := 100 * h }
def gB (D : va_G) (cI cZ : ClassId) (z : Nat) (ws : va_W) (U : State) : Prop := va_P D cls ws U.heap ∧ va_K D cls (tyl cI cZ) U ∧ va_D (gA z) ws
def gP (D : va_G) (cI cZ : ClassId) (z : Nat) (ws : va_W) (av : List Value) : Array Value → State → Prop := fun v U => v = av.toArray ∧ gB D cI cZ z ws U ∧ NW U ∧ z ≤ U.heap.size
def gQ (D : va_G) (cI cZ : ClassId) (z : Nat) (r : Option Value) (ws : va_W) : Array Value → State → Outcome → State → Prop := fun _ st oc t => (oc = .returned r ∧ gB D cI cZ z ws t) ∧ va_F (gA z) st t
theorem gP_blind {D : va_G} {cI cZ : ClassId} {z : Nat} {ws : va_W} {av : List Value} : FrameBlind (gP D cI cZ z ws av) := fun a U g mk q => by
  obtain ⟨q0, ⟨qP, qK, qD⟩, qN, qz⟩ := q
  exact ⟨q0, ⟨qP, va_K.moved (u := U) (U := U.calling g mk a) (Vm.Alike.refl U.vm) qK, qD⟩, NW.same rfl qN, qz⟩
/-- what a method's walk has at hand -/
def gE (p : Program) (s : State) (m : MethodId) (args : Array Value) (c : Code) (cc : ByteArray) (nL : Nat) (own : String) (D : va_G) (cI cZ : ClassId) (z : Nat) : Prop :=
  p.tables.exec = Jvm.exec ∧ c.code = cc ∧ c.maxLocals = nL ∧ s.vm.findClass own = some m.cls ∧ (∀ w ∈ GG, w.before args s = true) ∧ va_K D cls (tyl cI cZ) s ∧ NW s ∧ z ≤ s.heap.size
/-- and of the heap -/
def gH (D : va_G) (z : Nat) (s : State) (ws : va_W) (H : Heap) (locs : List Loc) : Prop := va_P D cls ws H ∧ va_D (gA z) ws ∧ va_S (gA z) s.heap H locs
/-- a contract, in short -/
abbrev gM (l : Launch) (y : MethodName) (cc : ByteArray) (nL : Nat) (ret : Option FieldType) (h : Nat) (D : va_G) (cI cZ : ClassId) (z : Nat) (ws : va_W) (av : List Value) (r : Option Value) (ws' : va_W) : Prop :=
  Met l y (Cond.code y cc nL ret :: GG) (rmH h) (gP D cI cZ z ws av) (gQ D cI cZ z r ws') 0 0 (gA z)
theorem g_met {l : Launch} {y : MethodName} {cc : ByteArray} {nL : Nat} {ret : Option FieldType} {h : Nat} {D : va_G} {cI cZ : ClassId} {z : Nat} {ws ws' : va_W} {av : List Value} {r : Option Value} {own : String} (hy : plainName y.cls = true) (ho : y.cls = own) (hn : (lg_sl av).length ≤ nL)
    (k : ∀ (p : Program) (e : Env) (s : State) (m : MethodId) (below : List Frame) (meth : Method) (c : Code) (ls : Array Slot) (Q : State → Prop), gE p s m av.toArray c cc nL own D cI cZ z → meth.sig.returnType = ret → meth.locks = false → gH D z s ws s.heap [] → lv_has ls nL (lv_args 0 av) →
      Q = MQ below (gQ D cI cZ z r ws') av.toArray s 0 0 (gA z) → W p l e (rmH h) s m av.toArray below meth c s.heap [] 0 0 Q (F0 m 0 ls [])) : gM l y cc nL ret h D cI cZ z ws av r ws' := by
  refine Met.ofW (cc := cc) (maxL := nL) (ret := ret) hy rfl ?_
  intro p e s m args below meth c s₁ B hml hv
  obtain ⟨rfl, ⟨hP, hK, hD⟩, hN, hz⟩ := hv
  have hts := atoms_spec (ws := Cond.code y cc nL ret :: GG) B.pre
  have hl := lv_entry av (n := nL) hn
  have hown : s.vm.findClass y.cls = some m.cls := findClass_of_methodNamed B.named
  rw [ho] at hown
  rw [lg_entry_eq]
  exact k p e s m below meth c _ _ ⟨B.exec, B.bytes, hml, hown, fun w hw => hts w (List.mem_cons_of_mem _ hw), hK, hN, hz⟩ B.returns B.notSynchronized ⟨hP, hD, va_S.rf⟩ hl rfl
/-- what a caller must know of a method, apart from its contract and the link -/
def gCB (C : String) (y : MethodName) (cy : ByteArray) (nY : Nat) (ret : Option FieldType) (np : Nat) : Prop := Cond.instanceMethod y ∈ GG ∧ Cond.selects C y y ∈ GG ∧ Cond.initialized C ∈ GG ∧ Cond.code y cy nY ret ∈ GG ∧ y.cls = C ∧ y.cls ≠ "java/lang/invoke/MethodHandle" ∧ y.cls ≠ "java/lang/invoke/VarHandle" ∧ (parseMethodDescriptor y.desc).map (fun d => d.parameters.length) = some np
def gCS (y : MethodName) (cy : ByteArray) (nY : Nat) (ret : Option FieldType) (np : Nat) : Prop := Cond.static y ∈ GG ∧ Cond.initialized y.cls ∈ GG ∧ Cond.code y cy nY ret ∈ GG ∧ y.cls ≠ "java/lang/invoke/MethodHandle" ∧ y.cls ≠ "java/lang/invoke/VarHandle" ∧ (parseMethodDescriptor y.desc).map (fun d => d.parameters.length) = some np
theorem gg_in {y : MethodName} {cy : ByteArray} {nY : Nat} {ret : Option FieldType} (h : Cond.code y cy nY ret ∈ GG) : GoodIn GG (Cond.code y cy nY ret :: GG) := fun w hw => by
  rcases List.mem_cons.mp hw with e | e
  · rw [e]; exact ⟨h, gg_good h⟩
  · exact ⟨e, gg_good e⟩
section GC
variable {p : Program} {l : Launch} {e : Env} {R : Room} {s : State} {m : MethodId} {args : Array Value} {below : List Frame} {meth : Method} {c : Code} {H : Heap} {locs : List Loc} {cells slots : Nat} {Q : State → Prop} {D : va_G} {cI cZ : ClassId} {z : Nat} {cc : ByteArray} {nL : Nat} {own : String} {ws ws' : va_W} {ls : Array Slot} {pc : Nat} {rest st0 : List Value} {r : Option Value}
theorem g_ran {a : Array Value} (hr : va_Run p l e R s m args below meth c H locs cells slots 0 0 (F0 m pc ls st0) rest (gQ D cI cZ z r ws' a) (gA z)) (hS : va_S (gA z) s.heap H locs)
    (kk : ∀ (H1 : Heap) (locs1 : List Loc), gH D z s ws' H1 locs1 → W p l e R s m args below meth c H1 locs1 cells slots Q (F0 m (pc + 3) ls (r.toList ++ rest))) : W p l e R s m args below meth c H locs cells slots Q (F0 m pc ls st0) := by
  intro T hT X
  obtain ⟨v, st₀, t, T', L, h0, X', hL, e1, e2, ⟨⟨hv, hP1, hK1, hD1⟩, hz, hk⟩, st⟩ := hr T hT X
  cases hv
  rw [h0] at hz hk
  obtain ⟨t2, a1, b1⟩ := kk T'.heap (locs ++ L) ⟨by rw [e1]; exact hP1, hD1, ⟨Nat.le_trans hS.1 (by rw [e1]; exact hz), fun q h1 h2 => by rw [e1, hk q (Nat.lt_of_lt_of_le h1 hS.1) h2]; exact hS.2.1 q h1 h2, fun q hq => by
      rcases List.mem_append.mp hq with h | h
      · exact hS.2.2 q h
      · exact hL q h⟩⟩ T' rfl X'
  exact ⟨t2, st t2 a1, b1⟩
theorem g_pre (E : gE p s m args c cc nL own D cI cZ z) (h : gH D z s ws H locs) {av : List Value} (U : State) (hU : U.heap = H) (hW : s.WarmedH U.vm) : gP D cI cZ z ws av av.toArray U := by
  obtain ⟨-, -, -, -, -, hK, hN, hz⟩ := E
  exact ⟨rfl, ⟨by rw [hU]; exact h.1, va_K.moved hW.alike hK, h.2.1⟩, hN.warm hW, by rw [hU]; exact Nat.le_trans hz h.2.2.1⟩
variable {y : MethodName} {cy : ByteArray} {nY hh np index : Nat} {ret : Option FieldType} {As : List Value} {b : Nat} {C : String}
theorem g_callV (E : gE p s m args c cc nL own D cI cZ z) (h : gH D z s ws H locs) (hM : gM l y cy nY ret hh D cI cZ z ws (.ref b :: As) r ws') (hl : Cond.methodLink own index y ∈ GG) (cb : gCB C y cy nY ret np) (q0 : Nat) {ci : Nat} {T : u_T} {N : Nat} {fs : List Value} (he : ws[q0]? = some (b, .inr (ci, fs))) (hc : cls[ci]? = some (C, T, N))
    (hR : hh + 1 ≤ R.frames ∧ 8 + (nY + 11) + 100 * hh ≤ R.locals) (hn : As.length = np) (hst : st0 = As.reverse ++ .ref b :: rest) (hsz : ls.size = nL) (hW : (rest.map fun v => v.category).sum ≤ 8) (hcs : cells ≤ R.cells ∧ slots ≤ R.slots) (hdg : decode cc pc = .ok (.invokevirtual index, 3))
    (kk : ∀ (H1 : Heap) (locs1 : List Loc), gH D z s ws' H1 locs1 → W p l e R s m args below meth c H1 locs1 cells slots Q (F0 m (pc + 3) ls (r.toList ++ rest))) : W p l e R s m args below meth c H locs cells slots Q (F0 m pc ls st0) := by
  obtain ⟨c1, c2, c3, c4, c5, c6, c7, c8⟩ := cb
  have hg : GoodIn GG (wsV own index C y (Cond.code y cy nY ret :: GG)) := fun w hw => by
    rcases List.mem_append.mp hw with e | e
    · simp only [List.mem_cons, List.not_mem_nil, or_false] at e
      rcases e with e | e | e | e <;> rw [e] <;> first | exact ⟨hl, gg_good hl⟩ | exact ⟨c1, gg_good c1⟩ | exact ⟨c2, gg_good c2⟩ | exact ⟨c3, gg_good c3⟩
    · exact gg_in c4 w e
  have E0 := E
  obtain ⟨hx, hb, hml, ho, hts, hK, hN, hz⟩ := E
  exact g_ran (va_runV (As := As) (rest := rest) ⟨hx, hb, hml, ho, hts⟩ hM (cwV np hts hg rfl rfl rfl ⟨c5, c6, c7, c8⟩ hR) ⟨gP_blind, va_recv hK h.1 hc he, g_pre E0 h⟩ rfl hn hsz hst (lv_room hW) hdg hcs) h.2.2 kk
theorem g_callS (E : gE p s m args c cc nL own D cI cZ z) (h : gH D z s ws H locs) (hM : gM l y cy nY ret hh D cI cZ z ws As r ws') (hl : Cond.methodLink own index y ∈ GG) (cb : gCS y cy nY ret np)
    (hR : hh + 1 ≤ R.frames ∧ 8 + (nY + 11) + 100 * hh ≤ R.locals) (hn : As.length = np) (hst : st0 = As.reverse ++ rest) (hsz : ls.size = nL) (hW : (rest.map fun v => v.category).sum ≤ 8) (hcs : cells ≤ R.cells ∧ slots ≤ R.slots) (hdg : decode cc pc = .ok (.invokestatic index, 3))
    (kk : ∀ (H1 : Heap) (locs1 : List Loc), gH D z s ws' H1 locs1 → W p l e R s m args below meth c H1 locs1 cells slots Q (F0 m (pc + 3) ls (r.toList ++ rest))) : W p l e R s m args below meth c H locs cells slots Q (F0 m pc ls st0) := by
  obtain ⟨c1, c3, c4, c6, c7, c8⟩ := cb
  have hg : GoodIn GG (va_wsS own index y (Cond.code y cy nY ret :: GG)) := fun w hw => by
    rcases List.mem_append.mp hw with e | e
    · simp only [List.mem_cons, List.not_mem_nil, or_false] at e
      rcases e with e | e | e <;> rw [e] <;> first | exact ⟨hl, gg_good hl⟩ | exact ⟨c1, gg_good c1⟩ | exact ⟨c3, gg_good c3⟩
    · exact gg_in c4 w e
  have E0 := E
  obtain ⟨hx, hb, hml, ho, hts, hK, hN, hz⟩ := E
  exact g_ran (va_runS (As := As) (rest := rest) ⟨hx, hb, hml, ho, hts⟩ hM (va_cwS np hts hg rfl rfl rfl ⟨c6, c7, c8⟩ hR) ⟨gP_blind, g_pre E0 h⟩ rfl hn hsz hst (lv_room hW) hdg hcs) h.2.2 kk
theorem g_callSN (E : gE p s m args c cc nL own D cI cZ z) (h : gH D z s ws H locs) (hM : gM l y cy nY ret hh D cI cZ z ws As r ws') (hl : (own, index, y) ∈ nestM) (cb : gCS y cy nY ret np)
    (hR : hh + 1 ≤ R.frames ∧ 8 + (nY + 11) + 100 * hh ≤ R.locals) (hn : As.length = np) (hst : st0 = As.reverse ++ rest) (hsz : ls.size = nL) (hW : (rest.map fun v => v.category).sum ≤ 8) (hcs : cells ≤ R.cells ∧ slots ≤ R.slots) (hdg : decode cc pc = .ok (.invokestatic index, 3))
    (kk : ∀ (H1 : Heap) (locs1 : List Loc), gH D z s ws' H1 locs1 → W p l e R s m args below meth c H1 locs1 cells slots Q (F0 m (pc + 3) ls (r.toList ++ rest))) : W p l e R s m args below meth c H locs cells slots Q (F0 m pc ls st0) := by
  obtain ⟨c1, c3, c4, c6, c7, c8⟩ := cb
  have E0 := E
  obtain ⟨hx, hb, hml, ho, hts, hK, hN, hz⟩ := E
  exact g_ran (va_runSN (As := As) (rest := rest) ⟨hx, hb, hml, ho, hts⟩ hM ⟨va_cnB np hts (gg_in c4) rfl rfl rfl (hN.2 _ hl) (hts _ c3) ⟨c6, c7, c8⟩ hR, hts _ c1, trivial⟩ ⟨gP_blind, g_pre E0 h⟩ rfl hn hsz hst (lv_room hW) hdg hcs) h.2.2 kk
theorem g_callVi {ri : Int32} (E : gE p s m args c cc nL own D cI cZ z) (h : gH D z s ws H locs) (hM : gM l y cy nY ret hh D cI cZ z ws (.ref b :: As) (some (.int ri)) ws') (hl : Cond.methodLink own index y ∈ GG) (cb : gCB C y cy nY ret np) (q0 : Nat) {ci : Nat} {T : u_T} {N : Nat} {fs : List Value} (he : ws[q0]? = some (b, .inr (ci, fs))) (hc : cls[ci]? = some (C, T, N))
    (hR : hh + 1 ≤ R.frames ∧ 8 + (nY + 11) + 100 * hh ≤ R.locals) (hn : As.length = np) (hst : st0 = As.reverse ++ .ref b :: rest) (hsz : ls.size = nL) (hW : (rest.map fun v => v.category).sum ≤ 8) (hcs : cells ≤ R.cells ∧ slots ≤ R.slots) (hdg : decode cc pc = .ok (.invokevirtual index, 3))
    (kk : ∀ (H1 : Heap) (locs1 : List Loc), gH D z s ws' H1 locs1 → W p l e R s m args below meth c H1 locs1 cells slots Q (F0 m (pc + 3) ls (.int ri :: rest))) : W p l e R s m args below meth c H locs cells slots Q (F0 m pc ls st0) := g_callV E h hM hl cb q0 he hc hR hn hst hsz hW hcs hdg kk
theorem g_callVr {ri : Nat} (E : gE p s m args c cc nL own D cI cZ z) (h : gH D z s ws H locs) (hM : gM l y cy nY ret hh D cI cZ z ws (.ref b :: As) (some (.ref ri)) ws') (hl : Cond.methodLink own index y ∈ GG) (cb : gCB C y cy nY ret np) (q0 : Nat) {ci : Nat} {T : u_T} {N : Nat} {fs : List Value} (he : ws[q0]? = some (b, .inr (ci, fs))) (hc : cls[ci]? = some (C, T, N))
    (hR : hh + 1 ≤ R.frames ∧ 8 + (nY + 11) + 100 * hh ≤ R.locals) (hn : As.length = np) (hst : st0 = As.reverse ++ .ref b :: rest) (hsz : ls.size = nL) (hW : (rest.map fun v => v.category).sum ≤ 8) (hcs : cells ≤ R.cells ∧ slots ≤ R.slots) (hdg : decode cc pc = .ok (.invokevirtual index, 3))
    (kk : ∀ (H1 : Heap) (locs1 : List Loc), gH D z s ws' H1 locs1 → W p l e R s m args below meth c H1 locs1 cells slots Q (F0 m (pc + 3) ls (.ref ri :: rest))) : W p l e R s m args below meth c H locs cells slots Q (F0 m pc ls st0) := g_callV E h hM hl cb q0 he hc hR hn hst hsz hW hcs hdg kk
theorem g_callVl {ri : Int64} (E : gE p s m args c cc nL own D cI cZ z) (h : gH D z s ws H locs) (hM : gM l y cy nY ret hh D cI cZ z ws (.ref b :: As) (some (.long ri)) ws') (hl : Cond.methodLink own index y ∈ GG) (cb : gCB C y cy nY ret np) (q0 : Nat) {ci : Nat} {T : u_T} {N : Nat} {fs : List Value} (he : ws[q0]? = some (b, .inr (ci, fs))) (hc : cls[ci]? = some (C, T, N))
    (hR : hh + 1 ≤ R.frames ∧ 8 + (nY + 11) + 100 * hh ≤ R.locals) (hn : As.length = np) (hst : st0 = As.reverse ++ .ref b :: rest) (hsz : ls.size = nL) (hW : (rest.map fun v => v.category).sum ≤ 8) (hcs : cells ≤ R.cells ∧ slots ≤ R.slots) (hdg : decode cc pc = .ok (.invokevirtual index, 3))
    (kk : ∀ (H1 : Heap) (locs1 : List Loc), gH D z s ws' H1 locs1 → W p l e R s m args below meth c H1 locs1 cells slots Q (F0 m (pc + 3) ls (.long ri :: rest))) : W p l e R s m args below meth c H locs cells slots Q (F0 m pc ls st0) := g_callV E h hM hl cb q0 he hc hR hn hst hsz hW hcs hdg kk
theorem g_callVv (E : gE p s m args c cc nL own D cI cZ z) (h : gH D z s ws H locs) (hM : gM l y cy nY ret hh D cI cZ z ws (.ref b :: As) none ws') (hl : Cond.methodLink own index y ∈ GG) (cb : gCB C y cy nY ret np) (q0 : Nat) {ci : Nat} {T : u_T} {N : Nat} {fs : List Value} (he : ws[q0]? = some (b, .inr (ci, fs))) (hc : cls[ci]? = some (C, T, N))
    (hR : hh + 1 ≤ R.frames ∧ 8 + (nY + 11) + 100 * hh ≤ R.locals) (hn : As.length = np) (hst : st0 = As.reverse ++ .ref b :: rest) (hsz : ls.size = nL) (hW : (rest.map fun v => v.category).sum ≤ 8) (hcs : cells ≤ R.cells ∧ slots ≤ R.slots) (hdg : decode cc pc = .ok (.invokevirtual index, 3))
    (kk : ∀ (H1 : Heap) (locs1 : List Loc), gH D z s ws' H1 locs1 → W p l e R s m args below meth c H1 locs1 cells slots Q (F0 m (pc + 3) ls rest)) : W p l e R s m args below meth c H locs cells slots Q (F0 m pc ls st0) := g_callV E h hM hl cb q0 he hc hR hn hst hsz hW hcs hdg kk
theorem g_callSi {ri : Int32} (E : gE p s m args c cc nL own D cI cZ z) (h : gH D z s ws H locs) (hM : gM l y cy nY ret hh D cI cZ z ws As (some (.int ri)) ws') (hl : Cond.methodLink own index y ∈ GG) (cb : gCS y cy nY ret np)
    (hR : hh + 1 ≤ R.frames ∧ 8 + (nY + 11) + 100 * hh ≤ R.locals) (hn : As.length = np) (hst : st0 = As.reverse ++ rest) (hsz : ls.size = nL) (hW : (rest.map fun v => v.category).sum ≤ 8) (hcs : cells ≤ R.cells ∧ slots ≤ R.slots) (hdg : decode cc pc = .ok (.invokestatic index, 3))
    (kk : ∀ (H1 : Heap) (locs1 : List Loc), gH D z s ws' H1 locs1 → W p l e R s m args below meth c H1 locs1 cells slots Q (F0 m (pc + 3) ls (.int ri :: rest))) : W p l e R s m args below meth c H locs cells slots Q (F0 m pc ls st0) := g_callS E h hM hl cb hR hn hst hsz hW hcs hdg kk
theorem g_callSv (E : gE p s m args c cc nL own D cI cZ z) (h : gH D z s ws H locs) (hM : gM l y cy nY ret hh D cI cZ z ws As none ws') (hl : Cond.methodLink own index y ∈ GG) (cb : gCS y cy nY ret np)
    (hR : hh + 1 ≤ R.frames ∧ 8 + (nY + 11) + 100 * hh ≤ R.locals) (hn : As.length = np) (hst : st0 = As.reverse ++ rest) (hsz : ls.size = nL) (hW : (rest.map fun v => v.category).sum ≤ 8) (hcs : cells ≤ R.cells ∧ slots ≤ R.slots) (hdg : decode cc pc = .ok (.invokestatic index, 3))
    (kk : ∀ (H1 : Heap) (locs1 : List Loc), gH D z s ws' H1 locs1 → W p l e R s m args below meth c H1 locs1 cells slots Q (F0 m (pc + 3) ls rest)) : W p l e R s m args below meth c H locs cells slots Q (F0 m pc ls st0) := g_callS E h hM hl cb hR hn hst hsz hW hcs hdg kk
theorem g_callSNi {ri : Int32} (E : gE p s m args c cc nL own D cI cZ z) (h : gH D z s ws H locs) (hM : gM l y cy nY ret hh D cI cZ z ws As (some (.int ri)) ws') (hl : (own, index, y) ∈ nestM) (cb : gCS y cy nY ret np)
    (hR : hh + 1 ≤ R.frames ∧ 8 + (nY + 11) + 100 * hh ≤ R.locals) (hn : As.length = np) (hst : st0 = As.reverse ++ rest) (hsz : ls.size = nL) (hW : (rest.map fun v => v.category).sum ≤ 8) (hcs : cells ≤ R.cells ∧ slots ≤ R.slots) (hdg : decode cc pc = .ok (.invokestatic index, 3))
    (kk : ∀ (H1 : Heap) (locs1 : List Loc), gH D z s ws' H1 locs1 → W p l e R s m args below meth c H1 locs1 cells slots Q (F0 m (pc + 3) ls (.int ri :: rest))) : W p l e R s m args below meth c H locs cells slots Q (F0 m pc ls st0) := g_callSN E h hM hl cb hR hn hst hsz hW hcs hdg kk
/-- where two ways meet with one number on the stack -/
theorem g_dia (J : Nat) (V : Int32) (k : ∀ (H1 : Heap) (locs1 : List Loc), gH D z s ws H1 locs1 → W p l e R s m args below meth c H1 locs1 cells slots Q (F0 m J ls (.int V :: rest)))
    (kk : (∀ (v : Int32) (H1 : Heap) (locs1 : List Loc), v = V → gH D z s ws H1 locs1 → W p l e R s m args below meth c H1 locs1 cells slots Q (F0 m J ls (.int v :: rest))) → W p l e R s m args below meth c H locs cells slots Q (F0 m pc ls st0)) : W p l e R s m args below meth c H locs cells slots Q (F0 m pc ls st0) :=
  kk (fun v H1 locs1 hv h1 => by rw [hv]; exact k H1 locs1 h1)
theorem g_get (E : gE p s m args c cc nL own D cI cZ z) (h : gH D z s ws H locs) {T : u_T} {N ci : Nat} {fs : List Value} {a : Nat} {v : Value} (q0 : Nat) (he : ws[q0]? = some (a, .inr (ci, fs))) (hc : cls[ci]? = some (C, T, N)) (hlay : ∀ w ∈ u_ws C T N, w ∈ GG) (k : Nat) (hk : k < N) (hs : (T k).1 = C) (hl : Cond.fieldLink own index C (T k).2.1 (T k).2.2.1 ∈ GG) (hv : fs[k]? = some v) (hdg : decode cc pc = .ok (.getfield index, 3))
    (kk : W p l e R s m args below meth c H locs cells slots Q (F0 m (pc + 3) ls (v :: rest))) : W p l e R s m args below meth c H locs cells slots Q (F0 m pc ls (.ref a :: rest)) := by
  obtain ⟨hx, hb, hml, ho, hts, hK, hN, hz⟩ := E
  exact va_get hx hb hts hlay ho hK h.1 q0 he hc k hk (hts _ hl) (fun x hx => by rw [hs] at hx; exact hx) hv hdg kk
theorem g_getN (E : gE p s m args c cc nL own D cI cZ z) (h : gH D z s ws H locs) {T : u_T} {N ci : Nat} {fs : List Value} {a : Nat} {v : Value} (q0 : Nat) (he : ws[q0]? = some (a, .inr (ci, fs))) (hc : cls[ci]? = some (C, T, N)) (hlay : ∀ w ∈ u_ws C T N, w ∈ GG) (k : Nat) (hk : k < N) (hs : (T k).1 = C) (hl : (own, index, C, (T k).2.1, (T k).2.2.1) ∈ nestF) (hv : fs[k]? = some v) (hdg : decode cc pc = .ok (.getfield index, 3))
    (kk : W p l e R s m args below meth c H locs cells slots Q (F0 m (pc + 3) ls (v :: rest))) : W p l e R s m args below meth c H locs cells slots Q (F0 m pc ls (.ref a :: rest)) := by
  obtain ⟨hx, hb, hml, ho, hts, hK, hN, hz⟩ := E
  exact va_getN (host := "WellKnots") hx hb hts hlay ho hK h.1 q0 he hc k hk (va_Nw.use rfl (hN.1 _ hl)) (fun x hx => by rw [hs] at hx; exact hx) hv hdg kk
theorem g_put (E : gE p s m args c cc nL own D cI cZ z) (h : gH D z s ws H locs) {T : u_T} {N ci : Nat} {fs : List Value} {a : Nat} {v : Value} {ty : FieldType} (q0 : Nat) (he : ws[q0]? = some (a, .inr (ci, fs))) (hc : cls[ci]? = some (C, T, N)) (hlay : ∀ w ∈ u_ws C T N, w ∈ GG) (ty0 : Nat → FieldType) (hty : ∀ k, k < N → parseFieldDescriptor (T k).2.2.1 = some (ty0 k)) (hnm : ∀ a, a < N → ∀ b, b < N → a ≠ b → (T a).2.1 ≠ (T b).2.1) (k : Nat) (hk : k < N) (hs : (T k).1 = C) (hl : Cond.fieldLink own index C (T k).2.1 (T k).2.2.1 ∈ GG) (hfin : (T k).2.2.2 = false) (hd : parseFieldDescriptor (T k).2.2.1 = some ty) (hn : narrow ty v = v) (hfit : fits ty v = true) (hlen : k < fs.length) (hw : ws.set q0 (a, .inr (ci, fs.set k v)) = ws') (hdg : decode cc pc = .ok (.putfield index, 3))
    (kk : ∀ (H1 : Heap) (locs1 : List Loc), gH D z s ws' H1 locs1 → W p l e R s m args below meth c H1 locs1 cells slots Q (F0 m (pc + 3) ls rest)) : W p l e R s m args below meth c H locs cells slots Q (F0 m pc ls (v :: .ref a :: rest)) := by
  obtain ⟨hx, hb, hml, ho, hts, hK, hN, hz⟩ := E
  exact va_put hx hb hts hlay ty0 hty hnm ho hK h.1 h.2.1 h.2.2 q0 he hc k hk (hts _ hl) (fun x hx => by rw [hs] at hx; exact hx) hfin hd hn hfit hlen hdg (fun H1 locs1 h1 h2 h3 => kk H1 locs1 (by rw [← hw]; exact ⟨h1, h2, h3⟩))
theorem g_iald (E : gE p s m args c cc nL own D cI cZ z) (h : gH D z s ws H locs) (q0 : Nat) {a n : Nat} {f : Nat → Int32} (ha : ws[q0]? = some (a, .inl (cI, n, .inl f))) {i : Int32} (hin : vp_in i n) (hdg : decode cc pc = .ok (.iaload, 1))
    (kk : W p l e R s m args below meth c H locs cells slots Q (F0 m (pc + 1) ls (.int (f i.toNatClampNeg) :: rest))) : W p l e R s m args below meth c H locs cells slots Q (F0 m pc ls (.int i :: .ref a :: rest)) :=
  va_iald E.1 E.2.1 E.2.2.2.2.2.1 h.1 q0 0 ha rfl hin hdg kk
theorem g_iast (E : gE p s m args c cc nL own D cI cZ z) (h : gH D z s ws H locs) (q0 : Nat) {a n : Nat} {f : Nat → Int32} (ha : ws[q0]? = some (a, .inl (cI, n, .inl f))) {i x : Int32} (hin : vp_in i n) (hw : ws.set q0 (a, .inl (cI, n, .inl (upd f i.toNatClampNeg x))) = ws') (hdg : decode cc pc = .ok (.iastore, 1))
    (kk : ∀ (H1 : Heap) (locs1 : List Loc), gH D z s ws' H1 locs1 → W p l e R s m args below meth c H1 locs1 cells slots Q (F0 m (pc + 1) ls rest)) : W p l e R s m args below meth c H locs cells slots Q (F0 m pc ls (.int x :: .int i :: .ref a :: rest)) :=
  va_iast E.1 E.2.1 E.2.2.2.2.2.1 h.1 h.2.1 h.2.2 q0 0 ha rfl hin hdg (fun H1 locs1 h1 h2 h3 => kk H1 locs1 (by rw [← hw]; exact ⟨h1, h2, h3⟩))
theorem g_zald (E : gE p s m args c cc nL own D cI cZ z) (h : gH D z s ws H locs) (q0 : Nat) {a n : Nat} {f : Nat → Int32} (ha : ws[q0]? = some (a, .inl (cZ, n, .inl f))) {i : Int32} (hin : vp_in i n) (hdg : decode cc pc = .ok (.baload, 1))
    (kk : W p l e R s m args below meth c H locs cells slots Q (F0 m (pc + 1) ls (.int (f i.toNatClampNeg) :: rest))) : W p l e R s m args below meth c H locs cells slots Q (F0 m pc ls (.int i :: .ref a :: rest)) :=
  va_zald E.1 E.2.1 E.2.2.2.2.2.1 h.1 q0 1 ha rfl hin hdg kk
theorem g_zast (E : gE p s m args c cc nL own D cI cZ z) (h : gH D z s ws H locs) (q0 : Nat) {a n : Nat} {f : Nat → Int32} (ha : ws[q0]? = some (a, .inl (cZ, n, .inl f))) {i x : Int32} (hin : vp_in i n) (hx : vp_nar .boolean x = x) (hw : ws.set q0 (a, .inl (cZ, n, .inl (upd f i.toNatClampNeg x))) = ws') (hdg : decode cc pc = .ok (.bastore, 1))
    (kk : ∀ (H1 : Heap) (locs1 : List Loc), gH D z s ws' H1 locs1 → W p l e R s m args below meth c H1 locs1 cells slots Q (F0 m (pc + 1) ls rest)) : W p l e R s m args below meth c H locs cells slots Q (F0 m pc ls (.int x :: .int i :: .ref a :: rest)) :=
  va_zast E.1 E.2.1 E.2.2.2.2.2.1 h.1 h.2.1 h.2.2 q0 1 ha rfl hin hdg (fun H1 locs1 h1 h2 h3 => kk H1 locs1 (by rw [hx] at h1 h2; rw [← hw]; exact ⟨h1, h2, h3⟩))
theorem g_alen (E : gE p s m args c cc nL own D cI cZ z) (h : gH D z s ws H locs) (q0 : Nat) {a n : Nat} {f : Nat → Int32} {v : Int32} (ha : ws[q0]? = some (a, .inl (cI, n, .inl f))) (hv : Int32.ofNat n = v) (hdg : decode cc pc = .ok (.arraylength, 1))
    (kk : W p l e R s m args below meth c H locs cells slots Q (F0 m (pc + 1) ls (.int v :: rest))) : W p l e R s m args below meth c H locs cells slots Q (F0 m pc ls (.ref a :: rest)) :=
  va_alen E.1 E.2.1 E.2.2.2.2.2.1 h.1 q0 0 ha (ty := .int) rfl hv hdg kk
theorem g_copy (E : gE p s m args c cc nL own D cI cZ z) (h : gH D z s ws H locs) (q0 q1 : Nat) {a a0 n0 n1 : Nat} {f g : Nat → Int32} (ha0 : ws[q0]? = some (a0, .inl (cI, n0, .inl f))) (ha1 : ws[q1]? = some (a, .inl (cI, n1, .inl g))) {sp dp n : Int32} (h1 : ¬ sp < 0) (h2 : ¬ dp < 0) (h3 : ¬ n < 0) (h4 : sp.toNatClampNeg + n.toNatClampNeg ≤ n0) (h5 : dp.toNatClampNeg + n.toNatClampNeg ≤ n1)
    (hsz : ls.size = nL) (hl : Cond.methodLink own index arraycopyName ∈ GG) (hn : Cond.native arraycopyName ∈ GG) (hst : Cond.static arraycopyName ∈ GG) (hi : Cond.initialized "java/lang/System" ∈ GG) (hfr : 1 ≤ R.frames) (hlo : (rest.map fun v => v.category).sum + (nativeFrameWords "java/lang/System" "arraycopy" 5 + 11) ≤ R.locals) (hw : ws.set q1 (a, .inl (cI, n1, .inl (va_cpy f g sp.toNatClampNeg dp.toNatClampNeg n.toNatClampNeg))) = ws') (hdg : decode cc pc = .ok (.invokestatic index, 3))
    (kk : ∀ (H1 : Heap) (locs1 : List Loc), gH D z s ws' H1 locs1 → W p l e R s m args below meth c H1 locs1 cells slots Q (F0 m (pc + 3) ls rest)) : W p l e R s m args below meth c H locs cells slots Q (F0 m pc ls (.int n :: .int dp :: .ref a :: .int sp :: .ref a0 :: rest)) := by
  obtain ⟨hx, hb, hml, ho, hts, hK, hN, hz⟩ := E
  exact va_copyi hx hb (hml.trans hsz.symm) ho (hts _ hl) (hts _ hn) (hts _ hst) (hts _ hi) hK h.1 h.2.1 h.2.2 q0 q1 0 0 ha0 ha1 rfl rfl rfl h1 h2 h3 h4 h5 (fun _ _ => rfl) hfr hlo hdg (fun H1 locs1 g1 g2 g3 => kk H1 locs1 (by rw [← hw]; exact ⟨g1, g2, g3⟩))
theorem g_max (E : gE p s m args c cc nL own D cI cZ z) (hsz : ls.size = nL) (hl : Cond.methodLink own index Lib.Math.max.name ∈ GG) (hst : Cond.static Lib.Math.max.name ∈ GG) (hi : Cond.initialized "java/lang/Math" ∈ GG) (hc : Cond.code Lib.Math.max.name Lib.Math.max.code 2 (some .int) ∈ GG) (hfr : 1 ≤ R.frames) (hlo : (rest.map fun v => v.category).sum + 13 ≤ R.locals) (hcs : cells ≤ R.cells ∧ slots ≤ R.slots) {x y : Int32} (hdg : decode cc pc = .ok (.invokestatic index, 3))
    (kk : W p l e R s m args below meth c H locs cells slots Q (F0 m (pc + 3) ls (.int (if x < y then y else x) :: rest))) : W p l e R s m args below meth c H locs cells slots Q (F0 m pc ls (.int y :: .int x :: rest)) := by
  obtain ⟨hx, hb, hml, ho, hts, hK, hN, hz⟩ := E
  exact va_mmax hx hb (hml.trans hsz.symm) ho (hts _ hl) (hts _ hst) (hts _ hi) (hts _ hc) hfr hlo hcs.1 hcs.2 hdg kk
theorem g_min (E : gE p s m args c cc nL own D cI cZ z) (hsz : ls.size = nL) (hl : Cond.methodLink own index Lib.Math.min.name ∈ GG) (hst : Cond.static Lib.Math.min.name ∈ GG) (hi : Cond.initialized "java/lang/Math" ∈ GG) (hc : Cond.code Lib.Math.min.name Lib.Math.min.code 2 (some .int) ∈ GG) (hfr : 1 ≤ R.frames) (hlo : (rest.map fun v => v.category).sum + 13 ≤ R.locals) (hcs : cells ≤ R.cells ∧ slots ≤ R.slots) {x y : Int32} (hdg : decode cc pc = .ok (.invokestatic index, 3))
    (kk : W p l e R s m args below meth c H locs cells slots Q (F0 m (pc + 3) ls (.int (if y < x then y else x) :: rest))) : W p l e R s m args below meth c H locs cells slots Q (F0 m pc ls (.int y :: .int x :: rest)) := by
  obtain ⟨hx, hb, hml, ho, hts, hK, hN, hz⟩ := E
  exact va_mmin hx hb (hml.trans hsz.symm) ho (hts _ hl) (hts _ hst) (hts _ hi) (hts _ hc) hfr hlo hcs.1 hcs.2 hdg kk
theorem g_ldc (E : gE p s m args c cc nL own D cI cZ z) {v : Int32} (hl : Cond.constant own index v ∈ GG) (hdg : decode cc pc = .ok (.ldc index, 2)) (kk : W p l e R s m args below meth c H locs cells slots Q (F0 m (pc + 2) ls (.int v :: rest))) : W p l e R s m args below meth c H locs cells slots Q (F0 m pc ls rest) := lv_ldc E.1 E.2.1 E.2.2.2.1 (E.2.2.2.2.1 _ hl) hdg kk
theorem g_ldcw (E : gE p s m args c cc nL own D cI cZ z) {v : Int32} (hl : Cond.constant own index v ∈ GG) (hdg : decode cc pc = .ok (.ldc_w index, 3)) (kk : W p l e R s m args below meth c H locs cells slots Q (F0 m (pc + 3) ls (.int v :: rest))) : W p l e R s m args below meth c H locs cells slots Q (F0 m pc ls rest) := lv_ldcw E.1 E.2.1 E.2.2.2.1 (E.2.2.2.2.1 _ hl) hdg kk
theorem g_ldc2 (E : gE p s m args c cc nL own D cI cZ z) {v : Int64} (hl : Cond.constantLong own index v ∈ GG) (hdg : decode cc pc = .ok (.ldc2_w index, 3)) (kk : W p l e R s m args below meth c H locs cells slots Q (F0 m (pc + 3) ls (.long v :: rest))) : W p l e R s m args below meth c H locs cells slots Q (F0 m pc ls rest) := lv_ldc2 E.1 E.2.1 E.2.2.2.1 (E.2.2.2.2.1 _ hl) hdg kk
theorem g_iret {v r : Int32} (E : gE p s m args c cc nL own D cI cZ z) (hr : meth.sig.returnType = some .int) (hlk : meth.locks = false) (h : gH D z s ws H locs) (hQ : Q = MQ below (gQ D cI cZ z (some (.int r)) ws') args s 0 0 (gA z)) (er : v = r) (ew : ws = ws') (hdg : decode cc pc = .ok (.ireturn, 1)) : W p l e R s m args below meth c H locs 0 0 Q (F0 m pc ls [.int v]) := by
  rw [hQ, ← er, ← ew]
  exact W.iret E.1 E.2.1 hr (fun t ht hW => ⟨⟨rfl, by rw [ht]; exact h.1, va_K.moved hW.alike E.2.2.2.2.2.1, h.2.1⟩, h.2.2.F ht⟩) h.2.2.2.2 hdg hlk
theorem g_zret {v r : Int32} (E : gE p s m args c cc nL own D cI cZ z) (hr : meth.sig.returnType = some .boolean) (hlk : meth.locks = false) (h : gH D z s ws H locs) (hQ : Q = MQ below (gQ D cI cZ z (some (.int r)) ws') args s 0 0 (gA z)) (hn : narrow .boolean (.int v) = .int v) (er : v = r) (ew : ws = ws') (hdg : decode cc pc = .ok (.ireturn, 1)) : W p l e R s m args below meth c H locs 0 0 Q (F0 m pc ls [.int v]) := by
  rw [hQ, ← er, ← ew]
  exact W.zret E.1 E.2.1 hr hn (fun t ht hW => ⟨⟨rfl, by rw [ht]; exact h.1, va_K.moved hW.alike E.2.2.2.2.2.1, h.2.1⟩, h.2.2.F ht⟩) h.2.2.2.2 hdg hlk
theorem g_lret {v r : Int64} (E : gE p s m args c cc nL own D cI cZ z) (hr : meth.sig.returnType = some .long) (hlk : meth.locks = false) (h : gH D z s ws H locs) (hQ : Q = MQ below (gQ D cI cZ z (some (.long r)) ws') args s 0 0 (gA z)) (er : v = r) (ew : ws = ws') (hdg : decode cc pc = .ok (.lreturn, 1)) : W p l e R s m args below meth c H locs 0 0 Q (F0 m pc ls [.long v]) := by
  rw [hQ, ← er, ← ew]
  exact W.lret E.1 E.2.1 hr (fun t ht hW => ⟨⟨rfl, by rw [ht]; exact h.1, va_K.moved hW.alike E.2.2.2.2.2.1, h.2.1⟩, h.2.2.F ht⟩) h.2.2.2.2 hdg hlk
theorem g_vret (E : gE p s m args c cc nL own D cI cZ z) (hr : meth.sig.returnType = none) (hlk : meth.locks = false) (h : gH D z s ws H locs) (hQ : Q = MQ below (gQ D cI cZ z none ws') args s 0 0 (gA z)) (ew : ws = ws') (hdg : decode cc pc = .ok (.return_, 1)) : W p l e R s m args below meth c H locs 0 0 Q (F0 m pc ls []) := by
  rw [hQ, ← ew]
  exact W.vret E.1 E.2.1 hr (fun t ht hW => ⟨⟨rfl, by rw [ht]; exact h.1, va_K.moved hW.alike E.2.2.2.2.2.1, h.2.1⟩, h.2.2.F ht⟩) h.2.2.2.2 hdg hlk
theorem g_aret {v r : Nat} {n : String} (E : gE p s m args c cc nL own D cI cZ z) (hr : meth.sig.returnType = some (.object n)) (hlk : meth.locks = false) (h : gH D z s ws H locs) (hQ : Q = MQ below (gQ D cI cZ z (some (.ref r)) ws') args s 0 0 (gA z)) (er : v = r) (ew : ws = ws') (hdg : decode cc pc = .ok (.areturn, 1)) : W p l e R s m args below meth c H locs 0 0 Q (F0 m pc ls [.ref v]) := by
  rw [hQ, ← er, ← ew]
  exact W.aret E.1 E.2.1 hr (Or.inl ⟨n, rfl⟩) (Or.inr ⟨v, rfl⟩) (fun t ht hW => ⟨⟨rfl, by rw [ht]; exact h.1, va_K.moved hW.alike E.2.2.2.2.2.1, h.2.1⟩, h.2.2.F ht⟩) h.2.2.2.2 hdg hlk
end GC
/-- a state of one side: its int fields (32 * place + number), its arrays (by place), its long -/
abbrev St : Type := (Nat → Int32) × (Nat → Nat → Int32) × Int64
def si (σ : St) (k : Nat) (v : Int32) : St := (upd σ.1 k v, σ.2)
def sa (σ : St) (k : Nat) (f : Nat → Int32) : St := (σ.1, (fun j => if j = k then f else σ.2.1 j), σ.2.2)
def sl (σ : St) (v : Int64) : St := (σ.1, σ.2.1, v)
theorem oI_add {x y : Int32} {a b : Int} (hx : x = Int32.ofInt a) (hy : y = Int32.ofInt b) : x + y = Int32.ofInt (a + b) := by rw [hx, hy, Int32.ofInt_add]
theorem oI_sub {x y : Int32} {a b : Int} (hx : x = Int32.ofInt a) (hy : y = Int32.ofInt b) : x - y = Int32.ofInt (a - b) := by rw [hx, hy, Int32.ofInt_sub]
theorem oI_mul {x y : Int32} {a b : Int} (hx : x = Int32.ofInt a) (hy : y = Int32.ofInt b) : x * y = Int32.ofInt (a * b) := by rw [hx, hy, Int32.ofInt_mul]
theorem oI_lit {x : Int32} {a : Int} (h : x = Int32.ofInt a) : x = Int32.ofInt a := h
theorem oI_at (x : Int32) : x = Int32.ofInt x.toInt := (Int32.ofInt_toInt x).symm
theorem oI_rng {z : Int} (h1 : -2147483648 ≤ z) (h2 : z < 2147483648) : (Int32.ofInt z).toInt = z := by
  rw [Int32.toInt_ofInt]
  show Int.bmod z 4294967296 = z
  exact Int.bmod_eq_of_le (by omega) (by omega)
theorem ix_of {x : Int32} {n : Nat} {E : Int} (hx : x = Int32.ofInt E) (h : 0 ≤ E ∧ E < n) (hn : n ≤ 2147483648) : vp_in x n := by
  rw [vp_in_iff, hx, oI_rng (by omega) (by omega)]
  exact h
theorem cn_of {x : Int32} {E : Int} (hx : x = Int32.ofInt E) (h : 0 ≤ E ∧ E < 2147483648) : x.toNatClampNeg = E.toNat := by
  show x.toInt.toNat = E.toNat
  rw [hx, oI_rng (by omega) (by omega)]
theorem ti_of {x : Int32} {E : Int} (hx : x = Int32.ofInt E) (h : -2147483648 ≤ E ∧ E < 2147483648) : x.toInt = E := by
  rw [hx, oI_rng (by omega) (by omega)]
theorem i_lt {a b : Int32} (h : a < b) : a.toInt < b.toInt := Int32.lt_iff_toInt_lt.mp h
theorem i_le {a b : Int32} (h : a ≤ b) : a.toInt ≤ b.toInt := Int32.le_iff_toInt_le.mp h
theorem i_nlt {a b : Int32} (h : ¬ a < b) : b.toInt ≤ a.toInt := by
  rcases Int.lt_or_le a.toInt b.toInt with q | q
  · exact absurd (Int32.lt_iff_toInt_lt.mpr q) h
  · exact q
theorem i_nle {a b : Int32} (h : ¬ a ≤ b) : b.toInt < a.toInt := by
  rcases Int.lt_or_le b.toInt a.toInt with q | q
  · exact q
  · exact absurd (Int32.le_iff_toInt_le.mpr q) h
theorem i_eq {a b : Int32} (h : a = b) : a.toInt = b.toInt := by rw [h]
theorem i_ne {a b : Int32} (h : ¬ a = b) : a.toInt ≠ b.toInt := fun q => h (Int32.toInt_inj.mp q)

/-- the whole world: the class at places 0 to 47, the reference at 48 to 60 -/
def gws (ad : Nat → Nat) (cI cZ : ClassId) (σ τ : St) : va_W :=
  [(ad 0, .inr (8, [.ref (ad 1), .ref (ad 3), .ref (ad 14), .ref (ad 25), .ref (ad 29), .ref (ad 33), .int (σ.1 6), .ref (ad 37), .ref (ad 40), .ref (ad 43), .ref (ad 46), .long σ.2.2])),
   (ad 1, .inr (6, [.ref (ad 2), .int (σ.1 33), .int (σ.1 34), .int (σ.1 35), .int (σ.1 36), .int (σ.1 37)])),
   (ad 2, .inl (cI, 200, .inl (σ.2.1 2))),
   (ad 3, .inr (4, [.int (σ.1 96), .int (σ.1 97), .int (σ.1 98), .ref (ad 4), .ref (ad 5), .ref (ad 6), .ref (ad 7), .ref (ad 8), .ref (ad 9), .ref (ad 10), .ref (ad 11), .ref (ad 13)])),
   (ad 4, .inl (cZ, 6, .inl (σ.2.1 4))),
   (ad 5, .inl (cI, 8, .inl (σ.2.1 5))),
   (ad 6, .inl (cI, 8, .inl (σ.2.1 6))),
   (ad 7, .inl (cI, 8, .inl (σ.2.1 7))),
   (ad 8, .inl (cZ, 8, .inl (σ.2.1 8))),
   (ad 9, .inl (cI, 8, .inl (σ.2.1 9))),
   (ad 10, .inl (cI, 4, .inl (σ.2.1 10))),
   (ad 11, .inr (2, [.ref (ad 12)])),
   (ad 12, .inl (cI, 74, .inl (σ.2.1 12))),
   (ad 13, .inl (cI, 5, .inl (σ.2.1 13))),
   (ad 14, .inr (4, [.int (σ.1 448), .int (σ.1 449), .int (σ.1 450), .ref (ad 15), .ref (ad 16), .ref (ad 17), .ref (ad 18), .ref (ad 19), .ref (ad 20), .ref (ad 21), .ref (ad 22), .ref (ad 24)])),
   (ad 15, .inl (cZ, 6, .inl (σ.2.1 15))),
   (ad 16, .inl (cI, 8, .inl (σ.2.1 16))),
   (ad 17, .inl (cI, 8, .inl (σ.2.1 17))),
   (ad 18, .inl (cI, 8, .inl (σ.2.1 18))),
   (ad 19, .inl (cZ, 8, .inl (σ.2.1 19))),
   (ad 20, .inl (cI, 8, .inl (σ.2.1 20))),
   (ad 21, .inl (cI, 4, .inl (σ.2.1 21))),
   (ad 22, .inr (2, [.ref (ad 23)])),
   (ad 23, .inl (cI, 74, .inl (σ.2.1 23))),
   (ad 24, .inl (cI, 5, .inl (σ.2.1 24))),
   (ad 25, .inr (1, [.ref (ad 26), .ref (ad 28), .int (σ.1 802)])),
   (ad 26, .inr (2, [.ref (ad 27)])),
   (ad 27, .inl (cI, 74, .inl (σ.2.1 27))),
   (ad 28, .inl (cI, 740, .inl (σ.2.1 28))),
   (ad 29, .inr (1, [.ref (ad 30), .ref (ad 32), .int (σ.1 930)])),
   (ad 30, .inr (2, [.ref (ad 31)])),
   (ad 31, .inl (cI, 74, .inl (σ.2.1 31))),
   (ad 32, .inl (cI, 740, .inl (σ.2.1 32))),
   (ad 33, .inr (1, [.ref (ad 34), .ref (ad 36), .int (σ.1 1058)])),
   (ad 34, .inr (2, [.ref (ad 35)])),
   (ad 35, .inl (cI, 74, .inl (σ.2.1 35))),
   (ad 36, .inl (cI, 740, .inl (σ.2.1 36))),
   (ad 37, .inr (0, [.ref (ad 38), .ref (ad 39), .int (σ.1 1186)])),
   (ad 38, .inl (cI, 6, .inl (σ.2.1 38))),
   (ad 39, .inl (cI, 6, .inl (σ.2.1 39))),
   (ad 40, .inr (3, [.ref (ad 41), .ref (ad 42), .int (σ.1 1282), .int (σ.1 1283)])),
   (ad 41, .inl (cI, 6, .inl (σ.2.1 41))),
   (ad 42, .inl (cI, 6, .inl (σ.2.1 42))),
   (ad 43, .inr (7, [.ref (ad 44), .ref (ad 45), .int (σ.1 1378), .int (σ.1 1379), .int (σ.1 1380)])),
   (ad 44, .inl (cI, 6, .inl (σ.2.1 44))),
   (ad 45, .inl (cI, 6, .inl (σ.2.1 45))),
   (ad 46, .inr (5, [.ref (ad 47)])),
   (ad 47, .inl (cI, 64, .inl (σ.2.1 47))),
   (ad 48, .inr (9, [.long τ.2.2, .ref (ad 49), .int (τ.1 1538), .ref (ad 50), .ref (ad 51), .ref (ad 52), .ref (ad 53), .ref (ad 54), .ref (ad 55), .ref (ad 56), .int (τ.1 1546), .int (τ.1 1547), .int (τ.1 1548), .int (τ.1 1549), .int (τ.1 1550), .ref (ad 57), .ref (ad 58), .int (τ.1 1553), .int (τ.1 1554), .ref (ad 59), .ref (ad 60)])),
   (ad 49, .inl (cI, 200, .inl (τ.2.1 49))),
   (ad 50, .inl (cI, 54, .inl (τ.2.1 50))),
   (ad 51, .inl (cI, 54, .inl (τ.2.1 51))),
   (ad 52, .inl (cI, 74, .inl (τ.2.1 52))),
   (ad 53, .inl (cI, 815, .inl (τ.2.1 53))),
   (ad 54, .inl (cI, 1630, .inl (τ.2.1 54))),
   (ad 55, .inl (cZ, 2, .inl (τ.2.1 55))),
   (ad 56, .inl (cI, 6, .inl (τ.2.1 56))),
   (ad 57, .inl (cI, 6, .inl (τ.2.1 57))),
   (ad 58, .inl (cI, 6, .inl (τ.2.1 58))),
   (ad 59, .inl (cI, 64, .inl (τ.2.1 59))),
   (ad 60, .inl (cI, 42, .inl (τ.2.1 60)))]
end
section
theorem cbJ6_bitCount_0f7a4 : gCS yJ6_bitCount_0f7a4 cJ6_bitCount_0f7a4 1 (some .int) 1 := ⟨mw_630, mw_14, mw_631, by decide, by decide, by decide +kernel⟩
theorem cbJ7_fill_53178 : gCS yJ7_fill_53178 cJ7_fill_53178 4 none 2 := ⟨mw_275, mw_11, mw_276, by decide, by decide, by decide +kernel⟩
theorem cbJ9_max_7cf53 : gCS yJ9_max_7cf53 cJ9_max_7cf53 2 (some .int) 2 := ⟨mw_290, mw_12, mw_291, by decide, by decide, by decide +kernel⟩
theorem cbJ9_min_7cf53 : gCS yJ9_min_7cf53 cJ9_min_7cf53 2 (some .int) 2 := ⟨mw_298, mw_12, mw_299, by decide, by decide, by decide +kernel⟩
theorem cbX0_append : gCB RX0 yX0_append cX0_append 3 (some .boolean) 2 := ⟨mw_686, mw_687, mw_6, mw_688, rfl, by decide, by decide, by decide +kernel⟩
theorem cbX0_drop : gCB RX0 yX0_drop cX0_drop 2 (some .int) 0 := ⟨mw_381, mw_382, mw_6, mw_383, rfl, by decide, by decide, by decide +kernel⟩
theorem cbX0_liars : gCB RX0 yX0_liars cX0_liars 3 (some .int) 0 := ⟨mw_703, mw_704, mw_6, mw_705, rfl, by decide, by decide, by decide +kernel⟩
theorem cbX0_sucked : gCB RX0 yX0_sucked cX0_sucked 3 (some .int) 0 := ⟨mw_698, mw_699, mw_6, mw_700, rfl, by decide, by decide, by decide +kernel⟩
theorem cbX1_become : gCB RX1 yX1_become cX1_become 2 none 1 := ⟨mw_752, mw_753, mw_5, mw_754, rfl, by decide, by decide, by decide +kernel⟩
theorem cbX1_begin : gCB RX1 yX1_begin cX1_begin 2 none 1 := ⟨mw_370, mw_371, mw_5, mw_372, rfl, by decide, by decide, by decide +kernel⟩
theorem cbX1_remember : gCB RX1 yX1_remember cX1_remember 1 none 0 := ⟨mw_509, mw_510, mw_5, mw_511, rfl, by decide, by decide, by decide +kernel⟩
theorem cbX1_takeBack : gCB RX1 yX1_takeBack cX1_takeBack 1 (some .boolean) 0 := ⟨mw_589, mw_590, mw_5, mw_591, rfl, by decide, by decide, by decide +kernel⟩
theorem cbX2_alive : gCB RX2 yX2_alive cX2_alive 1 (some .int) 0 := ⟨mw_605, mw_606, mw_4, mw_607, rfl, by decide, by decide, by decide +kernel⟩
theorem cbX2_allDues : gCB RX2 yX2_allDues cX2_allDues 3 (some .int) 0 := ⟨mw_614, mw_615, mw_4, mw_616, rfl, by decide, by decide, by decide +kernel⟩
theorem cbX2_allKnots : gCB RX2 yX2_allKnots cX2_allKnots 3 (some .int) 0 := ⟨mw_609, mw_610, mw_4, mw_611, rfl, by decide, by decide, by decide +kernel⟩
theorem cbX2_become : gCB RX2 yX2_become cX2_become 2 none 1 := ⟨mw_374, mw_375, mw_4, mw_376, rfl, by decide, by decide, by decide +kernel⟩
theorem cbX2_cupsOf : gCB RX2 yX2_cupsOf cX2_cupsOf 2 (some .int) 1 := ⟨mw_426, mw_427, mw_4, mw_428, rfl, by decide, by decide, by decide +kernel⟩
theorem cbX2_die : gCB RX2 yX2_die cX2_die 3 none 1 := ⟨mw_524, mw_525, mw_4, mw_526, rfl, by decide, by decide, by decide +kernel⟩
theorem cbX2_dryOf : gCB RX2 yX2_dryOf cX2_dryOf 2 (some .int) 1 := ⟨mw_435, mw_436, mw_4, mw_437, rfl, by decide, by decide, by decide +kernel⟩
theorem cbX2_duesBy : gCB RX2 yX2_duesBy cX2_duesBy 4 (some .int) 1 := ⟨mw_472, mw_473, mw_4, mw_474, rfl, by decide, by decide, by decide +kernel⟩
theorem cbX2_duesOf : gCB RX2 yX2_duesOf cX2_duesOf 3 (some .int) 2 := ⟨mw_476, mw_477, mw_4, mw_478, rfl, by decide, by decide, by decide +kernel⟩
theorem cbX2_duesTo : gCB RX2 yX2_duesTo cX2_duesTo 4 (some .int) 1 := ⟨mw_484, mw_485, mw_4, mw_486, rfl, by decide, by decide, by decide +kernel⟩
theorem cbX2_isAlive : gCB RX2 yX2_isAlive cX2_isAlive 2 (some .boolean) 1 := ⟨mw_439, mw_440, mw_4, mw_441, rfl, by decide, by decide, by decide +kernel⟩
theorem cbX2_isCaravan : gCS yX2_isCaravan cX2_isCaravan 1 (some .boolean) 1 := ⟨mw_336, mw_4, mw_337, by decide, by decide, by decide +kernel⟩
theorem cbX2_isWell : gCS yX2_isWell cX2_isWell 1 (some .boolean) 1 := ⟨mw_355, mw_4, mw_356, by decide, by decide, by decide +kernel⟩
theorem cbX2_knotsAtWell : gCB RX2 yX2_knotsAtWell cX2_knotsAtWell 4 (some .int) 1 := ⟨mw_468, mw_469, mw_4, mw_470, rfl, by decide, by decide, by decide +kernel⟩
theorem cbX2_knotsOf : gCB RX2 yX2_knotsOf cX2_knotsOf 3 (some .int) 2 := ⟨mw_450, mw_451, mw_4, mw_452, rfl, by decide, by decide, by decide +kernel⟩
theorem cbX2_knotsOfCaravan : gCB RX2 yX2_knotsOfCaravan cX2_knotsOfCaravan 4 (some .int) 1 := ⟨mw_446, mw_447, mw_4, mw_448, rfl, by decide, by decide, by decide +kernel⟩
theorem cbX2_netOf : gCB RX2 yX2_netOf cX2_netOf 2 (some .int) 1 := ⟨mw_480, mw_481, mw_4, mw_482, rfl, by decide, by decide, by decide +kernel⟩
theorem cbX2_placeOf : gCB RX2 yX2_placeOf cX2_placeOf 2 (some .int) 1 := ⟨mw_422, mw_423, mw_4, mw_424, rfl, by decide, by decide, by decide +kernel⟩
theorem cbX2_readFrom : gCB RX2 yX2_readFrom cX2_readFrom 3 none 2 := ⟨mw_593, mw_594, mw_4, mw_595, rfl, by decide, by decide, by decide +kernel⟩
theorem cbX2_sand : gCB RX2 yX2_sand cX2_sand 1 (some .int) 0 := ⟨mw_601, mw_602, mw_4, mw_603, rfl, by decide, by decide, by decide +kernel⟩
theorem cbX2_setCups : gCB RX2 yX2_setCups cX2_setCups 3 none 2 := ⟨mw_339, mw_340, mw_4, mw_341, rfl, by decide, by decide, by decide +kernel⟩
theorem cbX2_setDry : gCB RX2 yX2_setDry cX2_setDry 3 none 2 := ⟨mw_520, mw_521, mw_4, mw_522, rfl, by decide, by decide, by decide +kernel⟩
theorem cbX2_setDues : gCB RX2 yX2_setDues cX2_setDues 4 none 3 := ⟨mw_362, mw_363, mw_4, mw_364, rfl, by decide, by decide, by decide +kernel⟩
theorem cbX2_setKnots : gCB RX2 yX2_setKnots cX2_setKnots 4 none 3 := ⟨mw_351, mw_352, mw_4, mw_353, rfl, by decide, by decide, by decide +kernel⟩
theorem cbX2_setPlace : gCB RX2 yX2_setPlace cX2_setPlace 3 none 2 := ⟨mw_332, mw_333, mw_4, mw_334, rfl, by decide, by decide, by decide +kernel⟩
theorem cbX2_wake : gCB RX2 yX2_wake cX2_wake 2 none 1 := ⟨mw_343, mw_344, mw_4, mw_345, rfl, by decide, by decide, by decide +kernel⟩
theorem cbX2_wipe : gCB RX2 yX2_wipe cX2_wipe 1 none 0 := ⟨mw_271, mw_272, mw_4, mw_273, rfl, by decide, by decide, by decide +kernel⟩
theorem cbX2_writeTo : gCB RX2 yX2_writeTo cX2_writeTo 3 none 2 := ⟨mw_514, mw_515, mw_4, mw_516, rfl, by decide, by decide, by decide +kernel⟩
theorem cbX3_find : gCB RX3 yX3_find cX3_find 4 none 2 := ⟨mw_564, mw_565, mw_7, mw_566, rfl, by decide, by decide, by decide +kernel⟩
theorem cbX3_offer : gCB RX3 yX3_offer cX3_offer 5 none 2 := ⟨mw_575, ms_12, mw_7, mw_576, rfl, by decide, by decide, by decide +kernel⟩
theorem cbX3_walk : gCB RX3 yX3_walk cX3_walk 10 none 5 := ⟨mw_569, ms_11, mw_7, mw_570, rfl, by decide, by decide, by decide +kernel⟩
theorem cbX3_wellAt : gCB RX3 yX3_wellAt cX3_wellAt 2 (some .int) 1 := ⟨mw_580, mw_581, mw_7, mw_582, rfl, by decide, by decide, by decide +kernel⟩
theorem cbX4_bearsOf : gCB RX4 yX4_bearsOf cX4_bearsOf 2 (some .int) 1 := ⟨mw_430, mw_431, mw_3, mw_432, rfl, by decide, by decide, by decide +kernel⟩
theorem cbX4_endsEachStage : gCB RX4 yX4_endsEachStage cX4_endsEachStage 3 (some .boolean) 1 := ⟨mw_637, ms_13, mw_3, mw_638, rfl, by decide, by decide, by decide +kernel⟩
theorem cbX4_firstEnd : gCB RX4 yX4_firstEnd cX4_firstEnd 2 (some .int) 1 := ⟨mw_393, mw_394, mw_3, mw_395, rfl, by decide, by decide, by decide +kernel⟩
theorem cbX4_hasCaravan : gCB RX4 yX4_hasCaravan cX4_hasCaravan 2 (some .boolean) 1 := ⟨mw_418, mw_419, mw_3, mw_420, rfl, by decide, by decide, by decide +kernel⟩
theorem cbX4_hasStage : gCB RX4 yX4_hasStage cX4_hasStage 2 (some .boolean) 1 := ⟨mw_389, mw_390, mw_3, mw_391, rfl, by decide, by decide, by decide +kernel⟩
theorem cbX4_hasWell : gCB RX4 yX4_hasWell cX4_hasWell 2 (some .boolean) 1 := ⟨mw_458, mw_459, mw_3, mw_460, rfl, by decide, by decide, by decide +kernel⟩
theorem cbX4_hear : gCB RX4 yX4_hear cX4_hear 6 (some .boolean) 4 := ⟨mw_318, ms_4, mw_3, mw_319, rfl, by decide, by decide, by decide +kernel⟩
theorem cbX4_hearStop : gCS yX4_hearStop cX4_hearStop 1 (some .boolean) 1 := ⟨mw_321, mw_3, mw_322, by decide, by decide, by decide +kernel⟩
theorem cbX4_heatOf : gCB RX4 yX4_heatOf cX4_heatOf 2 (some .int) 1 := ⟨mw_402, mw_403, mw_3, mw_404, rfl, by decide, by decide, by decide +kernel⟩
theorem cbX4_isByNight : gCB RX4 yX4_isByNight cX4_isByNight 2 (some .boolean) 1 := ⟨mw_406, mw_407, mw_3, mw_408, rfl, by decide, by decide, by decide +kernel⟩
theorem cbX4_lenderOf : gCB RX4 yX4_lenderOf cX4_lenderOf 2 (some .int) 1 := ⟨mw_410, mw_411, mw_3, mw_412, rfl, by decide, by decide, by decide +kernel⟩
theorem cbX4_otherEnd : gCB RX4 yX4_otherEnd cX4_otherEnd 3 (some .int) 2 := ⟨mw_503, mw_504, mw_3, mw_505, rfl, by decide, by decide, by decide +kernel⟩
theorem cbX4_paidBy : gCB RX4 yX4_paidBy cX4_paidBy 3 (some .int) 2 := ⟨mw_531, mw_532, mw_3, mw_533, rfl, by decide, by decide, by decide +kernel⟩
theorem cbX4_refusesNight : gCB RX4 yX4_refusesNight cX4_refusesNight 2 (some .boolean) 1 := ⟨mw_463, mw_464, mw_3, mw_465, rfl, by decide, by decide, by decide +kernel⟩
theorem cbX4_salt : gCB RX4 yX4_salt cX4_salt 3 (some .int) 0 := ⟨mw_626, mw_627, mw_3, mw_628, rfl, by decide, by decide, by decide +kernel⟩
theorem cbX4_secondEnd : gCB RX4 yX4_secondEnd cX4_secondEnd 2 (some .int) 1 := ⟨mw_398, mw_399, mw_3, mw_400, rfl, by decide, by decide, by decide +kernel⟩
theorem cbX4_stagesLentBy : gCB RX4 yX4_stagesLentBy cX4_stagesLentBy 4 (some .int) 1 := ⟨mw_720, mw_721, mw_3, mw_722, rfl, by decide, by decide, by decide +kernel⟩
theorem cbX4_tellAll : gCB RX4 yX4_tellAll cX4_tellAll 3 (some .int) 1 := ⟨mw_267, mw_268, mw_3, mw_269, rfl, by decide, by decide, by decide +kernel⟩
theorem cbX4_tellCaravan : gCB RX4 yX4_tellCaravan cX4_tellCaravan 2 (some .boolean) 1 := ⟨mw_329, ms_6, mw_3, mw_330, rfl, by decide, by decide, by decide +kernel⟩
theorem cbX4_tellDues : gCB RX4 yX4_tellDues cX4_tellDues 2 (some .boolean) 1 := ⟨mw_359, ms_8, mw_3, mw_360, rfl, by decide, by decide, by decide +kernel⟩
theorem cbX4_tellItem : gCB RX4 yX4_tellItem cX4_tellItem 2 (some .boolean) 1 := ⟨mw_306, ms_2, mw_3, mw_307, rfl, by decide, by decide, by decide +kernel⟩
theorem cbX4_tellKnots : gCB RX4 yX4_tellKnots cX4_tellKnots 2 (some .boolean) 1 := ⟨mw_348, ms_7, mw_3, mw_349, rfl, by decide, by decide, by decide +kernel⟩
theorem cbX4_tellStage : gCB RX4 yX4_tellStage cX4_tellStage 2 (some .boolean) 1 := ⟨mw_325, ms_5, mw_3, mw_326, rfl, by decide, by decide, by decide +kernel⟩
theorem cbX4_tellWell : gCB RX4 yX4_tellWell cX4_tellWell 2 (some .boolean) 1 := ⟨mw_314, ms_3, mw_3, mw_315, rfl, by decide, by decide, by decide +kernel⟩
theorem cbX5_fewestPayments : gCB RX5 yX5_fewestPayments cX5_fewestPayments 8 (some .int) 2 := ⟨mw_618, mw_619, mw_9, mw_620, rfl, by decide, by decide, by decide +kernel⟩
theorem cbX6_append : gCB RX6 yX6_append cX6_append 2 (some .boolean) 1 := ⟨mw_247, mw_248, mw_2, mw_249, rfl, by decide, by decide, by decide +kernel⟩
theorem cbX6_empty : gCB RX6 yX6_empty cX6_empty 2 (some .int) 0 := ⟨mw_259, mw_260, mw_2, mw_261, rfl, by decide, by decide, by decide +kernel⟩
theorem cbX6_endOfRow : gCB RX6 yX6_endOfRow cX6_endOfRow 5 (some .int) 3 := ⟨mw_287, ms_0, mw_2, mw_288, rfl, by decide, by decide, by decide +kernel⟩
theorem cbX6_readNumber : gCB RX6 yX6_readNumber cX6_readNumber 3 none 1 := ⟨mw_295, ms_1, mw_2, mw_296, rfl, by decide, by decide, by decide +kernel⟩
theorem cbX6_rewind : gCB RX6 yX6_rewind cX6_rewind 1 none 0 := ⟨mw_278, mw_279, mw_2, mw_280, rfl, by decide, by decide, by decide +kernel⟩
theorem cbX6_scan : gCB RX6 yX6_scan cX6_scan 2 none 0 := ⟨mw_282, mw_283, mw_2, mw_284, rfl, by decide, by decide, by decide +kernel⟩
theorem cbX6_size : gCB RX6 yX6_size cX6_size 1 (some .int) 0 := ⟨mw_251, mw_252, mw_2, mw_253, rfl, by decide, by decide, by decide +kernel⟩
theorem cbX6_tokenKind : gCB RX6 yX6_tokenKind cX6_tokenKind 1 (some .int) 0 := ⟨mw_301, mw_302, mw_2, mw_303, rfl, by decide, by decide, by decide +kernel⟩
theorem cbX6_tokenPlace : gCB RX6 yX6_tokenPlace cX6_tokenPlace 1 (some .int) 0 := ⟨mw_366, mw_367, mw_2, mw_368, rfl, by decide, by decide, by decide +kernel⟩
theorem cbX6_tokenValue : gCB RX6 yX6_tokenValue cX6_tokenValue 1 (some .int) 0 := ⟨mw_309, mw_310, mw_2, mw_311, rfl, by decide, by decide, by decide +kernel⟩
theorem cbX7_find : gCB RX7 yX7_find cX7_find 9 none 4 := ⟨mw_645, mw_646, mw_8, mw_647, rfl, by decide, by decide, by decide +kernel⟩
theorem cbX7_firstOnto : gCB RX7 yX7_firstOnto cX7_firstOnto 5 (some .int) 3 := ⟨mw_655, ms_14, mw_8, mw_656, rfl, by decide, by decide, by decide +kernel⟩
theorem cbX7_heatOver : gCB RX7 yX7_heatOver cX7_heatOver 5 (some .int) 3 := ⟨mw_659, ms_15, mw_8, mw_660, rfl, by decide, by decide, by decide +kernel⟩
theorem cbX7_lengthen : gCB RX7 yX7_lengthen cX7_lengthen 4 none 1 := ⟨mw_667, ms_16, mw_8, mw_668, rfl, by decide, by decide, by decide +kernel⟩
theorem cbX8_back : gCB RX8 yX8_back cX8_back 2 (some .int) 1 := ⟨mw_756, mw_757, mw_1, mw_758, rfl, by decide, by decide, by decide +kernel⟩
theorem cbX8_borrow : gCB RX8 yX8_borrow cX8_borrow 6 (some .int) 2 := ⟨mw_549, ms_10, mw_1, mw_550, rfl, by decide, by decide, by decide +kernel⟩
theorem cbX8_canBorrow : gCB RX8 yX8_canBorrow cX8_canBorrow 4 (some .boolean) 2 := ⟨mw_545, ms_9, mw_1, mw_546, rfl, by decide, by decide, by decide +kernel⟩
theorem cbX8_caravan : gCB RX8 yX8_caravan cX8_caravan 4 (some .int) 2 := ⟨mw_414, mw_415, mw_1, mw_416, rfl, by decide, by decide, by decide +kernel⟩
theorem cbX8_chancesAlive : gCS yX8_chancesAlive cX8_chancesAlive 5 (some .int) 5 := ⟨mw_679, mw_1, mw_680, by decide, by decide, by decide +kernel⟩
theorem cbX8_clear : gCB RX8 yX8_clear cX8_clear 1 (some .int) 0 := ⟨mw_255, mw_256, mw_1, mw_257, rfl, by decide, by decide, by decide +kernel⟩
theorem cbX8_count : gCB RX8 yX8_count cX8_count 2 (some .int) 1 := ⟨mw_761, mw_762, mw_1, mw_763, rfl, by decide, by decide, by decide +kernel⟩
theorem cbX8_drinks : gCB RX8 yX8_drinks cX8_drinks 4 (some .int) 2 := ⟨mw_540, mw_541, mw_1, mw_542, rfl, by decide, by decide, by decide +kernel⟩
theorem cbX8_dues : gCB RX8 yX8_dues cX8_dues 3 (some .int) 2 := ⟨mw_494, mw_495, mw_1, mw_496, rfl, by decide, by decide, by decide +kernel⟩
theorem cbX8_fills : gCB RX8 yX8_fills cX8_fills 4 (some .int) 2 := ⟨mw_552, mw_553, mw_1, mw_554, rfl, by decide, by decide, by decide +kernel⟩
theorem cbX8_forget : gCB RX8 yX8_forget cX8_forget 1 (some .int) 0 := ⟨mw_690, mw_691, mw_1, mw_692, rfl, by decide, by decide, by decide +kernel⟩
theorem cbX8_goes : gCB RX8 yX8_goes cX8_goes 8 (some .int) 3 := ⟨mw_499, mw_500, mw_1, mw_501, rfl, by decide, by decide, by decide +kernel⟩
theorem cbX8_hands : gCB RX8 yX8_hands cX8_hands 8 (some .int) 4 := ⟨mw_556, mw_557, mw_1, mw_558, rfl, by decide, by decide, by decide +kernel⟩
theorem cbX8_hasBit : gCS yX8_hasBit cX8_hasBit 2 (some .boolean) 2 := ⟨mw_443, mw_1, mw_444, by decide, by decide, by decide +kernel⟩
theorem cbX8_hears : gCB RX8 yX8_hears cX8_hears 5 (some .int) 4 := ⟨mw_682, mw_683, mw_1, mw_684, rfl, by decide, by decide, by decide +kernel⟩
theorem cbX8_imageOf : gCB RX8 yX8_imageOf cX8_imageOf 2 (some (.object "WellKnots$Ledger")) 1 := ⟨mw_749, ms_23, mw_1, mw_750, rfl, by decide, by decide, by decide +kernel⟩
theorem cbX8_keep : gCB RX8 yX8_keep cX8_keep 2 (some .int) 1 := ⟨mw_744, mw_745, mw_1, mw_746, rfl, by decide, by decide, by decide +kernel⟩
theorem cbX8_knots : gCB RX8 yX8_knots cX8_knots 3 (some .int) 2 := ⟨mw_489, mw_490, mw_1, mw_491, rfl, by decide, by decide, by decide +kernel⟩
theorem cbX8_mark : gCB RX8 yX8_mark cX8_mark 3 (some .int) 2 := ⟨mw_707, mw_708, mw_1, mw_709, rfl, by decide, by decide, by decide +kernel⟩
theorem cbX8_markAsCamel : gCB RX8 yX8_markAsCamel cX8_markAsCamel 2 (some .int) 1 := ⟨mw_735, ms_21, mw_1, mw_736, rfl, by decide, by decide, by decide +kernel⟩
theorem cbX8_markAsChild : gCB RX8 yX8_markAsChild cX8_markAsChild 2 (some .int) 1 := ⟨mw_730, ms_20, mw_1, mw_731, rfl, by decide, by decide, by decide +kernel⟩
theorem cbX8_markAsDew : gCB RX8 yX8_markAsDew cX8_markAsDew 2 (some .int) 1 := ⟨mw_725, ms_19, mw_1, mw_726, rfl, by decide, by decide, by decide +kernel⟩
theorem cbX8_markAsKnot : gCB RX8 yX8_markAsKnot cX8_markAsKnot 2 (some .int) 1 := ⟨mw_716, ms_18, mw_1, mw_717, rfl, by decide, by decide, by decide +kernel⟩
theorem cbX8_markAsMirage : gCB RX8 yX8_markAsMirage cX8_markAsMirage 2 (some .int) 1 := ⟨mw_740, ms_22, mw_1, mw_741, rfl, by decide, by decide, by decide +kernel⟩
theorem cbX8_markAsWell : gCB RX8 yX8_markAsWell cX8_markAsWell 2 (some .int) 1 := ⟨mw_712, ms_17, mw_1, mw_713, rfl, by decide, by decide, by decide +kernel⟩
theorem cbX8_now : gCB RX8 yX8_now cX8_now 3 (some .int) 1 := ⟨mw_597, mw_598, mw_1, mw_599, rfl, by decide, by decide, by decide +kernel⟩
theorem cbX8_pass : gCB RX8 yX8_pass cX8_pass 4 (some .int) 3 := ⟨mw_641, mw_642, mw_1, mw_643, rfl, by decide, by decide, by decide +kernel⟩
theorem cbX8_ring : gCB RX8 yX8_ring cX8_ring 2 (some .int) 1 := ⟨mw_671, mw_672, mw_1, mw_673, rfl, by decide, by decide, by decide +kernel⟩
theorem cbX8_road : gCB RX8 yX8_road cX8_road 3 (some .int) 0 := ⟨mw_263, mw_264, mw_1, mw_265, rfl, by decide, by decide, by decide +kernel⟩
theorem cbX8_safe : gCB RX8 yX8_safe cX8_safe 11 (some .int) 6 := ⟨mw_675, mw_676, mw_1, mw_677, rfl, by decide, by decide, by decide +kernel⟩
theorem cbX8_stage : gCB RX8 yX8_stage cX8_stage 3 (some .int) 2 := ⟨mw_385, mw_386, mw_1, mw_387, rfl, by decide, by decide, by decide +kernel⟩
theorem cbX8_stones : gCB RX8 yX8_stones cX8_stones 2 (some .int) 1 := ⟨mw_694, mw_695, mw_1, mw_696, rfl, by decide, by decide, by decide +kernel⟩
theorem cbX8_strikes : gCB RX8 yX8_strikes cX8_strikes 5 (some .int) 0 := ⟨mw_560, mw_561, mw_1, mw_562, rfl, by decide, by decide, by decide +kernel⟩
theorem cbX8_trace : gCB RX8 yX8_trace cX8_trace 1 (some .long) 0 := ⟨mw_765, mw_766, mw_1, mw_767, rfl, by decide, by decide, by decide +kernel⟩
theorem cbX8_type : gCB RX8 yX8_type cX8_type 2 (some .int) 1 := ⟨mw_240, mw_241, mw_1, mw_242, rfl, by decide, by decide, by decide +kernel⟩
theorem cbX8_undo : gCB RX8 yX8_undo cX8_undo 1 (some .int) 0 := ⟨mw_585, mw_586, mw_1, mw_587, rfl, by decide, by decide, by decide +kernel⟩
theorem cbX8_well : gCB RX8 yX8_well cX8_well 4 (some .int) 2 := ⟨mw_454, mw_455, mw_1, mw_456, rfl, by decide, by decide, by decide +kernel⟩
theorem cbX8_within : gCS yX8_within cX8_within 3 (some .boolean) 3 := ⟨mw_244, mw_1, mw_245, by decide, by decide, by decide +kernel⟩
theorem cbX9_back : gCB RX9 yX9_back cX9_back 3 (some .int) 1 := ⟨mw_1064, mw_1065, mw_10, mw_1066, rfl, by decide, by decide, by decide +kernel⟩
theorem cbX9_begins : gCB RX9 yX9_begins cX9_begins 2 none 0 := ⟨mw_817, ms_32, mw_10, mw_818, rfl, by decide, by decide, by decide +kernel⟩
theorem cbX9_caravan : gCB RX9 yX9_caravan cX9_caravan 3 (some .int) 2 := ⟨mw_904, mw_905, mw_10, mw_906, rfl, by decide, by decide, by decide +kernel⟩
theorem cbX9_clear : gCB RX9 yX9_clear cX9_clear 2 (some .int) 0 := ⟨mw_888, mw_889, mw_10, mw_890, rfl, by decide, by decide, by decide +kernel⟩
theorem cbX9_count : gCB RX9 yX9_count cX9_count 2 (some .int) 1 := ⟨mw_1068, mw_1069, mw_10, mw_1070, rfl, by decide, by decide, by decide +kernel⟩
theorem cbX9_dies : gCB RX9 yX9_dies cX9_dies 3 none 1 := ⟨mw_961, ms_42, mw_10, mw_962, rfl, by decide, by decide, by decide +kernel⟩
theorem cbX9_drinks : gCB RX9 yX9_drinks cX9_drinks 4 (some .int) 2 := ⟨mw_968, mw_969, mw_10, mw_970, rfl, by decide, by decide, by decide +kernel⟩
theorem cbX9_dues : gCB RX9 yX9_dues cX9_dues 3 (some .int) 2 := ⟨mw_948, mw_949, mw_10, mw_950, rfl, by decide, by decide, by decide +kernel⟩
theorem cbX9_duesOf : gCB RX9 yX9_duesOf cX9_duesOf 4 (some .int) 1 := ⟨mw_937, ms_39, mw_10, mw_938, rfl, by decide, by decide, by decide +kernel⟩
theorem cbX9_fills : gCB RX9 yX9_fills cX9_fills 4 (some .int) 2 := ⟨mw_972, mw_973, mw_10, mw_974, rfl, by decide, by decide, by decide +kernel⟩
theorem cbX9_forget : gCB RX9 yX9_forget cX9_forget 2 (some .int) 0 := ⟨mw_1043, mw_1044, mw_10, mw_1045, rfl, by decide, by decide, by decide +kernel⟩
theorem cbX9_goes : gCB RX9 yX9_goes cX9_goes 8 (some .int) 3 := ⟨mw_952, mw_953, mw_10, mw_954, rfl, by decide, by decide, by decide +kernel⟩
theorem cbX9_hands : gCB RX9 yX9_hands cX9_hands 7 (some .int) 4 := ⟨mw_976, mw_977, mw_10, mw_978, rfl, by decide, by decide, by decide +kernel⟩
theorem cbX9_has : gCS yX9_has cX9_has 2 (some .boolean) 2 := ⟨mw_916, mw_10, mw_917, by decide, by decide, by decide +kernel⟩
theorem cbX9_hears : gCB RX9 yX9_hears cX9_hears 5 (some .int) 4 := ⟨mw_1039, mw_1040, mw_10, mw_1041, rfl, by decide, by decide, by decide +kernel⟩
theorem cbX9_in : gCS yX9_in cX9_in 3 (some .boolean) 3 := ⟨mw_790, mw_10, mw_791, by decide, by decide, by decide +kernel⟩
theorem cbX9_isAlive : gCB RX9 yX9_isAlive cX9_isAlive 2 (some .boolean) 1 := ⟨mw_913, ms_35, mw_10, mw_914, rfl, by decide, by decide, by decide +kernel⟩
theorem cbX9_isCaravan : gCB RX9 yX9_isCaravan cX9_isCaravan 2 (some .boolean) 1 := ⟨mw_909, ms_34, mw_10, mw_910, rfl, by decide, by decide, by decide +kernel⟩
theorem cbX9_isDigit : gCS yX9_isDigit cX9_isDigit 1 (some .boolean) 1 := ⟨mw_793, mw_10, mw_794, by decide, by decide, by decide +kernel⟩
theorem cbX9_isLetter : gCS yX9_isLetter cX9_isLetter 1 (some .boolean) 1 := ⟨mw_787, mw_10, mw_788, by decide, by decide, by decide +kernel⟩
theorem cbX9_isStage : gCB RX9 yX9_isStage cX9_isStage 2 (some .boolean) 1 := ⟨mw_901, ms_33, mw_10, mw_902, rfl, by decide, by decide, by decide +kernel⟩
theorem cbX9_isWell : gCB RX9 yX9_isWell cX9_isWell 2 (some .boolean) 1 := ⟨mw_928, ms_37, mw_10, mw_929, rfl, by decide, by decide, by decide +kernel⟩
theorem cbX9_keep : gCB RX9 yX9_keep cX9_keep 3 (some .int) 1 := ⟨mw_1060, mw_1061, mw_10, mw_1062, rfl, by decide, by decide, by decide +kernel⟩
theorem cbX9_keeps : gCB RX9 yX9_keeps cX9_keeps 3 none 0 := ⟨mw_957, ms_41, mw_10, mw_958, rfl, by decide, by decide, by decide +kernel⟩
theorem cbX9_knots : gCB RX9 yX9_knots cX9_knots 3 (some .int) 2 := ⟨mw_944, mw_945, mw_10, mw_946, rfl, by decide, by decide, by decide +kernel⟩
theorem cbX9_knotsAt : gCB RX9 yX9_knotsAt cX9_knotsAt 4 (some .int) 1 := ⟨mw_933, ms_38, mw_10, mw_934, rfl, by decide, by decide, by decide +kernel⟩
theorem cbX9_knotsOf : gCB RX9 yX9_knotsOf cX9_knotsOf 4 (some .int) 1 := ⟨mw_920, ms_36, mw_10, mw_921, rfl, by decide, by decide, by decide +kernel⟩
theorem cbX9_letterAt : gCB RX9 yX9_letterAt cX9_letterAt 2 (some .int) 1 := ⟨mw_784, ms_26, mw_10, mw_785, rfl, by decide, by decide, by decide +kernel⟩
theorem cbX9_mark : gCB RX9 yX9_mark cX9_mark 6 (some .int) 2 := ⟨mw_1051, mw_1052, mw_10, mw_1053, rfl, by decide, by decide, by decide +kernel⟩
theorem cbX9_mayWalk : gCB RX9 yX9_mayWalk cX9_mayWalk 5 (some .boolean) 2 := ⟨mw_989, ms_45, mw_10, mw_990, rfl, by decide, by decide, by decide +kernel⟩
theorem cbX9_net : gCB RX9 yX9_net cX9_net 4 (some .int) 1 := ⟨mw_941, ms_40, mw_10, mw_942, rfl, by decide, by decide, by decide +kernel⟩
theorem cbX9_netOf : gCB RX9 yX9_netOf cX9_netOf 4 (some .int) 1 := ⟨mw_1013, ms_49, mw_10, mw_1014, rfl, by decide, by decide, by decide +kernel⟩
theorem cbX9_now : gCB RX9 yX9_now cX9_now 5 (some .int) 1 := ⟨mw_1004, mw_1005, mw_10, mw_1006, rfl, by decide, by decide, by decide +kernel⟩
theorem cbX9_number : gCB RX9 yX9_number cX9_number 3 (some .boolean) 2 := ⟨mw_801, ms_28, mw_10, mw_802, rfl, by decide, by decide, by decide +kernel⟩
theorem cbX9_ones : gCS yX9_ones cX9_ones 3 (some .int) 1 := ⟨mw_1016, mw_10, mw_1017, by decide, by decide, by decide +kernel⟩
theorem cbX9_paid : gCB RX9 yX9_paid cX9_paid 5 (some .int) 2 := ⟨mw_965, ms_43, mw_10, mw_966, rfl, by decide, by decide, by decide +kernel⟩
theorem cbX9_pass : gCB RX9 yX9_pass cX9_pass 13 (some .int) 3 := ⟨mw_1023, mw_1024, mw_10, mw_1025, rfl, by decide, by decide, by decide +kernel⟩
theorem cbX9_reads : gCB RX9 yX9_reads cX9_reads 2 (some .boolean) 0 := ⟨mw_776, ms_24, mw_10, mw_777, rfl, by decide, by decide, by decide +kernel⟩
theorem cbX9_readsCaravan : gCB RX9 yX9_readsCaravan cX9_readsCaravan 2 (some .boolean) 0 := ⟨mw_809, ms_30, mw_10, mw_810, rfl, by decide, by decide, by decide +kernel⟩
theorem cbX9_readsDebt : gCB RX9 yX9_readsDebt cX9_readsDebt 5 (some .boolean) 1 := ⟨mw_813, ms_31, mw_10, mw_814, rfl, by decide, by decide, by decide +kernel⟩
theorem cbX9_readsItem : gCB RX9 yX9_readsItem cX9_readsItem 3 (some .boolean) 0 := ⟨mw_797, ms_27, mw_10, mw_798, rfl, by decide, by decide, by decide +kernel⟩
theorem cbX9_readsStage : gCB RX9 yX9_readsStage cX9_readsStage 3 (some .boolean) 0 := ⟨mw_805, ms_29, mw_10, mw_806, rfl, by decide, by decide, by decide +kernel⟩
theorem cbX9_reckons : gCB RX9 yX9_reckons cX9_reckons 8 none 1 := ⟨mw_1028, ms_51, mw_10, mw_1029, rfl, by decide, by decide, by decide +kernel⟩
theorem cbX9_ring : gCB RX9 yX9_ring cX9_ring 2 (some .int) 1 := ⟨mw_1031, mw_1032, mw_10, mw_1033, rfl, by decide, by decide, by decide +kernel⟩
theorem cbX9_rings : gCB RX9 yX9_rings cX9_rings 4 none 0 := ⟨mw_985, ms_44, mw_10, mw_986, rfl, by decide, by decide, by decide +kernel⟩
theorem cbX9_road : gCB RX9 yX9_road cX9_road 1 (some .int) 0 := ⟨mw_892, mw_893, mw_10, mw_894, rfl, by decide, by decide, by decide +kernel⟩
theorem cbX9_safe : gCB RX9 yX9_safe cX9_safe 13 (some .int) 6 := ⟨mw_1035, mw_1036, mw_10, mw_1037, rfl, by decide, by decide, by decide +kernel⟩
theorem cbX9_salt : gCB RX9 yX9_salt cX9_salt 5 (some .int) 0 := ⟨mw_1020, ms_50, mw_10, mw_1021, rfl, by decide, by decide, by decide +kernel⟩
theorem cbX9_settle : gCB RX9 yX9_settle cX9_settle 6 (some .int) 0 := ⟨mw_1009, ms_48, mw_10, mw_1010, rfl, by decide, by decide, by decide +kernel⟩
theorem cbX9_stage : gCB RX9 yX9_stage cX9_stage 3 (some .int) 2 := ⟨mw_896, mw_897, mw_10, mw_898, rfl, by decide, by decide, by decide +kernel⟩
theorem cbX9_stones : gCB RX9 yX9_stones cX9_stones 6 (some .int) 1 := ⟨mw_1047, mw_1048, mw_10, mw_1049, rfl, by decide, by decide, by decide +kernel⟩
theorem cbX9_strikeOf : gCB RX9 yX9_strikeOf cX9_strikeOf 5 (some .int) 1 := ⟨mw_997, ms_47, mw_10, mw_998, rfl, by decide, by decide, by decide +kernel⟩
theorem cbX9_strikes : gCB RX9 yX9_strikes cX9_strikes 2 (some .int) 0 := ⟨mw_980, mw_981, mw_10, mw_982, rfl, by decide, by decide, by decide +kernel⟩
theorem cbX9_token : gCB RX9 yX9_token cX9_token 2 none 0 := ⟨mw_780, ms_25, mw_10, mw_781, rfl, by decide, by decide, by decide +kernel⟩
theorem cbX9_trace : gCB RX9 yX9_trace cX9_trace 1 (some .long) 0 := ⟨mw_1072, mw_1073, mw_10, mw_1074, rfl, by decide, by decide, by decide +kernel⟩
theorem cbX9_tries : gCB RX9 yX9_tries cX9_tries 5 none 1 := ⟨mw_993, ms_46, mw_10, mw_994, rfl, by decide, by decide, by decide +kernel⟩
theorem cbX9_type : gCB RX9 yX9_type cX9_type 2 (some .int) 1 := ⟨mw_884, mw_885, mw_10, mw_886, rfl, by decide, by decide, by decide +kernel⟩
theorem cbX9_undo : gCB RX9 yX9_undo cX9_undo 3 (some .int) 0 := ⟨mw_1000, mw_1001, mw_10, mw_1002, rfl, by decide, by decide, by decide +kernel⟩
theorem cbX9_well : gCB RX9 yX9_well cX9_well 3 (some .int) 2 := ⟨mw_923, mw_924, mw_10, mw_925, rfl, by decide, by decide, by decide +kernel⟩
theorem nf_RX8_86 : (RX8, 86, RX4, (TX4 10).2.1, (TX4 10).2.2.1) ∈ nestF := by decide +kernel
theorem nf_RX8_123 : (RX8, 123, RX1, (TX1 0).2.1, (TX1 0).2.2.1) ∈ nestF := by decide +kernel
theorem nf_RX8_208 : (RX8, 208, RX4, (TX4 0).2.1, (TX4 0).2.2.1) ∈ nestF := by decide +kernel
theorem nf_RX8_215 : (RX8, 215, RX3, (TX3 2).2.1, (TX3 2).2.2.1) ∈ nestF := by decide +kernel
theorem nf_RX8_220 : (RX8, 220, RX3, (TX3 3).2.1, (TX3 3).2.2.1) ∈ nestF := by decide +kernel
theorem nf_RX8_230 : (RX8, 230, RX1, (TX1 2).2.1, (TX1 2).2.2.1) ∈ nestF := by decide +kernel
theorem nf_RX8_255 : (RX8, 255, RX7, (TX7 2).2.1, (TX7 2).2.2.1) ∈ nestF := by decide +kernel
theorem nf_RX8_258 : (RX8, 258, RX7, (TX7 3).2.1, (TX7 3).2.2.1) ∈ nestF := by decide +kernel
theorem nf_RX8_261 : (RX8, 261, RX7, (TX7 4).2.1, (TX7 4).2.2.1) ∈ nestF := by decide +kernel
theorem nf_RX8_270 : (RX8, 270, RX0, (TX0 2).2.1, (TX0 2).2.2.1) ∈ nestF := by decide +kernel
theorem nf_RX8_306 : (RX8, 306, RX4, (TX4 1).2.1, (TX4 1).2.2.1) ∈ nestF := by decide +kernel
theorem nf_RX8_309 : (RX8, 309, RX4, (TX4 2).2.1, (TX4 2).2.2.1) ∈ nestF := by decide +kernel
theorem nf_RX7_48 : (RX7, 48, RX4, (TX4 0).2.1, (TX4 0).2.2.1) ∈ nestF := by decide +kernel
theorem nf_RX7_71 : (RX7, 71, RX4, (TX4 1).2.1, (TX4 1).2.2.1) ∈ nestF := by decide +kernel
theorem nm_RX8_9 : (RX8, 9, yX6_init) ∈ nestM := by decide +kernel
theorem nm_RX8_18 : (RX8, 18, yX4_init) ∈ nestM := by decide +kernel
theorem nm_RX8_28 : (RX8, 28, yX1_init) ∈ nestM := by decide +kernel
theorem nm_RX8_41 : (RX8, 41, yX0_init) ∈ nestM := by decide +kernel
theorem nm_RX8_48 : (RX8, 48, yX3_init) ∈ nestM := by decide +kernel
theorem nm_RX8_55 : (RX8, 55, yX7_init) ∈ nestM := by decide +kernel
theorem nm_RX8_62 : (RX8, 62, yX5_init) ∈ nestM := by decide +kernel
theorem nm_RX0_22 : (RX0, 22, yX8_within) ∈ nestM := by decide +kernel
theorem nm_RX1_11 : (RX1, 11, yX2_init) ∈ nestM := by decide +kernel
theorem nm_RX2_31 : (RX2, 31, yX8_hasBit) ∈ nestM := by decide +kernel
theorem nm_RX3_44 : (RX3, 44, yX8_hasBit) ∈ nestM := by decide +kernel
theorem nm_RX4_36 : (RX4, 36, yX2_init) ∈ nestM := by decide +kernel
theorem nm_RX4_88 : (RX4, 88, yX8_hasBit) ∈ nestM := by decide +kernel
theorem nm_RX5_24 : (RX5, 24, yX8_hasBit) ∈ nestM := by decide +kernel
theorem nm_RX6_35 : (RX6, 35, yX8_within) ∈ nestM := by decide +kernel
end
section
def F_X8_within (a1 : Int32) (a2 : Int32) (a3 : Int32) : Int32 := (if a1 < a2 then (0 : Int32) else (if a3 < a1 then (0 : Int32) else (1 : Int32)))
set_option maxHeartbeats 4000000 in
set_option maxRecDepth 20000 in
theorem c_X8_within (l : Launch) (D : va_G) (cI cZ : ClassId) (z : Nat) (ws : va_W) (a1 a2 a3 : Int32) : gM l yX8_within cX8_within 3 (some .boolean) 1 D cI cZ z ws [.int a1, .int a2, .int a3] (some (.int (F_X8_within a1 a2 a3))) ws := by
  refine g_met (own := RX8) (by decide) rfl (Nat.le_of_ble_eq_true rfl) (fun p e s m below meth c ls Q E hr hlk h hl hQ => ?_)
  have hx := E.1
  have hb := E.2.1
  have hF : (F_X8_within a1 a2 a3) = (F_X8_within a1 a2 a3) := rfl
  have hl : lv_has ls 3 [(0, .int a1), (1, .int a2), (2, .int a3)] := hl
  refine lv_iload_n hx hb dX8_within_0 rfl (lv_at hl 1 rfl) ?_
  refine lv_iload_n hx hb dX8_within_1 rfl (lv_at hl 0 rfl) ?_
  refine lv_icmp_gt (tgt := 14) hx hb dX8_within_2 (by decide) (fun c1 => ?_) (fun c1 => ?_)
  · have ic1 : a1.toInt < a2.toInt := i_lt c1
    have hF := (if_pos c1).symm.trans hF
    refine lv_iconst (v := 0) hx hb dX8_within_14 (by decide) ?_
    exact g_zret E hr hlk h hQ (rfl) hF rfl dX8_within_15
  · have ic1 : a2.toInt ≤ a1.toInt := i_nlt c1
    have hF := (if_neg c1).symm.trans hF
    refine lv_iload_n hx hb dX8_within_5 rfl (lv_at hl 0 rfl) ?_
    refine lv_iload_n hx hb dX8_within_6 rfl (lv_at hl 2 rfl) ?_
    refine lv_icmp_gt (tgt := 14) hx hb dX8_within_7 (by decide) (fun c2 => ?_) (fun c2 => ?_)
    · have ic2 : a3.toInt < a1.toInt := i_lt c2
      have hF := (if_pos c2).symm.trans hF
      refine lv_iconst (v := 0) hx hb dX8_within_14 (by decide) ?_
      exact g_zret E hr hlk h hQ (rfl) hF rfl dX8_within_15
    · have ic2 : a1.toInt ≤ a3.toInt := i_nlt c2
      have hF := (if_neg c2).symm.trans hF
      refine lv_iconst (v := 1) hx hb dX8_within_10 (by decide) ?_
      refine lv_goto (tgt := 15) hx hb dX8_within_11 (by decide) ?_
      exact g_zret E hr hlk h hQ (rfl) hF rfl dX8_within_15

def F_X8_hasBit (a1 : Int32) (a2 : Int32) : Int32 := (if ((a1 >>> (a2 &&& 31)) &&& (1 : Int32)) = (1 : Int32) then (1 : Int32) else (0 : Int32))
set_option maxHeartbeats 4000000 in
set_option maxRecDepth 20000 in
theorem c_X8_hasBit (l : Launch) (D : va_G) (cI cZ : ClassId) (z : Nat) (ws : va_W) (a1 a2 : Int32) : gM l yX8_hasBit cX8_hasBit 2 (some .boolean) 1 D cI cZ z ws [.int a1, .int a2] (some (.int (F_X8_hasBit a1 a2))) ws := by
  refine g_met (own := RX8) (by decide) rfl (Nat.le_of_ble_eq_true rfl) (fun p e s m below meth c ls Q E hr hlk h hl hQ => ?_)
  have hx := E.1
  have hb := E.2.1
  have hF : (F_X8_hasBit a1 a2) = (F_X8_hasBit a1 a2) := rfl
  have hl : lv_has ls 2 [(0, .int a1), (1, .int a2)] := hl
  refine lv_iload_n hx hb dX8_hasBit_0 rfl (lv_at hl 0 rfl) ?_
  refine lv_iload_n hx hb dX8_hasBit_1 rfl (lv_at hl 1 rfl) ?_
  refine lv_ishr hx hb dX8_hasBit_2 ?_
  refine lv_iconst (v := 1) hx hb dX8_hasBit_3 (by decide) ?_
  refine lv_iand hx hb dX8_hasBit_4 ?_
  refine lv_iconst (v := 1) hx hb dX8_hasBit_5 (by decide) ?_
  refine lv_icmp_ne (tgt := 13) hx hb dX8_hasBit_6 (by decide) (fun c1 => ?_) (fun c1 => ?_)
  · have ic1 : ((a1 >>> (a2 &&& 31)) &&& (1 : Int32)).toInt ≠ 1 := i_ne c1
    have hF := (if_neg c1).symm.trans hF
    refine lv_iconst (v := 0) hx hb dX8_hasBit_13 (by decide) ?_
    exact g_zret E hr hlk h hQ (rfl) hF rfl dX8_hasBit_14
  · have ic1 : ((a1 >>> (a2 &&& 31)) &&& (1 : Int32)).toInt = 1 := i_eq c1
    have hF := (if_pos c1).symm.trans hF
    refine lv_iconst (v := 1) hx hb dX8_hasBit_9 (by decide) ?_
    refine lv_goto (tgt := 14) hx hb dX8_hasBit_10 (by decide) ?_
    exact g_zret E hr hlk h hQ (rfl) hF rfl dX8_hasBit_14

def F_X2_isCaravan (a1 : Int32) : Int32 := (if a1 < (0 : Int32) then (0 : Int32) else (if (4 : Int32) ≤ a1 then (0 : Int32) else (1 : Int32)))
set_option maxHeartbeats 4000000 in
set_option maxRecDepth 20000 in
theorem c_X2_isCaravan (l : Launch) (D : va_G) (cI cZ : ClassId) (z : Nat) (ws : va_W) (a1 : Int32) : gM l yX2_isCaravan cX2_isCaravan 1 (some .boolean) 1 D cI cZ z ws [.int a1] (some (.int (F_X2_isCaravan a1))) ws := by
  refine g_met (own := RX2) (by decide) rfl (Nat.le_of_ble_eq_true rfl) (fun p e s m below meth c ls Q E hr hlk h hl hQ => ?_)
  have hx := E.1
  have hb := E.2.1
  have hF : (F_X2_isCaravan a1) = (F_X2_isCaravan a1) := rfl
  have hl : lv_has ls 1 [(0, .int a1)] := hl
  refine lv_iconst (v := 0) hx hb dX2_isCaravan_0 (by decide) ?_
  refine lv_iload_n hx hb dX2_isCaravan_1 rfl (lv_at hl 0 rfl) ?_
  refine lv_icmp_gt (tgt := 14) hx hb dX2_isCaravan_2 (by decide) (fun c1 => ?_) (fun c1 => ?_)
  · have ic1 : a1.toInt < 0 := i_lt c1
    have hF := (if_pos c1).symm.trans hF
    refine lv_iconst (v := 0) hx hb dX2_isCaravan_14 (by decide) ?_
    exact g_zret E hr hlk h hQ (rfl) hF rfl dX2_isCaravan_15
  · have ic1 : 0 ≤ a1.toInt := i_nlt c1
    have hF := (if_neg c1).symm.trans hF
    refine lv_iload_n hx hb dX2_isCaravan_5 rfl (lv_at hl 0 rfl) ?_
    refine lv_iconst (v := 4) hx hb dX2_isCaravan_6 (by decide) ?_
    refine lv_icmp_ge (tgt := 14) hx hb dX2_isCaravan_7 (by decide) (fun c2 => ?_) (fun c2 => ?_)
    · have ic2 : 4 ≤ a1.toInt := i_le c2
      have hF := (if_pos c2).symm.trans hF
      refine lv_iconst (v := 0) hx hb dX2_isCaravan_14 (by decide) ?_
      exact g_zret E hr hlk h hQ (rfl) hF rfl dX2_isCaravan_15
    · have ic2 : a1.toInt < 4 := i_nle c2
      have hF := (if_neg c2).symm.trans hF
      refine lv_iconst (v := 1) hx hb dX2_isCaravan_10 (by decide) ?_
      refine lv_goto (tgt := 15) hx hb dX2_isCaravan_11 (by decide) ?_
      exact g_zret E hr hlk h hQ (rfl) hF rfl dX2_isCaravan_15

def F_X2_isWell (a1 : Int32) : Int32 := (if a1 < (0 : Int32) then (0 : Int32) else (if (6 : Int32) ≤ a1 then (0 : Int32) else (1 : Int32)))
set_option maxHeartbeats 4000000 in
set_option maxRecDepth 20000 in
theorem c_X2_isWell (l : Launch) (D : va_G) (cI cZ : ClassId) (z : Nat) (ws : va_W) (a1 : Int32) : gM l yX2_isWell cX2_isWell 1 (some .boolean) 1 D cI cZ z ws [.int a1] (some (.int (F_X2_isWell a1))) ws := by
  refine g_met (own := RX2) (by decide) rfl (Nat.le_of_ble_eq_true rfl) (fun p e s m below meth c ls Q E hr hlk h hl hQ => ?_)
  have hx := E.1
  have hb := E.2.1
  have hF : (F_X2_isWell a1) = (F_X2_isWell a1) := rfl
  have hl : lv_has ls 1 [(0, .int a1)] := hl
  refine lv_iconst (v := 0) hx hb dX2_isWell_0 (by decide) ?_
  refine lv_iload_n hx hb dX2_isWell_1 rfl (lv_at hl 0 rfl) ?_
  refine lv_icmp_gt (tgt := 15) hx hb dX2_isWell_2 (by decide) (fun c1 => ?_) (fun c1 => ?_)
  · have ic1 : a1.toInt < 0 := i_lt c1
    have hF := (if_pos c1).symm.trans hF
    refine lv_iconst (v := 0) hx hb dX2_isWell_15 (by decide) ?_
    exact g_zret E hr hlk h hQ (rfl) hF rfl dX2_isWell_16
  · have ic1 : 0 ≤ a1.toInt := i_nlt c1
    have hF := (if_neg c1).symm.trans hF
    refine lv_iload_n hx hb dX2_isWell_5 rfl (lv_at hl 0 rfl) ?_
    refine lv_bipush (v := 6) hx hb dX2_isWell_6 (by decide) ?_
    refine lv_icmp_ge (tgt := 15) hx hb dX2_isWell_8 (by decide) (fun c2 => ?_) (fun c2 => ?_)
    · have ic2 : 6 ≤ a1.toInt := i_le c2
      have hF := (if_pos c2).symm.trans hF
      refine lv_iconst (v := 0) hx hb dX2_isWell_15 (by decide) ?_
      exact g_zret E hr hlk h hQ (rfl) hF rfl dX2_isWell_16
    · have ic2 : a1.toInt < 6 := i_nle c2
      have hF := (if_neg c2).symm.trans hF
      refine lv_iconst (v := 1) hx hb dX2_isWell_11 (by decide) ?_
      refine lv_goto (tgt := 16) hx hb dX2_isWell_12 (by decide) ?_
      exact g_zret E hr hlk h hQ (rfl) hF rfl dX2_isWell_16

def F_X2_sand (σ : St) : Int32 := ((σ.2.1 27) (0 : Int32).toNatClampNeg)
set_option maxHeartbeats 4000000 in
set_option maxRecDepth 20000 in
theorem c_X2_sand (l : Launch) (D : va_G) (cI cZ : ClassId) (z : Nat) (ad : Nat → Nat) (σ τ : St) : gM l yX2_sand cX2_sand 1 (some .int) 1 D cI cZ z (gws ad cI cZ σ τ) [.ref (ad 26)] (some (.int (F_X2_sand σ))) (gws ad cI cZ σ τ) := by
  refine g_met (own := RX2) (by decide) rfl (Nat.le_of_ble_eq_true rfl) (fun p e s m below meth c ls Q E hr hlk h hl hQ => ?_)
  have hx := E.1
  have hb := E.2.1
  have hF : (F_X2_sand σ) = (F_X2_sand σ) := rfl
  have hl : lv_has ls 1 [(0, .ref (ad 26))] := hl
  refine lv_aload_n hx hb dX2_sand_0 rfl (lv_at hl 0 rfl) ?_
  refine g_get (v := .ref (ad 27)) E h 26 rfl rfl layX2 0 (by decide) rfl mw_61 rfl dX2_sand_1 ?_
  refine lv_iconst (v := 0) hx hb dX2_sand_4 (by decide) ?_
  refine g_iald (f := (σ.2.1 27)) E h 27 rfl (ix_of (oI_lit (x := 0) (a := 0) rfl) (by omega) (by decide)) dX2_sand_5 ?_
  exact g_iret E hr hlk h hQ hF rfl dX2_sand_6

def F_X2_alive (σ : St) : Int32 := ((σ.2.1 27) (1 : Int32).toNatClampNeg)
set_option maxHeartbeats 4000000 in
set_option maxRecDepth 20000 in
theorem c_X2_alive (l : Launch) (D : va_G) (cI cZ : ClassId) (z : Nat) (ad : Nat → Nat) (σ τ : St) : gM l yX2_alive cX2_alive 1 (some .int) 1 D cI cZ z (gws ad cI cZ σ τ) [.ref (ad 26)] (some (.int (F_X2_alive σ))) (gws ad cI cZ σ τ) := by
  refine g_met (own := RX2) (by decide) rfl (Nat.le_of_ble_eq_true rfl) (fun p e s m below meth c ls Q E hr hlk h hl hQ => ?_)
  have hx := E.1
  have hb := E.2.1
  have hF : (F_X2_alive σ) = (F_X2_alive σ) := rfl
  have hl : lv_has ls 1 [(0, .ref (ad 26))] := hl
  refine lv_aload_n hx hb dX2_alive_0 rfl (lv_at hl 0 rfl) ?_
  refine g_get (v := .ref (ad 27)) E h 26 rfl rfl layX2 0 (by decide) rfl mw_61 rfl dX2_alive_1 ?_
  refine lv_iconst (v := 1) hx hb dX2_alive_4 (by decide) ?_
  refine g_iald (f := (σ.2.1 27)) E h 27 rfl (ix_of (oI_lit (x := 1) (a := 1) rfl) (by omega) (by decide)) dX2_alive_5 ?_
  exact g_iret E hr hlk h hQ hF rfl dX2_alive_6

theorem fz_isCaravan {c : Int32} (h : ¬ F_X2_isCaravan c = 0) : 0 ≤ c.toInt ∧ c.toInt < 4 := by
  unfold F_X2_isCaravan at h
  split at h
  · exact absurd rfl h
  · rename_i h1
    split at h
    · exact absurd rfl h
    · rename_i h2
      exact ⟨i_nlt h1, i_nle h2⟩

theorem fz_isWell {c : Int32} (h : ¬ F_X2_isWell c = 0) : 0 ≤ c.toInt ∧ c.toInt < 6 := by
  unfold F_X2_isWell at h
  split at h
  · exact absurd rfl h
  · rename_i h1
    split at h
    · exact absurd rfl h
    · rename_i h2
      exact ⟨i_nlt h1, i_nle h2⟩

def F_X2_isAlive (σ : St) (a1 : Int32) : Int32 := (if (F_X2_isCaravan a1) = 0 then (0 : Int32) else (if (F_X8_hasBit ((σ.2.1 27) (1 : Int32).toNatClampNeg) a1) = 0 then (0 : Int32) else (1 : Int32)))
set_option maxHeartbeats 4000000 in
set_option maxRecDepth 20000 in
theorem c_X2_isAlive (l : Launch) (D : va_G) (cI cZ : ClassId) (z : Nat) (ad : Nat → Nat) (σ τ : St) (a1 : Int32) : gM l yX2_isAlive cX2_isAlive 2 (some .boolean) 2 D cI cZ z (gws ad cI cZ σ τ) [.ref (ad 26), .int a1] (some (.int (F_X2_isAlive σ a1))) (gws ad cI cZ σ τ) := by
  refine g_met (own := RX2) (by decide) rfl (Nat.le_of_ble_eq_true rfl) (fun p e s m below meth c ls Q E hr hlk h hl hQ => ?_)
  have hx := E.1
  have hb := E.2.1
  have hF : (F_X2_isAlive σ a1) = (F_X2_isAlive σ a1) := rfl
  have hl : lv_has ls 2 [(0, .ref (ad 26)), (1, .int a1)] := hl
  refine lv_iload_n hx hb dX2_isAlive_0 rfl (lv_at hl 1 rfl) ?_
  refine g_callSi (rest := []) E h (c_X2_isCaravan l D cI cZ z (gws ad cI cZ σ τ) a1) mw_335 cbX2_isCaravan ⟨by decide, by decide⟩ rfl rfl hl.1 (Nat.le_of_ble_eq_true rfl) ⟨by decide, by decide⟩ dX2_isAlive_1 (fun H locs h => ?_)
  refine lv_if_eq (tgt := 24) hx hb dX2_isAlive_4 (by decide) (fun c1 => ?_) (fun c1 => ?_)
  · have ic1 : (F_X2_isCaravan a1).toInt = 0 := i_eq c1
    have hF := (if_pos c1).symm.trans hF
    refine lv_iconst (v := 0) hx hb dX2_isAlive_24 (by decide) ?_
    exact g_zret E hr hlk h hQ (rfl) hF rfl dX2_isAlive_25
  · have ic1 : (F_X2_isCaravan a1).toInt ≠ 0 := i_ne c1
    have jc1 := fz_isCaravan c1
    have hF := (if_neg c1).symm.trans hF
    refine lv_aload_n hx hb dX2_isAlive_7 rfl (lv_at hl 0 rfl) ?_
    refine g_get (v := .ref (ad 27)) E h 26 rfl rfl layX2 0 (by decide) rfl mw_61 rfl dX2_isAlive_8 ?_
    refine lv_iconst (v := 1) hx hb dX2_isAlive_11 (by decide) ?_
    refine g_iald (f := (σ.2.1 27)) E h 27 rfl (ix_of (oI_lit (x := 1) (a := 1) rfl) (by omega) (by decide)) dX2_isAlive_12 ?_
    refine lv_iload_n hx hb dX2_isAlive_13 rfl (lv_at hl 1 rfl) ?_
    refine g_callSNi (rest := []) E h (c_X8_hasBit l D cI cZ z (gws ad cI cZ σ τ) ((σ.2.1 27) (1 : Int32).toNatClampNeg) a1) nm_RX2_31 cbX8_hasBit ⟨by decide, by decide⟩ rfl rfl hl.1 (Nat.le_of_ble_eq_true rfl) ⟨by decide, by decide⟩ dX2_isAlive_14 (fun H locs h => ?_)
    refine lv_if_eq (tgt := 24) hx hb dX2_isAlive_17 (by decide) (fun c2 => ?_) (fun c2 => ?_)
    · have ic2 : (F_X8_hasBit ((σ.2.1 27) (1 : Int32).toNatClampNeg) a1).toInt = 0 := i_eq c2
      have hF := (if_pos c2).symm.trans hF
      refine lv_iconst (v := 0) hx hb dX2_isAlive_24 (by decide) ?_
      exact g_zret E hr hlk h hQ (rfl) hF rfl dX2_isAlive_25
    · have ic2 : (F_X8_hasBit ((σ.2.1 27) (1 : Int32).toNatClampNeg) a1).toInt ≠ 0 := i_ne c2
      have hF := (if_neg c2).symm.trans hF
      refine lv_iconst (v := 1) hx hb dX2_isAlive_20 (by decide) ?_
      refine lv_goto (tgt := 25) hx hb dX2_isAlive_21 (by decide) ?_
      exact g_zret E hr hlk h hQ (rfl) hF rfl dX2_isAlive_25

def F_X2_placeOf (σ : St) (a1 : Int32) : Int32 := (if (F_X2_isCaravan a1) = 0 then ((-9) : Int32) else ((σ.2.1 27) ((2 : Int32) + a1).toNatClampNeg))
set_option maxHeartbeats 4000000 in
set_option maxRecDepth 20000 in
theorem c_X2_placeOf (l : Launch) (D : va_G) (cI cZ : ClassId) (z : Nat) (ad : Nat → Nat) (σ τ : St) (a1 : Int32) : gM l yX2_placeOf cX2_placeOf 2 (some .int) 2 D cI cZ z (gws ad cI cZ σ τ) [.ref (ad 26), .int a1] (some (.int (F_X2_placeOf σ a1))) (gws ad cI cZ σ τ) := by
  refine g_met (own := RX2) (by decide) rfl (Nat.le_of_ble_eq_true rfl) (fun p e s m below meth c ls Q E hr hlk h hl hQ => ?_)
  have hx := E.1
  have hb := E.2.1
  have hF : (F_X2_placeOf σ a1) = (F_X2_placeOf σ a1) := rfl
  have hl : lv_has ls 2 [(0, .ref (ad 26)), (1, .int a1)] := hl
  refine lv_iload_n hx hb dX2_placeOf_0 rfl (lv_at hl 1 rfl) ?_
  refine g_callSi (rest := []) E h (c_X2_isCaravan l D cI cZ z (gws ad cI cZ σ τ) a1) mw_335 cbX2_isCaravan ⟨by decide, by decide⟩ rfl rfl hl.1 (Nat.le_of_ble_eq_true rfl) ⟨by decide, by decide⟩ dX2_placeOf_1 (fun H locs h => ?_)
  refine lv_if_eq (tgt := 18) hx hb dX2_placeOf_4 (by decide) (fun c1 => ?_) (fun c1 => ?_)
  · have ic1 : (F_X2_isCaravan a1).toInt = 0 := i_eq c1
    have hF := (if_pos c1).symm.trans hF
    refine lv_bipush (v := (-9)) hx hb dX2_placeOf_18 (by decide) ?_
    exact g_iret E hr hlk h hQ hF rfl dX2_placeOf_20
  · have ic1 : (F_X2_isCaravan a1).toInt ≠ 0 := i_ne c1
    have jc1 := fz_isCaravan c1
    have hF := (if_neg c1).symm.trans hF
    refine lv_aload_n hx hb dX2_placeOf_7 rfl (lv_at hl 0 rfl) ?_
    refine g_get (v := .ref (ad 27)) E h 26 rfl rfl layX2 0 (by decide) rfl mw_61 rfl dX2_placeOf_8 ?_
    refine lv_iconst (v := 2) hx hb dX2_placeOf_11 (by decide) ?_
    refine lv_iload_n hx hb dX2_placeOf_12 rfl (lv_at hl 1 rfl) ?_
    refine lv_iadd hx hb dX2_placeOf_13 ?_
    refine g_iald (f := (σ.2.1 27)) E h 27 rfl (ix_of (oI_add (oI_lit (x := 2) (a := 2) rfl) (oI_at a1)) (by omega) (by decide)) dX2_placeOf_14 ?_
    refine lv_goto (tgt := 20) hx hb dX2_placeOf_15 (by decide) ?_
    exact g_iret E hr hlk h hQ hF rfl dX2_placeOf_20

def F_X2_cupsOf (σ : St) (a1 : Int32) : Int32 := (if (F_X2_isCaravan a1) = 0 then (0 : Int32) else ((σ.2.1 27) ((6 : Int32) + a1).toNatClampNeg))
set_option maxHeartbeats 4000000 in
set_option maxRecDepth 20000 in
theorem c_X2_cupsOf (l : Launch) (D : va_G) (cI cZ : ClassId) (z : Nat) (ad : Nat → Nat) (σ τ : St) (a1 : Int32) : gM l yX2_cupsOf cX2_cupsOf 2 (some .int) 2 D cI cZ z (gws ad cI cZ σ τ) [.ref (ad 26), .int a1] (some (.int (F_X2_cupsOf σ a1))) (gws ad cI cZ σ τ) := by
  refine g_met (own := RX2) (by decide) rfl (Nat.le_of_ble_eq_true rfl) (fun p e s m below meth c ls Q E hr hlk h hl hQ => ?_)
  have hx := E.1
  have hb := E.2.1
  have hF : (F_X2_cupsOf σ a1) = (F_X2_cupsOf σ a1) := rfl
  have hl : lv_has ls 2 [(0, .ref (ad 26)), (1, .int a1)] := hl
  refine lv_iload_n hx hb dX2_cupsOf_0 rfl (lv_at hl 1 rfl) ?_
  refine g_callSi (rest := []) E h (c_X2_isCaravan l D cI cZ z (gws ad cI cZ σ τ) a1) mw_335 cbX2_isCaravan ⟨by decide, by decide⟩ rfl rfl hl.1 (Nat.le_of_ble_eq_true rfl) ⟨by decide, by decide⟩ dX2_cupsOf_1 (fun H locs h => ?_)
  refine lv_if_eq (tgt := 19) hx hb dX2_cupsOf_4 (by decide) (fun c1 => ?_) (fun c1 => ?_)
  · have ic1 : (F_X2_isCaravan a1).toInt = 0 := i_eq c1
    have hF := (if_pos c1).symm.trans hF
    refine lv_iconst (v := 0) hx hb dX2_cupsOf_19 (by decide) ?_
    exact g_iret E hr hlk h hQ hF rfl dX2_cupsOf_20
  · have ic1 : (F_X2_isCaravan a1).toInt ≠ 0 := i_ne c1
    have jc1 := fz_isCaravan c1
    have hF := (if_neg c1).symm.trans hF
    refine lv_aload_n hx hb dX2_cupsOf_7 rfl (lv_at hl 0 rfl) ?_
    refine g_get (v := .ref (ad 27)) E h 26 rfl rfl layX2 0 (by decide) rfl mw_61 rfl dX2_cupsOf_8 ?_
    refine lv_bipush (v := 6) hx hb dX2_cupsOf_11 (by decide) ?_
    refine lv_iload_n hx hb dX2_cupsOf_13 rfl (lv_at hl 1 rfl) ?_
    refine lv_iadd hx hb dX2_cupsOf_14 ?_
    refine g_iald (f := (σ.2.1 27)) E h 27 rfl (ix_of (oI_add (oI_lit (x := 6) (a := 6) rfl) (oI_at a1)) (by omega) (by decide)) dX2_cupsOf_15 ?_
    refine lv_goto (tgt := 20) hx hb dX2_cupsOf_16 (by decide) ?_
    exact g_iret E hr hlk h hQ hF rfl dX2_cupsOf_20

def F_X2_dryOf (σ : St) (a1 : Int32) : Int32 := (if (F_X2_isCaravan a1) = 0 then (0 : Int32) else ((σ.2.1 27) ((10 : Int32) + a1).toNatClampNeg))
set_option maxHeartbeats 4000000 in
set_option maxRecDepth 20000 in
theorem c_X2_dryOf (l : Launch) (D : va_G) (cI cZ : ClassId) (z : Nat) (ad : Nat → Nat) (σ τ : St) (a1 : Int32) : gM l yX2_dryOf cX2_dryOf 2 (some .int) 2 D cI cZ z (gws ad cI cZ σ τ) [.ref (ad 26), .int a1] (some (.int (F_X2_dryOf σ a1))) (gws ad cI cZ σ τ) := by
  refine g_met (own := RX2) (by decide) rfl (Nat.le_of_ble_eq_true rfl) (fun p e s m below meth c ls Q E hr hlk h hl hQ => ?_)
  have hx := E.1
  have hb := E.2.1
  have hF : (F_X2_dryOf σ a1) = (F_X2_dryOf σ a1) := rfl
  have hl : lv_has ls 2 [(0, .ref (ad 26)), (1, .int a1)] := hl
  refine lv_iload_n hx hb dX2_dryOf_0 rfl (lv_at hl 1 rfl) ?_
  refine g_callSi (rest := []) E h (c_X2_isCaravan l D cI cZ z (gws ad cI cZ σ τ) a1) mw_335 cbX2_isCaravan ⟨by decide, by decide⟩ rfl rfl hl.1 (Nat.le_of_ble_eq_true rfl) ⟨by decide, by decide⟩ dX2_dryOf_1 (fun H locs h => ?_)
  refine lv_if_eq (tgt := 19) hx hb dX2_dryOf_4 (by decide) (fun c1 => ?_) (fun c1 => ?_)
  · have ic1 : (F_X2_isCaravan a1).toInt = 0 := i_eq c1
    have hF := (if_pos c1).symm.trans hF
    refine lv_iconst (v := 0) hx hb dX2_dryOf_19 (by decide) ?_
    exact g_iret E hr hlk h hQ hF rfl dX2_dryOf_20
  · have ic1 : (F_X2_isCaravan a1).toInt ≠ 0 := i_ne c1
    have jc1 := fz_isCaravan c1
    have hF := (if_neg c1).symm.trans hF
    refine lv_aload_n hx hb dX2_dryOf_7 rfl (lv_at hl 0 rfl) ?_
    refine g_get (v := .ref (ad 27)) E h 26 rfl rfl layX2 0 (by decide) rfl mw_61 rfl dX2_dryOf_8 ?_
    refine lv_bipush (v := 10) hx hb dX2_dryOf_11 (by decide) ?_
    refine lv_iload_n hx hb dX2_dryOf_13 rfl (lv_at hl 1 rfl) ?_
    refine lv_iadd hx hb dX2_dryOf_14 ?_
    refine g_iald (f := (σ.2.1 27)) E h 27 rfl (ix_of (oI_add (oI_lit (x := 10) (a := 10) rfl) (oI_at a1)) (by omega) (by decide)) dX2_dryOf_15 ?_
    refine lv_goto (tgt := 20) hx hb dX2_dryOf_16 (by decide) ?_
    exact g_iret E hr hlk h hQ hF rfl dX2_dryOf_20

def F_X2_knotsOf (σ : St) (a1 : Int32) (a2 : Int32) : Int32 := (if (F_X2_isCaravan a1) = 0 then (0 : Int32) else (if (F_X2_isWell a2) = 0 then (0 : Int32) else ((σ.2.1 27) (((14 : Int32) + (a1 * (6 : Int32))) + a2).toNatClampNeg)))
set_option maxHeartbeats 4000000 in
set_option maxRecDepth 20000 in
theorem c_X2_knotsOf (l : Launch) (D : va_G) (cI cZ : ClassId) (z : Nat) (ad : Nat → Nat) (σ τ : St) (a1 a2 : Int32) : gM l yX2_knotsOf cX2_knotsOf 3 (some .int) 2 D cI cZ z (gws ad cI cZ σ τ) [.ref (ad 26), .int a1, .int a2] (some (.int (F_X2_knotsOf σ a1 a2))) (gws ad cI cZ σ τ) := by
  refine g_met (own := RX2) (by decide) rfl (Nat.le_of_ble_eq_true rfl) (fun p e s m below meth c ls Q E hr hlk h hl hQ => ?_)
  have hx := E.1
  have hb := E.2.1
  have hF : (F_X2_knotsOf σ a1 a2) = (F_X2_knotsOf σ a1 a2) := rfl
  have hl : lv_has ls 3 [(0, .ref (ad 26)), (1, .int a1), (2, .int a2)] := hl
  refine lv_iload_n hx hb dX2_knotsOf_0 rfl (lv_at hl 1 rfl) ?_
  refine g_callSi (rest := []) E h (c_X2_isCaravan l D cI cZ z (gws ad cI cZ σ τ) a1) mw_335 cbX2_isCaravan ⟨by decide, by decide⟩ rfl rfl hl.1 (Nat.le_of_ble_eq_true rfl) ⟨by decide, by decide⟩ dX2_knotsOf_1 (fun H locs h => ?_)
  refine lv_if_eq (tgt := 31) hx hb dX2_knotsOf_4 (by decide) (fun c1 => ?_) (fun c1 => ?_)
  · have ic1 : (F_X2_isCaravan a1).toInt = 0 := i_eq c1
    have hF := (if_pos c1).symm.trans hF
    refine lv_iconst (v := 0) hx hb dX2_knotsOf_31 (by decide) ?_
    exact g_iret E hr hlk h hQ hF rfl dX2_knotsOf_32
  · have ic1 : (F_X2_isCaravan a1).toInt ≠ 0 := i_ne c1
    have jc1 := fz_isCaravan c1
    have hF := (if_neg c1).symm.trans hF
    refine lv_iload_n hx hb dX2_knotsOf_7 rfl (lv_at hl 2 rfl) ?_
    refine g_callSi (rest := []) E h (c_X2_isWell l D cI cZ z (gws ad cI cZ σ τ) a2) mw_354 cbX2_isWell ⟨by decide, by decide⟩ rfl rfl hl.1 (Nat.le_of_ble_eq_true rfl) ⟨by decide, by decide⟩ dX2_knotsOf_8 (fun H locs h => ?_)
    refine lv_if_eq (tgt := 31) hx hb dX2_knotsOf_11 (by decide) (fun c2 => ?_) (fun c2 => ?_)
    · have ic2 : (F_X2_isWell a2).toInt = 0 := i_eq c2
      have hF := (if_pos c2).symm.trans hF
      refine lv_iconst (v := 0) hx hb dX2_knotsOf_31 (by decide) ?_
      exact g_iret E hr hlk h hQ hF rfl dX2_knotsOf_32
    · have ic2 : (F_X2_isWell a2).toInt ≠ 0 := i_ne c2
      have jc2 := fz_isWell c2
      have hF := (if_neg c2).symm.trans hF
      refine lv_aload_n hx hb dX2_knotsOf_14 rfl (lv_at hl 0 rfl) ?_
      refine g_get (v := .ref (ad 27)) E h 26 rfl rfl layX2 0 (by decide) rfl mw_61 rfl dX2_knotsOf_15 ?_
      refine lv_bipush (v := 14) hx hb dX2_knotsOf_18 (by decide) ?_
      refine lv_iload_n hx hb dX2_knotsOf_20 rfl (lv_at hl 1 rfl) ?_
      refine lv_bipush (v := 6) hx hb dX2_knotsOf_21 (by decide) ?_
      refine lv_imul hx hb dX2_knotsOf_23 ?_
      refine lv_iadd hx hb dX2_knotsOf_24 ?_
      refine lv_iload_n hx hb dX2_knotsOf_25 rfl (lv_at hl 2 rfl) ?_
      refine lv_iadd hx hb dX2_knotsOf_26 ?_
      refine g_iald (f := (σ.2.1 27)) E h 27 rfl (ix_of (oI_add (oI_add (oI_lit (x := 14) (a := 14) rfl) (oI_mul (oI_at a1) (oI_lit (x := 6) (a := 6) rfl))) (oI_at a2)) (by omega) (by decide)) dX2_knotsOf_27 ?_
      refine lv_goto (tgt := 32) hx hb dX2_knotsOf_28 (by decide) ?_
      exact g_iret E hr hlk h hQ hF rfl dX2_knotsOf_32

def F_X2_duesOf (σ : St) (a1 : Int32) (a2 : Int32) : Int32 := (if (F_X2_isWell a1) = 0 then (0 : Int32) else (if (F_X2_isWell a2) = 0 then (0 : Int32) else ((σ.2.1 27) (((38 : Int32) + (a1 * (6 : Int32))) + a2).toNatClampNeg)))
set_option maxHeartbeats 4000000 in
set_option maxRecDepth 20000 in
theorem c_X2_duesOf (l : Launch) (D : va_G) (cI cZ : ClassId) (z : Nat) (ad : Nat → Nat) (σ τ : St) (a1 a2 : Int32) : gM l yX2_duesOf cX2_duesOf 3 (some .int) 2 D cI cZ z (gws ad cI cZ σ τ) [.ref (ad 26), .int a1, .int a2] (some (.int (F_X2_duesOf σ a1 a2))) (gws ad cI cZ σ τ) := by
  refine g_met (own := RX2) (by decide) rfl (Nat.le_of_ble_eq_true rfl) (fun p e s m below meth c ls Q E hr hlk h hl hQ => ?_)
  have hx := E.1
  have hb := E.2.1
  have hF : (F_X2_duesOf σ a1 a2) = (F_X2_duesOf σ a1 a2) := rfl
  have hl : lv_has ls 3 [(0, .ref (ad 26)), (1, .int a1), (2, .int a2)] := hl
  refine lv_iload_n hx hb dX2_duesOf_0 rfl (lv_at hl 1 rfl) ?_
  refine g_callSi (rest := []) E h (c_X2_isWell l D cI cZ z (gws ad cI cZ σ τ) a1) mw_354 cbX2_isWell ⟨by decide, by decide⟩ rfl rfl hl.1 (Nat.le_of_ble_eq_true rfl) ⟨by decide, by decide⟩ dX2_duesOf_1 (fun H locs h => ?_)
  refine lv_if_eq (tgt := 31) hx hb dX2_duesOf_4 (by decide) (fun c1 => ?_) (fun c1 => ?_)
  · have ic1 : (F_X2_isWell a1).toInt = 0 := i_eq c1
    have hF := (if_pos c1).symm.trans hF
    refine lv_iconst (v := 0) hx hb dX2_duesOf_31 (by decide) ?_
    exact g_iret E hr hlk h hQ hF rfl dX2_duesOf_32
  · have ic1 : (F_X2_isWell a1).toInt ≠ 0 := i_ne c1
    have jc1 := fz_isWell c1
    have hF := (if_neg c1).symm.trans hF
    refine lv_iload_n hx hb dX2_duesOf_7 rfl (lv_at hl 2 rfl) ?_
    refine g_callSi (rest := []) E h (c_X2_isWell l D cI cZ z (gws ad cI cZ σ τ) a2) mw_354 cbX2_isWell ⟨by decide, by decide⟩ rfl rfl hl.1 (Nat.le_of_ble_eq_true rfl) ⟨by decide, by decide⟩ dX2_duesOf_8 (fun H locs h => ?_)
    refine lv_if_eq (tgt := 31) hx hb dX2_duesOf_11 (by decide) (fun c2 => ?_) (fun c2 => ?_)
    · have ic2 : (F_X2_isWell a2).toInt = 0 := i_eq c2
      have hF := (if_pos c2).symm.trans hF
      refine lv_iconst (v := 0) hx hb dX2_duesOf_31 (by decide) ?_
      exact g_iret E hr hlk h hQ hF rfl dX2_duesOf_32
    · have ic2 : (F_X2_isWell a2).toInt ≠ 0 := i_ne c2
      have jc2 := fz_isWell c2
      have hF := (if_neg c2).symm.trans hF
      refine lv_aload_n hx hb dX2_duesOf_14 rfl (lv_at hl 0 rfl) ?_
      refine g_get (v := .ref (ad 27)) E h 26 rfl rfl layX2 0 (by decide) rfl mw_61 rfl dX2_duesOf_15 ?_
      refine lv_bipush (v := 38) hx hb dX2_duesOf_18 (by decide) ?_
      refine lv_iload_n hx hb dX2_duesOf_20 rfl (lv_at hl 1 rfl) ?_
      refine lv_bipush (v := 6) hx hb dX2_duesOf_21 (by decide) ?_
      refine lv_imul hx hb dX2_duesOf_23 ?_
      refine lv_iadd hx hb dX2_duesOf_24 ?_
      refine lv_iload_n hx hb dX2_duesOf_25 rfl (lv_at hl 2 rfl) ?_
      refine lv_iadd hx hb dX2_duesOf_26 ?_
      refine g_iald (f := (σ.2.1 27)) E h 27 rfl (ix_of (oI_add (oI_add (oI_lit (x := 38) (a := 38) rfl) (oI_mul (oI_at a1) (oI_lit (x := 6) (a := 6) rfl))) (oI_at a2)) (by omega) (by decide)) dX2_duesOf_27 ?_
      refine lv_goto (tgt := 32) hx hb dX2_duesOf_28 (by decide) ?_
      exact g_iret E hr hlk h hQ hF rfl dX2_duesOf_32

def F_X2_wakeD (σ : St) (a1 : Int32) : St := (if (F_X2_isCaravan a1) = 0 then σ else (sa σ 23 (upd (σ.2.1 23) (1 : Int32).toNatClampNeg (((σ.2.1 23) (1 : Int32).toNatClampNeg) ||| ((1 : Int32) <<< (a1 &&& 31))))))
set_option maxHeartbeats 4000000 in
set_option maxRecDepth 20000 in
theorem c_X2_wakeD (l : Launch) (D : va_G) (cI cZ : ClassId) (z : Nat) (ad : Nat → Nat) (σ τ : St) (a1 : Int32) : gM l yX2_wake cX2_wake 2 none 2 D cI cZ z (gws ad cI cZ σ τ) [.ref (ad 22), .int a1] none (gws ad cI cZ (F_X2_wakeD σ a1) τ) := by
  refine g_met (own := RX2) (by decide) rfl (Nat.le_of_ble_eq_true rfl) (fun p e s m below meth c ls Q E hr hlk h hl hQ => ?_)
  have hx := E.1
  have hb := E.2.1
  have hF : (F_X2_wakeD σ a1) = (F_X2_wakeD σ a1) := rfl
  have hl : lv_has ls 2 [(0, .ref (ad 22)), (1, .int a1)] := hl
  refine lv_iload_n hx hb dX2_wake_0 rfl (lv_at hl 1 rfl) ?_
  refine g_callSi (rest := []) E h (c_X2_isCaravan l D cI cZ z (gws ad cI cZ σ τ) a1) mw_335 cbX2_isCaravan ⟨by decide, by decide⟩ rfl rfl hl.1 (Nat.le_of_ble_eq_true rfl) ⟨by decide, by decide⟩ dX2_wake_1 (fun H locs h => ?_)
  refine lv_if_eq (tgt := 19) hx hb dX2_wake_4 (by decide) (fun c1 => ?_) (fun c1 => ?_)
  · have ic1 : (F_X2_isCaravan a1).toInt = 0 := i_eq c1
    have hF := (if_pos c1).symm.trans hF
    exact g_vret E hr hlk h hQ (congrArg (fun u => gws ad cI cZ u τ) hF) dX2_wake_19
  · have ic1 : (F_X2_isCaravan a1).toInt ≠ 0 := i_ne c1
    have jc1 := fz_isCaravan c1
    have hF := (if_neg c1).symm.trans hF
    refine lv_aload_n hx hb dX2_wake_7 rfl (lv_at hl 0 rfl) ?_
    refine g_get (v := .ref (ad 23)) E h 22 rfl rfl layX2 0 (by decide) rfl mw_61 rfl dX2_wake_8 ?_
    refine lv_iconst (v := 1) hx hb dX2_wake_11 (by decide) ?_
    refine lv_dup2_11 hx hb dX2_wake_12 rfl rfl ?_
    refine g_iald (f := (σ.2.1 23)) E h 23 rfl (ix_of (oI_lit (x := 1) (a := 1) rfl) (by omega) (by decide)) dX2_wake_13 ?_
    refine lv_iconst (v := 1) hx hb dX2_wake_14 (by decide) ?_
    refine lv_iload_n hx hb dX2_wake_15 rfl (lv_at hl 1 rfl) ?_
    refine lv_ishl hx hb dX2_wake_16 ?_
    refine lv_ior hx hb dX2_wake_17 ?_
    refine g_iast (f := (σ.2.1 23)) (ws' := gws ad cI cZ (sa σ 23 (upd (σ.2.1 23) (1 : Int32).toNatClampNeg (((σ.2.1 23) (1 : Int32).toNatClampNeg) ||| ((1 : Int32) <<< (a1 &&& 31))))) τ) E h 23 rfl (ix_of (oI_lit (x := 1) (a := 1) rfl) (by omega) (by decide)) rfl dX2_wake_18 (fun H locs h => ?_)
    exact g_vret E hr hlk h hQ (congrArg (fun u => gws ad cI cZ u τ) hF) dX2_wake_19

def F_X2_setPlaceD (σ : St) (a1 : Int32) (a2 : Int32) : St := (if (F_X2_isCaravan a1) = 0 then σ else (sa σ 23 (upd (σ.2.1 23) ((2 : Int32) + a1).toNatClampNeg a2)))
set_option maxHeartbeats 4000000 in
set_option maxRecDepth 20000 in
theorem c_X2_setPlaceD (l : Launch) (D : va_G) (cI cZ : ClassId) (z : Nat) (ad : Nat → Nat) (σ τ : St) (a1 a2 : Int32) : gM l yX2_setPlace cX2_setPlace 3 none 2 D cI cZ z (gws ad cI cZ σ τ) [.ref (ad 22), .int a1, .int a2] none (gws ad cI cZ (F_X2_setPlaceD σ a1 a2) τ) := by
  refine g_met (own := RX2) (by decide) rfl (Nat.le_of_ble_eq_true rfl) (fun p e s m below meth c ls Q E hr hlk h hl hQ => ?_)
  have hx := E.1
  have hb := E.2.1
  have hF : (F_X2_setPlaceD σ a1 a2) = (F_X2_setPlaceD σ a1 a2) := rfl
  have hl : lv_has ls 3 [(0, .ref (ad 22)), (1, .int a1), (2, .int a2)] := hl
  refine lv_iload_n hx hb dX2_setPlace_0 rfl (lv_at hl 1 rfl) ?_
  refine g_callSi (rest := []) E h (c_X2_isCaravan l D cI cZ z (gws ad cI cZ σ τ) a1) mw_335 cbX2_isCaravan ⟨by decide, by decide⟩ rfl rfl hl.1 (Nat.le_of_ble_eq_true rfl) ⟨by decide, by decide⟩ dX2_setPlace_1 (fun H locs h => ?_)
  refine lv_if_eq (tgt := 16) hx hb dX2_setPlace_4 (by decide) (fun c1 => ?_) (fun c1 => ?_)
  · have ic1 : (F_X2_isCaravan a1).toInt = 0 := i_eq c1
    have hF := (if_pos c1).symm.trans hF
    exact g_vret E hr hlk h hQ (congrArg (fun u => gws ad cI cZ u τ) hF) dX2_setPlace_16
  · have ic1 : (F_X2_isCaravan a1).toInt ≠ 0 := i_ne c1
    have jc1 := fz_isCaravan c1
    have hF := (if_neg c1).symm.trans hF
    refine lv_aload_n hx hb dX2_setPlace_7 rfl (lv_at hl 0 rfl) ?_
    refine g_get (v := .ref (ad 23)) E h 22 rfl rfl layX2 0 (by decide) rfl mw_61 rfl dX2_setPlace_8 ?_
    refine lv_iconst (v := 2) hx hb dX2_setPlace_11 (by decide) ?_
    refine lv_iload_n hx hb dX2_setPlace_12 rfl (lv_at hl 1 rfl) ?_
    refine lv_iadd hx hb dX2_setPlace_13 ?_
    refine lv_iload_n hx hb dX2_setPlace_14 rfl (lv_at hl 2 rfl) ?_
    refine g_iast (f := (σ.2.1 23)) (ws' := gws ad cI cZ (sa σ 23 (upd (σ.2.1 23) ((2 : Int32) + a1).toNatClampNeg a2)) τ) E h 23 rfl (ix_of (oI_add (oI_lit (x := 2) (a := 2) rfl) (oI_at a1)) (by omega) (by decide)) rfl dX2_setPlace_15 (fun H locs h => ?_)
    exact g_vret E hr hlk h hQ (congrArg (fun u => gws ad cI cZ u τ) hF) dX2_setPlace_16

def F_X2_setCupsD (σ : St) (a1 : Int32) (a2 : Int32) : St := (if (F_X2_isCaravan a1) = 0 then σ else (sa σ 23 (upd (σ.2.1 23) ((6 : Int32) + a1).toNatClampNeg a2)))
set_option maxHeartbeats 4000000 in
set_option maxRecDepth 20000 in
theorem c_X2_setCupsD (l : Launch) (D : va_G) (cI cZ : ClassId) (z : Nat) (ad : Nat → Nat) (σ τ : St) (a1 a2 : Int32) : gM l yX2_setCups cX2_setCups 3 none 2 D cI cZ z (gws ad cI cZ σ τ) [.ref (ad 22), .int a1, .int a2] none (gws ad cI cZ (F_X2_setCupsD σ a1 a2) τ) := by
  refine g_met (own := RX2) (by decide) rfl (Nat.le_of_ble_eq_true rfl) (fun p e s m below meth c ls Q E hr hlk h hl hQ => ?_)
  have hx := E.1
  have hb := E.2.1
  have hF : (F_X2_setCupsD σ a1 a2) = (F_X2_setCupsD σ a1 a2) := rfl
  have hl : lv_has ls 3 [(0, .ref (ad 22)), (1, .int a1), (2, .int a2)] := hl
  refine lv_iload_n hx hb dX2_setCups_0 rfl (lv_at hl 1 rfl) ?_
  refine g_callSi (rest := []) E h (c_X2_isCaravan l D cI cZ z (gws ad cI cZ σ τ) a1) mw_335 cbX2_isCaravan ⟨by decide, by decide⟩ rfl rfl hl.1 (Nat.le_of_ble_eq_true rfl) ⟨by decide, by decide⟩ dX2_setCups_1 (fun H locs h => ?_)
  refine lv_if_eq (tgt := 17) hx hb dX2_setCups_4 (by decide) (fun c1 => ?_) (fun c1 => ?_)
  · have ic1 : (F_X2_isCaravan a1).toInt = 0 := i_eq c1
    have hF := (if_pos c1).symm.trans hF
    exact g_vret E hr hlk h hQ (congrArg (fun u => gws ad cI cZ u τ) hF) dX2_setCups_17
  · have ic1 : (F_X2_isCaravan a1).toInt ≠ 0 := i_ne c1
    have jc1 := fz_isCaravan c1
    have hF := (if_neg c1).symm.trans hF
    refine lv_aload_n hx hb dX2_setCups_7 rfl (lv_at hl 0 rfl) ?_
    refine g_get (v := .ref (ad 23)) E h 22 rfl rfl layX2 0 (by decide) rfl mw_61 rfl dX2_setCups_8 ?_
    refine lv_bipush (v := 6) hx hb dX2_setCups_11 (by decide) ?_
    refine lv_iload_n hx hb dX2_setCups_13 rfl (lv_at hl 1 rfl) ?_
    refine lv_iadd hx hb dX2_setCups_14 ?_
    refine lv_iload_n hx hb dX2_setCups_15 rfl (lv_at hl 2 rfl) ?_
    refine g_iast (f := (σ.2.1 23)) (ws' := gws ad cI cZ (sa σ 23 (upd (σ.2.1 23) ((6 : Int32) + a1).toNatClampNeg a2)) τ) E h 23 rfl (ix_of (oI_add (oI_lit (x := 6) (a := 6) rfl) (oI_at a1)) (by omega) (by decide)) rfl dX2_setCups_16 (fun H locs h => ?_)
    exact g_vret E hr hlk h hQ (congrArg (fun u => gws ad cI cZ u τ) hF) dX2_setCups_17

def F_X2_setKnotsD (σ : St) (a1 : Int32) (a2 : Int32) (a3 : Int32) : St := (if (F_X2_isCaravan a1) = 0 then σ else (if (F_X2_isWell a2) = 0 then σ else (sa σ 23 (upd (σ.2.1 23) (((14 : Int32) + (a1 * (6 : Int32))) + a2).toNatClampNeg a3))))
set_option maxHeartbeats 4000000 in
set_option maxRecDepth 20000 in
theorem c_X2_setKnotsD (l : Launch) (D : va_G) (cI cZ : ClassId) (z : Nat) (ad : Nat → Nat) (σ τ : St) (a1 a2 a3 : Int32) : gM l yX2_setKnots cX2_setKnots 4 none 2 D cI cZ z (gws ad cI cZ σ τ) [.ref (ad 22), .int a1, .int a2, .int a3] none (gws ad cI cZ (F_X2_setKnotsD σ a1 a2 a3) τ) := by
  refine g_met (own := RX2) (by decide) rfl (Nat.le_of_ble_eq_true rfl) (fun p e s m below meth c ls Q E hr hlk h hl hQ => ?_)
  have hx := E.1
  have hb := E.2.1
  have hF : (F_X2_setKnotsD σ a1 a2 a3) = (F_X2_setKnotsD σ a1 a2 a3) := rfl
  have hl : lv_has ls 4 [(0, .ref (ad 22)), (1, .int a1), (2, .int a2), (3, .int a3)] := hl
  refine lv_iload_n hx hb dX2_setKnots_0 rfl (lv_at hl 1 rfl) ?_
  refine g_callSi (rest := []) E h (c_X2_isCaravan l D cI cZ z (gws ad cI cZ σ τ) a1) mw_335 cbX2_isCaravan ⟨by decide, by decide⟩ rfl rfl hl.1 (Nat.le_of_ble_eq_true rfl) ⟨by decide, by decide⟩ dX2_setKnots_1 (fun H locs h => ?_)
  refine lv_if_eq (tgt := 29) hx hb dX2_setKnots_4 (by decide) (fun c1 => ?_) (fun c1 => ?_)
  · have ic1 : (F_X2_isCaravan a1).toInt = 0 := i_eq c1
    have hF := (if_pos c1).symm.trans hF
    exact g_vret E hr hlk h hQ (congrArg (fun u => gws ad cI cZ u τ) hF) dX2_setKnots_29
  · have ic1 : (F_X2_isCaravan a1).toInt ≠ 0 := i_ne c1
    have jc1 := fz_isCaravan c1
    have hF := (if_neg c1).symm.trans hF
    refine lv_iload_n hx hb dX2_setKnots_7 rfl (lv_at hl 2 rfl) ?_
    refine g_callSi (rest := []) E h (c_X2_isWell l D cI cZ z (gws ad cI cZ σ τ) a2) mw_354 cbX2_isWell ⟨by decide, by decide⟩ rfl rfl hl.1 (Nat.le_of_ble_eq_true rfl) ⟨by decide, by decide⟩ dX2_setKnots_8 (fun H locs h => ?_)
    refine lv_if_eq (tgt := 29) hx hb dX2_setKnots_11 (by decide) (fun c2 => ?_) (fun c2 => ?_)
    · have ic2 : (F_X2_isWell a2).toInt = 0 := i_eq c2
      have hF := (if_pos c2).symm.trans hF
      exact g_vret E hr hlk h hQ (congrArg (fun u => gws ad cI cZ u τ) hF) dX2_setKnots_29
    · have ic2 : (F_X2_isWell a2).toInt ≠ 0 := i_ne c2
      have jc2 := fz_isWell c2
      have hF := (if_neg c2).symm.trans hF
      refine lv_aload_n hx hb dX2_setKnots_14 rfl (lv_at hl 0 rfl) ?_
      refine g_get (v := .ref (ad 23)) E h 22 rfl rfl layX2 0 (by decide) rfl mw_61 rfl dX2_setKnots_15 ?_
      refine lv_bipush (v := 14) hx hb dX2_setKnots_18 (by decide) ?_
      refine lv_iload_n hx hb dX2_setKnots_20 rfl (lv_at hl 1 rfl) ?_
      refine lv_bipush (v := 6) hx hb dX2_setKnots_21 (by decide) ?_
      refine lv_imul hx hb dX2_setKnots_23 ?_
      refine lv_iadd hx hb dX2_setKnots_24 ?_
      refine lv_iload_n hx hb dX2_setKnots_25 rfl (lv_at hl 2 rfl) ?_
      refine lv_iadd hx hb dX2_setKnots_26 ?_
      refine lv_iload_n hx hb dX2_setKnots_27 rfl (lv_at hl 3 rfl) ?_
      refine g_iast (f := (σ.2.1 23)) (ws' := gws ad cI cZ (sa σ 23 (upd (σ.2.1 23) (((14 : Int32) + (a1 * (6 : Int32))) + a2).toNatClampNeg a3)) τ) E h 23 rfl (ix_of (oI_add (oI_add (oI_lit (x := 14) (a := 14) rfl) (oI_mul (oI_at a1) (oI_lit (x := 6) (a := 6) rfl))) (oI_at a2)) (by omega) (by decide)) rfl dX2_setKnots_28 (fun H locs h => ?_)
      exact g_vret E hr hlk h hQ (congrArg (fun u => gws ad cI cZ u τ) hF) dX2_setKnots_29

def F_X2_setDuesD (σ : St) (a1 : Int32) (a2 : Int32) (a3 : Int32) : St := (if (F_X2_isWell a1) = 0 then σ else (if (F_X2_isWell a2) = 0 then σ else (sa σ 23 (upd (σ.2.1 23) (((38 : Int32) + (a1 * (6 : Int32))) + a2).toNatClampNeg a3))))
set_option maxHeartbeats 4000000 in
set_option maxRecDepth 20000 in
theorem c_X2_setDuesD (l : Launch) (D : va_G) (cI cZ : ClassId) (z : Nat) (ad : Nat → Nat) (σ τ : St) (a1 a2 a3 : Int32) : gM l yX2_setDues cX2_setDues 4 none 2 D cI cZ z (gws ad cI cZ σ τ) [.ref (ad 22), .int a1, .int a2, .int a3] none (gws ad cI cZ (F_X2_setDuesD σ a1 a2 a3) τ) := by
  refine g_met (own := RX2) (by decide) rfl (Nat.le_of_ble_eq_true rfl) (fun p e s m below meth c ls Q E hr hlk h hl hQ => ?_)
  have hx := E.1
  have hb := E.2.1
  have hF : (F_X2_setDuesD σ a1 a2 a3) = (F_X2_setDuesD σ a1 a2 a3) := rfl
  have hl : lv_has ls 4 [(0, .ref (ad 22)), (1, .int a1), (2, .int a2), (3, .int a3)] := hl
  refine lv_iload_n hx hb dX2_setDues_0 rfl (lv_at hl 1 rfl) ?_
  refine g_callSi (rest := []) E h (c_X2_isWell l D cI cZ z (gws ad cI cZ σ τ) a1) mw_354 cbX2_isWell ⟨by decide, by decide⟩ rfl rfl hl.1 (Nat.le_of_ble_eq_true rfl) ⟨by decide, by decide⟩ dX2_setDues_1 (fun H locs h => ?_)
  refine lv_if_eq (tgt := 29) hx hb dX2_setDues_4 (by decide) (fun c1 => ?_) (fun c1 => ?_)
  · have ic1 : (F_X2_isWell a1).toInt = 0 := i_eq c1
    have hF := (if_pos c1).symm.trans hF
    exact g_vret E hr hlk h hQ (congrArg (fun u => gws ad cI cZ u τ) hF) dX2_setDues_29
  · have ic1 : (F_X2_isWell a1).toInt ≠ 0 := i_ne c1
    have jc1 := fz_isWell c1
    have hF := (if_neg c1).symm.trans hF
    refine lv_iload_n hx hb dX2_setDues_7 rfl (lv_at hl 2 rfl) ?_
    refine g_callSi (rest := []) E h (c_X2_isWell l D cI cZ z (gws ad cI cZ σ τ) a2) mw_354 cbX2_isWell ⟨by decide, by decide⟩ rfl rfl hl.1 (Nat.le_of_ble_eq_true rfl) ⟨by decide, by decide⟩ dX2_setDues_8 (fun H locs h => ?_)
    refine lv_if_eq (tgt := 29) hx hb dX2_setDues_11 (by decide) (fun c2 => ?_) (fun c2 => ?_)
    · have ic2 : (F_X2_isWell a2).toInt = 0 := i_eq c2
      have hF := (if_pos c2).symm.trans hF
      exact g_vret E hr hlk h hQ (congrArg (fun u => gws ad cI cZ u τ) hF) dX2_setDues_29
    · have ic2 : (F_X2_isWell a2).toInt ≠ 0 := i_ne c2
      have jc2 := fz_isWell c2
      have hF := (if_neg c2).symm.trans hF
      refine lv_aload_n hx hb dX2_setDues_14 rfl (lv_at hl 0 rfl) ?_
      refine g_get (v := .ref (ad 23)) E h 22 rfl rfl layX2 0 (by decide) rfl mw_61 rfl dX2_setDues_15 ?_
      refine lv_bipush (v := 38) hx hb dX2_setDues_18 (by decide) ?_
      refine lv_iload_n hx hb dX2_setDues_20 rfl (lv_at hl 1 rfl) ?_
      refine lv_bipush (v := 6) hx hb dX2_setDues_21 (by decide) ?_
      refine lv_imul hx hb dX2_setDues_23 ?_
      refine lv_iadd hx hb dX2_setDues_24 ?_
      refine lv_iload_n hx hb dX2_setDues_25 rfl (lv_at hl 2 rfl) ?_
      refine lv_iadd hx hb dX2_setDues_26 ?_
      refine lv_iload_n hx hb dX2_setDues_27 rfl (lv_at hl 3 rfl) ?_
      refine g_iast (f := (σ.2.1 23)) (ws' := gws ad cI cZ (sa σ 23 (upd (σ.2.1 23) (((38 : Int32) + (a1 * (6 : Int32))) + a2).toNatClampNeg a3)) τ) E h 23 rfl (ix_of (oI_add (oI_add (oI_lit (x := 38) (a := 38) rfl) (oI_mul (oI_at a1) (oI_lit (x := 6) (a := 6) rfl))) (oI_at a2)) (by omega) (by decide)) rfl dX2_setDues_28 (fun H locs h => ?_)
      exact g_vret E hr hlk h hQ (congrArg (fun u => gws ad cI cZ u τ) hF) dX2_setDues_29

def F_X2_wake (σ : St) (a1 : Int32) : St := (if (F_X2_isCaravan a1) = 0 then σ else (sa σ 27 (upd (σ.2.1 27) (1 : Int32).toNatClampNeg (((σ.2.1 27) (1 : Int32).toNatClampNeg) ||| ((1 : Int32) <<< (a1 &&& 31))))))
set_option maxHeartbeats 4000000 in
set_option maxRecDepth 20000 in
theorem c_X2_wake (l : Launch) (D : va_G) (cI cZ : ClassId) (z : Nat) (ad : Nat → Nat) (σ τ : St) (a1 : Int32) : gM l yX2_wake cX2_wake 2 none 2 D cI cZ z (gws ad cI cZ σ τ) [.ref (ad 26), .int a1] none (gws ad cI cZ (F_X2_wake σ a1) τ) := by
  refine g_met (own := RX2) (by decide) rfl (Nat.le_of_ble_eq_true rfl) (fun p e s m below meth c ls Q E hr hlk h hl hQ => ?_)
  have hx := E.1
  have hb := E.2.1
  have hF : (F_X2_wake σ a1) = (F_X2_wake σ a1) := rfl
  have hl : lv_has ls 2 [(0, .ref (ad 26)), (1, .int a1)] := hl
  refine lv_iload_n hx hb dX2_wake_0 rfl (lv_at hl 1 rfl) ?_
  refine g_callSi (rest := []) E h (c_X2_isCaravan l D cI cZ z (gws ad cI cZ σ τ) a1) mw_335 cbX2_isCaravan ⟨by decide, by decide⟩ rfl rfl hl.1 (Nat.le_of_ble_eq_true rfl) ⟨by decide, by decide⟩ dX2_wake_1 (fun H locs h => ?_)
  refine lv_if_eq (tgt := 19) hx hb dX2_wake_4 (by decide) (fun c1 => ?_) (fun c1 => ?_)
  · have ic1 : (F_X2_isCaravan a1).toInt = 0 := i_eq c1
    have hF := (if_pos c1).symm.trans hF
    exact g_vret E hr hlk h hQ (congrArg (fun u => gws ad cI cZ u τ) hF) dX2_wake_19
  · have ic1 : (F_X2_isCaravan a1).toInt ≠ 0 := i_ne c1
    have jc1 := fz_isCaravan c1
    have hF := (if_neg c1).symm.trans hF
    refine lv_aload_n hx hb dX2_wake_7 rfl (lv_at hl 0 rfl) ?_
    refine g_get (v := .ref (ad 27)) E h 26 rfl rfl layX2 0 (by decide) rfl mw_61 rfl dX2_wake_8 ?_
    refine lv_iconst (v := 1) hx hb dX2_wake_11 (by decide) ?_
    refine lv_dup2_11 hx hb dX2_wake_12 rfl rfl ?_
    refine g_iald (f := (σ.2.1 27)) E h 27 rfl (ix_of (oI_lit (x := 1) (a := 1) rfl) (by omega) (by decide)) dX2_wake_13 ?_
    refine lv_iconst (v := 1) hx hb dX2_wake_14 (by decide) ?_
    refine lv_iload_n hx hb dX2_wake_15 rfl (lv_at hl 1 rfl) ?_
    refine lv_ishl hx hb dX2_wake_16 ?_
    refine lv_ior hx hb dX2_wake_17 ?_
    refine g_iast (f := (σ.2.1 27)) (ws' := gws ad cI cZ (sa σ 27 (upd (σ.2.1 27) (1 : Int32).toNatClampNeg (((σ.2.1 27) (1 : Int32).toNatClampNeg) ||| ((1 : Int32) <<< (a1 &&& 31))))) τ) E h 27 rfl (ix_of (oI_lit (x := 1) (a := 1) rfl) (by omega) (by decide)) rfl dX2_wake_18 (fun H locs h => ?_)
    exact g_vret E hr hlk h hQ (congrArg (fun u => gws ad cI cZ u τ) hF) dX2_wake_19

def F_X2_setPlace (σ : St) (a1 : Int32) (a2 : Int32) : St := (if (F_X2_isCaravan a1) = 0 then σ else (sa σ 27 (upd (σ.2.1 27) ((2 : Int32) + a1).toNatClampNeg a2)))
set_option maxHeartbeats 4000000 in
set_option maxRecDepth 20000 in
theorem c_X2_setPlace (l : Launch) (D : va_G) (cI cZ : ClassId) (z : Nat) (ad : Nat → Nat) (σ τ : St) (a1 a2 : Int32) : gM l yX2_setPlace cX2_setPlace 3 none 2 D cI cZ z (gws ad cI cZ σ τ) [.ref (ad 26), .int a1, .int a2] none (gws ad cI cZ (F_X2_setPlace σ a1 a2) τ) := by
  refine g_met (own := RX2) (by decide) rfl (Nat.le_of_ble_eq_true rfl) (fun p e s m below meth c ls Q E hr hlk h hl hQ => ?_)
  have hx := E.1
  have hb := E.2.1
  have hF : (F_X2_setPlace σ a1 a2) = (F_X2_setPlace σ a1 a2) := rfl
  have hl : lv_has ls 3 [(0, .ref (ad 26)), (1, .int a1), (2, .int a2)] := hl
  refine lv_iload_n hx hb dX2_setPlace_0 rfl (lv_at hl 1 rfl) ?_
  refine g_callSi (rest := []) E h (c_X2_isCaravan l D cI cZ z (gws ad cI cZ σ τ) a1) mw_335 cbX2_isCaravan ⟨by decide, by decide⟩ rfl rfl hl.1 (Nat.le_of_ble_eq_true rfl) ⟨by decide, by decide⟩ dX2_setPlace_1 (fun H locs h => ?_)
  refine lv_if_eq (tgt := 16) hx hb dX2_setPlace_4 (by decide) (fun c1 => ?_) (fun c1 => ?_)
  · have ic1 : (F_X2_isCaravan a1).toInt = 0 := i_eq c1
    have hF := (if_pos c1).symm.trans hF
    exact g_vret E hr hlk h hQ (congrArg (fun u => gws ad cI cZ u τ) hF) dX2_setPlace_16
  · have ic1 : (F_X2_isCaravan a1).toInt ≠ 0 := i_ne c1
    have jc1 := fz_isCaravan c1
    have hF := (if_neg c1).symm.trans hF
    refine lv_aload_n hx hb dX2_setPlace_7 rfl (lv_at hl 0 rfl) ?_
    refine g_get (v := .ref (ad 27)) E h 26 rfl rfl layX2 0 (by decide) rfl mw_61 rfl dX2_setPlace_8 ?_
    refine lv_iconst (v := 2) hx hb dX2_setPlace_11 (by decide) ?_
    refine lv_iload_n hx hb dX2_setPlace_12 rfl (lv_at hl 1 rfl) ?_
    refine lv_iadd hx hb dX2_setPlace_13 ?_
    refine lv_iload_n hx hb dX2_setPlace_14 rfl (lv_at hl 2 rfl) ?_
    refine g_iast (f := (σ.2.1 27)) (ws' := gws ad cI cZ (sa σ 27 (upd (σ.2.1 27) ((2 : Int32) + a1).toNatClampNeg a2)) τ) E h 27 rfl (ix_of (oI_add (oI_lit (x := 2) (a := 2) rfl) (oI_at a1)) (by omega) (by decide)) rfl dX2_setPlace_15 (fun H locs h => ?_)
    exact g_vret E hr hlk h hQ (congrArg (fun u => gws ad cI cZ u τ) hF) dX2_setPlace_16

def F_X2_setCups (σ : St) (a1 : Int32) (a2 : Int32) : St := (if (F_X2_isCaravan a1) = 0 then σ else (sa σ 27 (upd (σ.2.1 27) ((6 : Int32) + a1).toNatClampNeg a2)))
set_option maxHeartbeats 4000000 in
set_option maxRecDepth 20000 in
theorem c_X2_setCups (l : Launch) (D : va_G) (cI cZ : ClassId) (z : Nat) (ad : Nat → Nat) (σ τ : St) (a1 a2 : Int32) : gM l yX2_setCups cX2_setCups 3 none 2 D cI cZ z (gws ad cI cZ σ τ) [.ref (ad 26), .int a1, .int a2] none (gws ad cI cZ (F_X2_setCups σ a1 a2) τ) := by
  refine g_met (own := RX2) (by decide) rfl (Nat.le_of_ble_eq_true rfl) (fun p e s m below meth c ls Q E hr hlk h hl hQ => ?_)
  have hx := E.1
  have hb := E.2.1
  have hF : (F_X2_setCups σ a1 a2) = (F_X2_setCups σ a1 a2) := rfl
  have hl : lv_has ls 3 [(0, .ref (ad 26)), (1, .int a1), (2, .int a2)] := hl
  refine lv_iload_n hx hb dX2_setCups_0 rfl (lv_at hl 1 rfl) ?_
  refine g_callSi (rest := []) E h (c_X2_isCaravan l D cI cZ z (gws ad cI cZ σ τ) a1) mw_335 cbX2_isCaravan ⟨by decide, by decide⟩ rfl rfl hl.1 (Nat.le_of_ble_eq_true rfl) ⟨by decide, by decide⟩ dX2_setCups_1 (fun H locs h => ?_)
  refine lv_if_eq (tgt := 17) hx hb dX2_setCups_4 (by decide) (fun c1 => ?_) (fun c1 => ?_)
  · have ic1 : (F_X2_isCaravan a1).toInt = 0 := i_eq c1
    have hF := (if_pos c1).symm.trans hF
    exact g_vret E hr hlk h hQ (congrArg (fun u => gws ad cI cZ u τ) hF) dX2_setCups_17
  · have ic1 : (F_X2_isCaravan a1).toInt ≠ 0 := i_ne c1
    have jc1 := fz_isCaravan c1
    have hF := (if_neg c1).symm.trans hF
    refine lv_aload_n hx hb dX2_setCups_7 rfl (lv_at hl 0 rfl) ?_
    refine g_get (v := .ref (ad 27)) E h 26 rfl rfl layX2 0 (by decide) rfl mw_61 rfl dX2_setCups_8 ?_
    refine lv_bipush (v := 6) hx hb dX2_setCups_11 (by decide) ?_
    refine lv_iload_n hx hb dX2_setCups_13 rfl (lv_at hl 1 rfl) ?_
    refine lv_iadd hx hb dX2_setCups_14 ?_
    refine lv_iload_n hx hb dX2_setCups_15 rfl (lv_at hl 2 rfl) ?_
    refine g_iast (f := (σ.2.1 27)) (ws' := gws ad cI cZ (sa σ 27 (upd (σ.2.1 27) ((6 : Int32) + a1).toNatClampNeg a2)) τ) E h 27 rfl (ix_of (oI_add (oI_lit (x := 6) (a := 6) rfl) (oI_at a1)) (by omega) (by decide)) rfl dX2_setCups_16 (fun H locs h => ?_)
    exact g_vret E hr hlk h hQ (congrArg (fun u => gws ad cI cZ u τ) hF) dX2_setCups_17

def F_X2_setKnots (σ : St) (a1 : Int32) (a2 : Int32) (a3 : Int32) : St := (if (F_X2_isCaravan a1) = 0 then σ else (if (F_X2_isWell a2) = 0 then σ else (sa σ 27 (upd (σ.2.1 27) (((14 : Int32) + (a1 * (6 : Int32))) + a2).toNatClampNeg a3))))
set_option maxHeartbeats 4000000 in
set_option maxRecDepth 20000 in
theorem c_X2_setKnots (l : Launch) (D : va_G) (cI cZ : ClassId) (z : Nat) (ad : Nat → Nat) (σ τ : St) (a1 a2 a3 : Int32) : gM l yX2_setKnots cX2_setKnots 4 none 2 D cI cZ z (gws ad cI cZ σ τ) [.ref (ad 26), .int a1, .int a2, .int a3] none (gws ad cI cZ (F_X2_setKnots σ a1 a2 a3) τ) := by
  refine g_met (own := RX2) (by decide) rfl (Nat.le_of_ble_eq_true rfl) (fun p e s m below meth c ls Q E hr hlk h hl hQ => ?_)
  have hx := E.1
  have hb := E.2.1
  have hF : (F_X2_setKnots σ a1 a2 a3) = (F_X2_setKnots σ a1 a2 a3) := rfl
  have hl : lv_has ls 4 [(0, .ref (ad 26)), (1, .int a1), (2, .int a2), (3, .int a3)] := hl
  refine lv_iload_n hx hb dX2_setKnots_0 rfl (lv_at hl 1 rfl) ?_
  refine g_callSi (rest := []) E h (c_X2_isCaravan l D cI cZ z (gws ad cI cZ σ τ) a1) mw_335 cbX2_isCaravan ⟨by decide, by decide⟩ rfl rfl hl.1 (Nat.le_of_ble_eq_true rfl) ⟨by decide, by decide⟩ dX2_setKnots_1 (fun H locs h => ?_)
  refine lv_if_eq (tgt := 29) hx hb dX2_setKnots_4 (by decide) (fun c1 => ?_) (fun c1 => ?_)
  · have ic1 : (F_X2_isCaravan a1).toInt = 0 := i_eq c1
    have hF := (if_pos c1).symm.trans hF
    exact g_vret E hr hlk h hQ (congrArg (fun u => gws ad cI cZ u τ) hF) dX2_setKnots_29
  · have ic1 : (F_X2_isCaravan a1).toInt ≠ 0 := i_ne c1
    have jc1 := fz_isCaravan c1
    have hF := (if_neg c1).symm.trans hF
    refine lv_iload_n hx hb dX2_setKnots_7 rfl (lv_at hl 2 rfl) ?_
    refine g_callSi (rest := []) E h (c_X2_isWell l D cI cZ z (gws ad cI cZ σ τ) a2) mw_354 cbX2_isWell ⟨by decide, by decide⟩ rfl rfl hl.1 (Nat.le_of_ble_eq_true rfl) ⟨by decide, by decide⟩ dX2_setKnots_8 (fun H locs h => ?_)
    refine lv_if_eq (tgt := 29) hx hb dX2_setKnots_11 (by decide) (fun c2 => ?_) (fun c2 => ?_)
    · have ic2 : (F_X2_isWell a2).toInt = 0 := i_eq c2
      have hF := (if_pos c2).symm.trans hF
      exact g_vret E hr hlk h hQ (congrArg (fun u => gws ad cI cZ u τ) hF) dX2_setKnots_29
    · have ic2 : (F_X2_isWell a2).toInt ≠ 0 := i_ne c2
      have jc2 := fz_isWell c2
      have hF := (if_neg c2).symm.trans hF
      refine lv_aload_n hx hb dX2_setKnots_14 rfl (lv_at hl 0 rfl) ?_
      refine g_get (v := .ref (ad 27)) E h 26 rfl rfl layX2 0 (by decide) rfl mw_61 rfl dX2_setKnots_15 ?_
      refine lv_bipush (v := 14) hx hb dX2_setKnots_18 (by decide) ?_
      refine lv_iload_n hx hb dX2_setKnots_20 rfl (lv_at hl 1 rfl) ?_
      refine lv_bipush (v := 6) hx hb dX2_setKnots_21 (by decide) ?_
      refine lv_imul hx hb dX2_setKnots_23 ?_
      refine lv_iadd hx hb dX2_setKnots_24 ?_
      refine lv_iload_n hx hb dX2_setKnots_25 rfl (lv_at hl 2 rfl) ?_
      refine lv_iadd hx hb dX2_setKnots_26 ?_
      refine lv_iload_n hx hb dX2_setKnots_27 rfl (lv_at hl 3 rfl) ?_
      refine g_iast (f := (σ.2.1 27)) (ws' := gws ad cI cZ (sa σ 27 (upd (σ.2.1 27) (((14 : Int32) + (a1 * (6 : Int32))) + a2).toNatClampNeg a3)) τ) E h 27 rfl (ix_of (oI_add (oI_add (oI_lit (x := 14) (a := 14) rfl) (oI_mul (oI_at a1) (oI_lit (x := 6) (a := 6) rfl))) (oI_at a2)) (by omega) (by decide)) rfl dX2_setKnots_28 (fun H locs h => ?_)
      exact g_vret E hr hlk h hQ (congrArg (fun u => gws ad cI cZ u τ) hF) dX2_setKnots_29

def F_X2_setDues (σ : St) (a1 : Int32) (a2 : Int32) (a3 : Int32) : St := (if (F_X2_isWell a1) = 0 then σ else (if (F_X2_isWell a2) = 0 then σ else (sa σ 27 (upd (σ.2.1 27) (((38 : Int32) + (a1 * (6 : Int32))) + a2).toNatClampNeg a3))))
set_option maxHeartbeats 4000000 in
set_option maxRecDepth 20000 in
theorem c_X2_setDues (l : Launch) (D : va_G) (cI cZ : ClassId) (z : Nat) (ad : Nat → Nat) (σ τ : St) (a1 a2 a3 : Int32) : gM l yX2_setDues cX2_setDues 4 none 2 D cI cZ z (gws ad cI cZ σ τ) [.ref (ad 26), .int a1, .int a2, .int a3] none (gws ad cI cZ (F_X2_setDues σ a1 a2 a3) τ) := by
  refine g_met (own := RX2) (by decide) rfl (Nat.le_of_ble_eq_true rfl) (fun p e s m below meth c ls Q E hr hlk h hl hQ => ?_)
  have hx := E.1
  have hb := E.2.1
  have hF : (F_X2_setDues σ a1 a2 a3) = (F_X2_setDues σ a1 a2 a3) := rfl
  have hl : lv_has ls 4 [(0, .ref (ad 26)), (1, .int a1), (2, .int a2), (3, .int a3)] := hl
  refine lv_iload_n hx hb dX2_setDues_0 rfl (lv_at hl 1 rfl) ?_
  refine g_callSi (rest := []) E h (c_X2_isWell l D cI cZ z (gws ad cI cZ σ τ) a1) mw_354 cbX2_isWell ⟨by decide, by decide⟩ rfl rfl hl.1 (Nat.le_of_ble_eq_true rfl) ⟨by decide, by decide⟩ dX2_setDues_1 (fun H locs h => ?_)
  refine lv_if_eq (tgt := 29) hx hb dX2_setDues_4 (by decide) (fun c1 => ?_) (fun c1 => ?_)
  · have ic1 : (F_X2_isWell a1).toInt = 0 := i_eq c1
    have hF := (if_pos c1).symm.trans hF
    exact g_vret E hr hlk h hQ (congrArg (fun u => gws ad cI cZ u τ) hF) dX2_setDues_29
  · have ic1 : (F_X2_isWell a1).toInt ≠ 0 := i_ne c1
    have jc1 := fz_isWell c1
    have hF := (if_neg c1).symm.trans hF
    refine lv_iload_n hx hb dX2_setDues_7 rfl (lv_at hl 2 rfl) ?_
    refine g_callSi (rest := []) E h (c_X2_isWell l D cI cZ z (gws ad cI cZ σ τ) a2) mw_354 cbX2_isWell ⟨by decide, by decide⟩ rfl rfl hl.1 (Nat.le_of_ble_eq_true rfl) ⟨by decide, by decide⟩ dX2_setDues_8 (fun H locs h => ?_)
    refine lv_if_eq (tgt := 29) hx hb dX2_setDues_11 (by decide) (fun c2 => ?_) (fun c2 => ?_)
    · have ic2 : (F_X2_isWell a2).toInt = 0 := i_eq c2
      have hF := (if_pos c2).symm.trans hF
      exact g_vret E hr hlk h hQ (congrArg (fun u => gws ad cI cZ u τ) hF) dX2_setDues_29
    · have ic2 : (F_X2_isWell a2).toInt ≠ 0 := i_ne c2
      have jc2 := fz_isWell c2
      have hF := (if_neg c2).symm.trans hF
      refine lv_aload_n hx hb dX2_setDues_14 rfl (lv_at hl 0 rfl) ?_
      refine g_get (v := .ref (ad 27)) E h 26 rfl rfl layX2 0 (by decide) rfl mw_61 rfl dX2_setDues_15 ?_
      refine lv_bipush (v := 38) hx hb dX2_setDues_18 (by decide) ?_
      refine lv_iload_n hx hb dX2_setDues_20 rfl (lv_at hl 1 rfl) ?_
      refine lv_bipush (v := 6) hx hb dX2_setDues_21 (by decide) ?_
      refine lv_imul hx hb dX2_setDues_23 ?_
      refine lv_iadd hx hb dX2_setDues_24 ?_
      refine lv_iload_n hx hb dX2_setDues_25 rfl (lv_at hl 2 rfl) ?_
      refine lv_iadd hx hb dX2_setDues_26 ?_
      refine lv_iload_n hx hb dX2_setDues_27 rfl (lv_at hl 3 rfl) ?_
      refine g_iast (f := (σ.2.1 27)) (ws' := gws ad cI cZ (sa σ 27 (upd (σ.2.1 27) (((38 : Int32) + (a1 * (6 : Int32))) + a2).toNatClampNeg a3)) τ) E h 27 rfl (ix_of (oI_add (oI_add (oI_lit (x := 38) (a := 38) rfl) (oI_mul (oI_at a1) (oI_lit (x := 6) (a := 6) rfl))) (oI_at a2)) (by omega) (by decide)) rfl dX2_setDues_28 (fun H locs h => ?_)
      exact g_vret E hr hlk h hQ (congrArg (fun u => gws ad cI cZ u τ) hF) dX2_setDues_29

def F_X2_setDry (σ : St) (a1 : Int32) (a2 : Int32) : St := (if (F_X2_isCaravan a1) = 0 then σ else (sa σ 27 (upd (σ.2.1 27) ((10 : Int32) + a1).toNatClampNeg a2)))
set_option maxHeartbeats 4000000 in
set_option maxRecDepth 20000 in
theorem c_X2_setDry (l : Launch) (D : va_G) (cI cZ : ClassId) (z : Nat) (ad : Nat → Nat) (σ τ : St) (a1 a2 : Int32) : gM l yX2_setDry cX2_setDry 3 none 2 D cI cZ z (gws ad cI cZ σ τ) [.ref (ad 26), .int a1, .int a2] none (gws ad cI cZ (F_X2_setDry σ a1 a2) τ) := by
  refine g_met (own := RX2) (by decide) rfl (Nat.le_of_ble_eq_true rfl) (fun p e s m below meth c ls Q E hr hlk h hl hQ => ?_)
  have hx := E.1
  have hb := E.2.1
  have hF : (F_X2_setDry σ a1 a2) = (F_X2_setDry σ a1 a2) := rfl
  have hl : lv_has ls 3 [(0, .ref (ad 26)), (1, .int a1), (2, .int a2)] := hl
  refine lv_iload_n hx hb dX2_setDry_0 rfl (lv_at hl 1 rfl) ?_
  refine g_callSi (rest := []) E h (c_X2_isCaravan l D cI cZ z (gws ad cI cZ σ τ) a1) mw_335 cbX2_isCaravan ⟨by decide, by decide⟩ rfl rfl hl.1 (Nat.le_of_ble_eq_true rfl) ⟨by decide, by decide⟩ dX2_setDry_1 (fun H locs h => ?_)
  refine lv_if_eq (tgt := 17) hx hb dX2_setDry_4 (by decide) (fun c1 => ?_) (fun c1 => ?_)
  · have ic1 : (F_X2_isCaravan a1).toInt = 0 := i_eq c1
    have hF := (if_pos c1).symm.trans hF
    exact g_vret E hr hlk h hQ (congrArg (fun u => gws ad cI cZ u τ) hF) dX2_setDry_17
  · have ic1 : (F_X2_isCaravan a1).toInt ≠ 0 := i_ne c1
    have jc1 := fz_isCaravan c1
    have hF := (if_neg c1).symm.trans hF
    refine lv_aload_n hx hb dX2_setDry_7 rfl (lv_at hl 0 rfl) ?_
    refine g_get (v := .ref (ad 27)) E h 26 rfl rfl layX2 0 (by decide) rfl mw_61 rfl dX2_setDry_8 ?_
    refine lv_bipush (v := 10) hx hb dX2_setDry_11 (by decide) ?_
    refine lv_iload_n hx hb dX2_setDry_13 rfl (lv_at hl 1 rfl) ?_
    refine lv_iadd hx hb dX2_setDry_14 ?_
    refine lv_iload_n hx hb dX2_setDry_15 rfl (lv_at hl 2 rfl) ?_
    refine g_iast (f := (σ.2.1 27)) (ws' := gws ad cI cZ (sa σ 27 (upd (σ.2.1 27) ((10 : Int32) + a1).toNatClampNeg a2)) τ) E h 27 rfl (ix_of (oI_add (oI_lit (x := 10) (a := 10) rfl) (oI_at a1)) (by omega) (by decide)) rfl dX2_setDry_16 (fun H locs h => ?_)
    exact g_vret E hr hlk h hQ (congrArg (fun u => gws ad cI cZ u τ) hF) dX2_setDry_17

def F_X2_knotsOfCaravan_L4 : Nat → St → Int32 → Int32 → Int32 → Int32
  | 0, _, _, _, _ => 0
  | n + 1, σ, a1, x3_4, x2_4 => (if (6 : Int32) ≤ x3_4 then x2_4 else (F_X2_knotsOfCaravan_L4 n σ a1 (x3_4 + (1 : Int32)) (x2_4 + (F_X2_knotsOf σ a1 x3_4))))
def F_X2_knotsOfCaravan (σ : St) (a1 : Int32) : Int32 := (F_X2_knotsOfCaravan_L4 7 σ a1 (0 : Int32) (0 : Int32))
set_option maxHeartbeats 4000000 in
set_option maxRecDepth 20000 in
theorem c_X2_knotsOfCaravan (l : Launch) (D : va_G) (cI cZ : ClassId) (z : Nat) (ad : Nat → Nat) (σ τ : St) (a1 : Int32) : gM l yX2_knotsOfCaravan cX2_knotsOfCaravan 4 (some .int) 3 D cI cZ z (gws ad cI cZ σ τ) [.ref (ad 26), .int a1] (some (.int (F_X2_knotsOfCaravan σ a1))) (gws ad cI cZ σ τ) := by
  refine g_met (own := RX2) (by decide) rfl (Nat.le_of_ble_eq_true rfl) (fun p e s m below meth c ls Q E hr hlk h hl hQ => ?_)
  have hx := E.1
  have hb := E.2.1
  have hF : (F_X2_knotsOfCaravan σ a1) = (F_X2_knotsOfCaravan σ a1) := rfl
  have hl : lv_has ls 4 [(0, .ref (ad 26)), (1, .int a1)] := hl
  refine lv_iconst (v := 0) hx hb dX2_knotsOfCaravan_0 (by decide) ?_
  refine lv_istore_n (lv' := [(2, .int (0 : Int32)), (0, .ref (ad 26)), (1, .int a1)]) hx hb dX2_knotsOfCaravan_1 rfl hl (by decide) rfl (fun ls hl => ?_)
  refine lv_iconst (v := 0) hx hb dX2_knotsOfCaravan_2 (by decide) ?_
  refine lv_istore_n (lv' := [(3, .int (0 : Int32)), (2, .int (0 : Int32)), (0, .ref (ad 26)), (1, .int a1)]) hx hb dX2_knotsOfCaravan_3 rfl hl (by decide) rfl (fun ls hl => ?_)
  have L4 : ∀ (n : Nat) (x3_4 : Int32) (x2_4 : Int32) (H : Heap) (locs : List Loc) (ls : Array Slot), (0 ≤ x3_4.toInt ∧ x3_4.toInt ≤ 6 ∧ x3_4.toInt + n = 7) → F_X2_knotsOfCaravan_L4 n σ a1 x3_4 x2_4 = (F_X2_knotsOfCaravan σ a1) → gH D z s (gws ad cI cZ σ τ) H locs → lv_has ls 4 [(3, .int x3_4), (2, .int x2_4), (0, .ref (ad 26)), (1, .int a1)] → W p l e (rmH 3) s m ([.ref (ad 26), .int a1] : List Value).toArray below meth c H locs 0 0 Q (F0 m 4 ls []) := by
    clear hF h hl
    intro n
    induction n with
    | zero =>
      intro x3_4 x2_4 H locs ls hI
      exact absurd hI (by omega)
    | succ n ih4 =>
      intro x3_4 x2_4 H locs ls hI hF h hl
      refine lv_iload_n hx hb dX2_knotsOfCaravan_4 rfl (lv_at hl 0 rfl) ?_
      refine lv_bipush (v := 6) hx hb dX2_knotsOfCaravan_5 (by decide) ?_
      refine lv_icmp_ge (tgt := 25) hx hb dX2_knotsOfCaravan_7 (by decide) (fun c2 => ?_) (fun c2 => ?_)
      · have ic2 : 6 ≤ x3_4.toInt := i_le c2
        have hF := (if_pos c2).symm.trans hF
        refine lv_iload_n hx hb dX2_knotsOfCaravan_25 rfl (lv_at hl 1 rfl) ?_
        exact g_iret E hr hlk h hQ hF rfl dX2_knotsOfCaravan_26
      · have ic2 : x3_4.toInt < 6 := i_nle c2
        have hF := (if_neg c2).symm.trans hF
        refine lv_iload_n hx hb dX2_knotsOfCaravan_10 rfl (lv_at hl 1 rfl) ?_
        refine lv_aload_n hx hb dX2_knotsOfCaravan_11 rfl (lv_at hl 2 rfl) ?_
        refine lv_iload_n hx hb dX2_knotsOfCaravan_12 rfl (lv_at hl 3 rfl) ?_
        refine lv_iload_n hx hb dX2_knotsOfCaravan_13 rfl (lv_at hl 0 rfl) ?_
        refine g_callVi (rest := [.int x2_4]) E h (c_X2_knotsOf l D cI cZ z ad σ τ a1 x3_4) mw_449 cbX2_knotsOf 26 rfl rfl ⟨by decide, by decide⟩ rfl rfl hl.1 (Nat.le_of_ble_eq_true rfl) ⟨by decide, by decide⟩ dX2_knotsOfCaravan_14 (fun H locs h => ?_)
        refine lv_iadd hx hb dX2_knotsOfCaravan_17 ?_
        refine lv_istore_n (lv' := [(2, .int (x2_4 + (F_X2_knotsOf σ a1 x3_4))), (3, .int x3_4), (0, .ref (ad 26)), (1, .int a1)]) hx hb dX2_knotsOfCaravan_18 rfl hl (by decide) rfl (fun ls hl => ?_)
        refine lv_iinc (v := (x3_4 + (1 : Int32))) (lv' := [(3, .int (x3_4 + (1 : Int32))), (2, .int (x2_4 + (F_X2_knotsOf σ a1 x3_4))), (0, .ref (ad 26)), (1, .int a1)]) hx hb dX2_knotsOfCaravan_19 hl (k := 1) rfl rfl (by decide) rfl (fun ls hl => ?_)
        refine lv_goto (tgt := 4) hx hb dX2_knotsOfCaravan_22 (by decide) ?_
        have e4_3 : (x3_4 + (1 : Int32)).toInt = _ := ti_of (oI_add (oI_at x3_4) (oI_lit (x := 1) (a := 1) rfl)) (by omega)
        exact ih4 (x3_4 + (1 : Int32)) (x2_4 + (F_X2_knotsOf σ a1 x3_4)) _ _ ls (by omega) hF h (lv_sub hl [0, 1, 2, 3] rfl)
  have q4_3 : (0 : Int32).toInt = 0 := rfl
  have q4_2 : (0 : Int32).toInt = 0 := rfl
  exact L4 7 (0 : Int32) (0 : Int32) _ _ ls (by omega) hF h (lv_sub hl [0, 1, 2, 3] rfl)

def F_X2_knotsAtWell_L4 : Nat → St → Int32 → Int32 → Int32 → Int32
  | 0, _, _, _, _ => 0
  | n + 1, σ, a1, x3_4, x2_4 => (if (4 : Int32) ≤ x3_4 then x2_4 else (F_X2_knotsAtWell_L4 n σ a1 (x3_4 + (1 : Int32)) (x2_4 + (F_X2_knotsOf σ x3_4 a1))))
def F_X2_knotsAtWell (σ : St) (a1 : Int32) : Int32 := (F_X2_knotsAtWell_L4 5 σ a1 (0 : Int32) (0 : Int32))
set_option maxHeartbeats 4000000 in
set_option maxRecDepth 20000 in
theorem c_X2_knotsAtWell (l : Launch) (D : va_G) (cI cZ : ClassId) (z : Nat) (ad : Nat → Nat) (σ τ : St) (a1 : Int32) : gM l yX2_knotsAtWell cX2_knotsAtWell 4 (some .int) 3 D cI cZ z (gws ad cI cZ σ τ) [.ref (ad 26), .int a1] (some (.int (F_X2_knotsAtWell σ a1))) (gws ad cI cZ σ τ) := by
  refine g_met (own := RX2) (by decide) rfl (Nat.le_of_ble_eq_true rfl) (fun p e s m below meth c ls Q E hr hlk h hl hQ => ?_)
  have hx := E.1
  have hb := E.2.1
  have hF : (F_X2_knotsAtWell σ a1) = (F_X2_knotsAtWell σ a1) := rfl
  have hl : lv_has ls 4 [(0, .ref (ad 26)), (1, .int a1)] := hl
  refine lv_iconst (v := 0) hx hb dX2_knotsAtWell_0 (by decide) ?_
  refine lv_istore_n (lv' := [(2, .int (0 : Int32)), (0, .ref (ad 26)), (1, .int a1)]) hx hb dX2_knotsAtWell_1 rfl hl (by decide) rfl (fun ls hl => ?_)
  refine lv_iconst (v := 0) hx hb dX2_knotsAtWell_2 (by decide) ?_
  refine lv_istore_n (lv' := [(3, .int (0 : Int32)), (2, .int (0 : Int32)), (0, .ref (ad 26)), (1, .int a1)]) hx hb dX2_knotsAtWell_3 rfl hl (by decide) rfl (fun ls hl => ?_)
  have L4 : ∀ (n : Nat) (x3_4 : Int32) (x2_4 : Int32) (H : Heap) (locs : List Loc) (ls : Array Slot), (0 ≤ x3_4.toInt ∧ x3_4.toInt ≤ 4 ∧ x3_4.toInt + n = 5) → F_X2_knotsAtWell_L4 n σ a1 x3_4 x2_4 = (F_X2_knotsAtWell σ a1) → gH D z s (gws ad cI cZ σ τ) H locs → lv_has ls 4 [(3, .int x3_4), (2, .int x2_4), (0, .ref (ad 26)), (1, .int a1)] → W p l e (rmH 3) s m ([.ref (ad 26), .int a1] : List Value).toArray below meth c H locs 0 0 Q (F0 m 4 ls []) := by
    clear hF h hl
    intro n
    induction n with
    | zero =>
      intro x3_4 x2_4 H locs ls hI
      exact absurd hI (by omega)
    | succ n ih4 =>
      intro x3_4 x2_4 H locs ls hI hF h hl
      refine lv_iload_n hx hb dX2_knotsAtWell_4 rfl (lv_at hl 0 rfl) ?_
      refine lv_iconst (v := 4) hx hb dX2_knotsAtWell_5 (by decide) ?_
      refine lv_icmp_ge (tgt := 24) hx hb dX2_knotsAtWell_6 (by decide) (fun c2 => ?_) (fun c2 => ?_)
      · have ic2 : 4 ≤ x3_4.toInt := i_le c2
        have hF := (if_pos c2).symm.trans hF
        refine lv_iload_n hx hb dX2_knotsAtWell_24 rfl (lv_at hl 1 rfl) ?_
        exact g_iret E hr hlk h hQ hF rfl dX2_knotsAtWell_25
      · have ic2 : x3_4.toInt < 4 := i_nle c2
        have hF := (if_neg c2).symm.trans hF
        refine lv_iload_n hx hb dX2_knotsAtWell_9 rfl (lv_at hl 1 rfl) ?_
        refine lv_aload_n hx hb dX2_knotsAtWell_10 rfl (lv_at hl 2 rfl) ?_
        refine lv_iload_n hx hb dX2_knotsAtWell_11 rfl (lv_at hl 0 rfl) ?_
        refine lv_iload_n hx hb dX2_knotsAtWell_12 rfl (lv_at hl 3 rfl) ?_
        refine g_callVi (rest := [.int x2_4]) E h (c_X2_knotsOf l D cI cZ z ad σ τ x3_4 a1) mw_449 cbX2_knotsOf 26 rfl rfl ⟨by decide, by decide⟩ rfl rfl hl.1 (Nat.le_of_ble_eq_true rfl) ⟨by decide, by decide⟩ dX2_knotsAtWell_13 (fun H locs h => ?_)
        refine lv_iadd hx hb dX2_knotsAtWell_16 ?_
        refine lv_istore_n (lv' := [(2, .int (x2_4 + (F_X2_knotsOf σ x3_4 a1))), (3, .int x3_4), (0, .ref (ad 26)), (1, .int a1)]) hx hb dX2_knotsAtWell_17 rfl hl (by decide) rfl (fun ls hl => ?_)
        refine lv_iinc (v := (x3_4 + (1 : Int32))) (lv' := [(3, .int (x3_4 + (1 : Int32))), (2, .int (x2_4 + (F_X2_knotsOf σ x3_4 a1))), (0, .ref (ad 26)), (1, .int a1)]) hx hb dX2_knotsAtWell_18 hl (k := 1) rfl rfl (by decide) rfl (fun ls hl => ?_)
        refine lv_goto (tgt := 4) hx hb dX2_knotsAtWell_21 (by decide) ?_
        have e4_3 : (x3_4 + (1 : Int32)).toInt = _ := ti_of (oI_add (oI_at x3_4) (oI_lit (x := 1) (a := 1) rfl)) (by omega)
        exact ih4 (x3_4 + (1 : Int32)) (x2_4 + (F_X2_knotsOf σ x3_4 a1)) _ _ ls (by omega) hF h (lv_sub hl [0, 1, 2, 3] rfl)
  have q4_3 : (0 : Int32).toInt = 0 := rfl
  have q4_2 : (0 : Int32).toInt = 0 := rfl
  exact L4 5 (0 : Int32) (0 : Int32) _ _ ls (by omega) hF h (lv_sub hl [0, 1, 2, 3] rfl)

def F_X2_duesBy_L4 : Nat → St → Int32 → Int32 → Int32 → Int32
  | 0, _, _, _, _ => 0
  | n + 1, σ, a1, x3_4, x2_4 => (if (6 : Int32) ≤ x3_4 then x2_4 else (F_X2_duesBy_L4 n σ a1 (x3_4 + (1 : Int32)) (x2_4 + (F_X2_duesOf σ a1 x3_4))))
def F_X2_duesBy (σ : St) (a1 : Int32) : Int32 := (F_X2_duesBy_L4 7 σ a1 (0 : Int32) (0 : Int32))
set_option maxHeartbeats 4000000 in
set_option maxRecDepth 20000 in
theorem c_X2_duesBy (l : Launch) (D : va_G) (cI cZ : ClassId) (z : Nat) (ad : Nat → Nat) (σ τ : St) (a1 : Int32) : gM l yX2_duesBy cX2_duesBy 4 (some .int) 3 D cI cZ z (gws ad cI cZ σ τ) [.ref (ad 26), .int a1] (some (.int (F_X2_duesBy σ a1))) (gws ad cI cZ σ τ) := by
  refine g_met (own := RX2) (by decide) rfl (Nat.le_of_ble_eq_true rfl) (fun p e s m below meth c ls Q E hr hlk h hl hQ => ?_)
  have hx := E.1
  have hb := E.2.1
  have hF : (F_X2_duesBy σ a1) = (F_X2_duesBy σ a1) := rfl
  have hl : lv_has ls 4 [(0, .ref (ad 26)), (1, .int a1)] := hl
  refine lv_iconst (v := 0) hx hb dX2_duesBy_0 (by decide) ?_
  refine lv_istore_n (lv' := [(2, .int (0 : Int32)), (0, .ref (ad 26)), (1, .int a1)]) hx hb dX2_duesBy_1 rfl hl (by decide) rfl (fun ls hl => ?_)
  refine lv_iconst (v := 0) hx hb dX2_duesBy_2 (by decide) ?_
  refine lv_istore_n (lv' := [(3, .int (0 : Int32)), (2, .int (0 : Int32)), (0, .ref (ad 26)), (1, .int a1)]) hx hb dX2_duesBy_3 rfl hl (by decide) rfl (fun ls hl => ?_)
  have L4 : ∀ (n : Nat) (x3_4 : Int32) (x2_4 : Int32) (H : Heap) (locs : List Loc) (ls : Array Slot), (0 ≤ x3_4.toInt ∧ x3_4.toInt ≤ 6 ∧ x3_4.toInt + n = 7) → F_X2_duesBy_L4 n σ a1 x3_4 x2_4 = (F_X2_duesBy σ a1) → gH D z s (gws ad cI cZ σ τ) H locs → lv_has ls 4 [(3, .int x3_4), (2, .int x2_4), (0, .ref (ad 26)), (1, .int a1)] → W p l e (rmH 3) s m ([.ref (ad 26), .int a1] : List Value).toArray below meth c H locs 0 0 Q (F0 m 4 ls []) := by
    clear hF h hl
    intro n
    induction n with
    | zero =>
      intro x3_4 x2_4 H locs ls hI
      exact absurd hI (by omega)
    | succ n ih4 =>
      intro x3_4 x2_4 H locs ls hI hF h hl
      refine lv_iload_n hx hb dX2_duesBy_4 rfl (lv_at hl 0 rfl) ?_
      refine lv_bipush (v := 6) hx hb dX2_duesBy_5 (by decide) ?_
      refine lv_icmp_ge (tgt := 25) hx hb dX2_duesBy_7 (by decide) (fun c2 => ?_) (fun c2 => ?_)
      · have ic2 : 6 ≤ x3_4.toInt := i_le c2
        have hF := (if_pos c2).symm.trans hF
        refine lv_iload_n hx hb dX2_duesBy_25 rfl (lv_at hl 1 rfl) ?_
        exact g_iret E hr hlk h hQ hF rfl dX2_duesBy_26
      · have ic2 : x3_4.toInt < 6 := i_nle c2
        have hF := (if_neg c2).symm.trans hF
        refine lv_iload_n hx hb dX2_duesBy_10 rfl (lv_at hl 1 rfl) ?_
        refine lv_aload_n hx hb dX2_duesBy_11 rfl (lv_at hl 2 rfl) ?_
        refine lv_iload_n hx hb dX2_duesBy_12 rfl (lv_at hl 3 rfl) ?_
        refine lv_iload_n hx hb dX2_duesBy_13 rfl (lv_at hl 0 rfl) ?_
        refine g_callVi (rest := [.int x2_4]) E h (c_X2_duesOf l D cI cZ z ad σ τ a1 x3_4) mw_475 cbX2_duesOf 26 rfl rfl ⟨by decide, by decide⟩ rfl rfl hl.1 (Nat.le_of_ble_eq_true rfl) ⟨by decide, by decide⟩ dX2_duesBy_14 (fun H locs h => ?_)
        refine lv_iadd hx hb dX2_duesBy_17 ?_
        refine lv_istore_n (lv' := [(2, .int (x2_4 + (F_X2_duesOf σ a1 x3_4))), (3, .int x3_4), (0, .ref (ad 26)), (1, .int a1)]) hx hb dX2_duesBy_18 rfl hl (by decide) rfl (fun ls hl => ?_)
        refine lv_iinc (v := (x3_4 + (1 : Int32))) (lv' := [(3, .int (x3_4 + (1 : Int32))), (2, .int (x2_4 + (F_X2_duesOf σ a1 x3_4))), (0, .ref (ad 26)), (1, .int a1)]) hx hb dX2_duesBy_19 hl (k := 1) rfl rfl (by decide) rfl (fun ls hl => ?_)
        refine lv_goto (tgt := 4) hx hb dX2_duesBy_22 (by decide) ?_
        have e4_3 : (x3_4 + (1 : Int32)).toInt = _ := ti_of (oI_add (oI_at x3_4) (oI_lit (x := 1) (a := 1) rfl)) (by omega)
        exact ih4 (x3_4 + (1 : Int32)) (x2_4 + (F_X2_duesOf σ a1 x3_4)) _ _ ls (by omega) hF h (lv_sub hl [0, 1, 2, 3] rfl)
  have q4_3 : (0 : Int32).toInt = 0 := rfl
  have q4_2 : (0 : Int32).toInt = 0 := rfl
  exact L4 7 (0 : Int32) (0 : Int32) _ _ ls (by omega) hF h (lv_sub hl [0, 1, 2, 3] rfl)

def F_X2_duesTo_L4 : Nat → St → Int32 → Int32 → Int32 → Int32
  | 0, _, _, _, _ => 0
  | n + 1, σ, a1, x3_4, x2_4 => (if (6 : Int32) ≤ x3_4 then x2_4 else (F_X2_duesTo_L4 n σ a1 (x3_4 + (1 : Int32)) (x2_4 + (F_X2_duesOf σ x3_4 a1))))
def F_X2_duesTo (σ : St) (a1 : Int32) : Int32 := (F_X2_duesTo_L4 7 σ a1 (0 : Int32) (0 : Int32))
set_option maxHeartbeats 4000000 in
set_option maxRecDepth 20000 in
theorem c_X2_duesTo (l : Launch) (D : va_G) (cI cZ : ClassId) (z : Nat) (ad : Nat → Nat) (σ τ : St) (a1 : Int32) : gM l yX2_duesTo cX2_duesTo 4 (some .int) 3 D cI cZ z (gws ad cI cZ σ τ) [.ref (ad 26), .int a1] (some (.int (F_X2_duesTo σ a1))) (gws ad cI cZ σ τ) := by
  refine g_met (own := RX2) (by decide) rfl (Nat.le_of_ble_eq_true rfl) (fun p e s m below meth c ls Q E hr hlk h hl hQ => ?_)
  have hx := E.1
  have hb := E.2.1
  have hF : (F_X2_duesTo σ a1) = (F_X2_duesTo σ a1) := rfl
  have hl : lv_has ls 4 [(0, .ref (ad 26)), (1, .int a1)] := hl
  refine lv_iconst (v := 0) hx hb dX2_duesTo_0 (by decide) ?_
  refine lv_istore_n (lv' := [(2, .int (0 : Int32)), (0, .ref (ad 26)), (1, .int a1)]) hx hb dX2_duesTo_1 rfl hl (by decide) rfl (fun ls hl => ?_)
  refine lv_iconst (v := 0) hx hb dX2_duesTo_2 (by decide) ?_
  refine lv_istore_n (lv' := [(3, .int (0 : Int32)), (2, .int (0 : Int32)), (0, .ref (ad 26)), (1, .int a1)]) hx hb dX2_duesTo_3 rfl hl (by decide) rfl (fun ls hl => ?_)
  have L4 : ∀ (n : Nat) (x3_4 : Int32) (x2_4 : Int32) (H : Heap) (locs : List Loc) (ls : Array Slot), (0 ≤ x3_4.toInt ∧ x3_4.toInt ≤ 6 ∧ x3_4.toInt + n = 7) → F_X2_duesTo_L4 n σ a1 x3_4 x2_4 = (F_X2_duesTo σ a1) → gH D z s (gws ad cI cZ σ τ) H locs → lv_has ls 4 [(3, .int x3_4), (2, .int x2_4), (0, .ref (ad 26)), (1, .int a1)] → W p l e (rmH 3) s m ([.ref (ad 26), .int a1] : List Value).toArray below meth c H locs 0 0 Q (F0 m 4 ls []) := by
    clear hF h hl
    intro n
    induction n with
    | zero =>
      intro x3_4 x2_4 H locs ls hI
      exact absurd hI (by omega)
    | succ n ih4 =>
      intro x3_4 x2_4 H locs ls hI hF h hl
      refine lv_iload_n hx hb dX2_duesTo_4 rfl (lv_at hl 0 rfl) ?_
      refine lv_bipush (v := 6) hx hb dX2_duesTo_5 (by decide) ?_
      refine lv_icmp_ge (tgt := 25) hx hb dX2_duesTo_7 (by decide) (fun c2 => ?_) (fun c2 => ?_)
      · have ic2 : 6 ≤ x3_4.toInt := i_le c2
        have hF := (if_pos c2).symm.trans hF
        refine lv_iload_n hx hb dX2_duesTo_25 rfl (lv_at hl 1 rfl) ?_
        exact g_iret E hr hlk h hQ hF rfl dX2_duesTo_26
      · have ic2 : x3_4.toInt < 6 := i_nle c2
        have hF := (if_neg c2).symm.trans hF
        refine lv_iload_n hx hb dX2_duesTo_10 rfl (lv_at hl 1 rfl) ?_
        refine lv_aload_n hx hb dX2_duesTo_11 rfl (lv_at hl 2 rfl) ?_
        refine lv_iload_n hx hb dX2_duesTo_12 rfl (lv_at hl 0 rfl) ?_
        refine lv_iload_n hx hb dX2_duesTo_13 rfl (lv_at hl 3 rfl) ?_
        refine g_callVi (rest := [.int x2_4]) E h (c_X2_duesOf l D cI cZ z ad σ τ x3_4 a1) mw_475 cbX2_duesOf 26 rfl rfl ⟨by decide, by decide⟩ rfl rfl hl.1 (Nat.le_of_ble_eq_true rfl) ⟨by decide, by decide⟩ dX2_duesTo_14 (fun H locs h => ?_)
        refine lv_iadd hx hb dX2_duesTo_17 ?_
        refine lv_istore_n (lv' := [(2, .int (x2_4 + (F_X2_duesOf σ x3_4 a1))), (3, .int x3_4), (0, .ref (ad 26)), (1, .int a1)]) hx hb dX2_duesTo_18 rfl hl (by decide) rfl (fun ls hl => ?_)
        refine lv_iinc (v := (x3_4 + (1 : Int32))) (lv' := [(3, .int (x3_4 + (1 : Int32))), (2, .int (x2_4 + (F_X2_duesOf σ x3_4 a1))), (0, .ref (ad 26)), (1, .int a1)]) hx hb dX2_duesTo_19 hl (k := 1) rfl rfl (by decide) rfl (fun ls hl => ?_)
        refine lv_goto (tgt := 4) hx hb dX2_duesTo_22 (by decide) ?_
        have e4_3 : (x3_4 + (1 : Int32)).toInt = _ := ti_of (oI_add (oI_at x3_4) (oI_lit (x := 1) (a := 1) rfl)) (by omega)
        exact ih4 (x3_4 + (1 : Int32)) (x2_4 + (F_X2_duesOf σ x3_4 a1)) _ _ ls (by omega) hF h (lv_sub hl [0, 1, 2, 3] rfl)
  have q4_3 : (0 : Int32).toInt = 0 := rfl
  have q4_2 : (0 : Int32).toInt = 0 := rfl
  exact L4 7 (0 : Int32) (0 : Int32) _ _ ls (by omega) hF h (lv_sub hl [0, 1, 2, 3] rfl)

def F_X2_allKnots_L4 : Nat → St → Int32 → Int32 → Int32
  | 0, _, _, _ => 0
  | n + 1, σ, x2_4, x1_4 => (if (6 : Int32) ≤ x2_4 then x1_4 else (F_X2_allKnots_L4 n σ (x2_4 + (1 : Int32)) (x1_4 + (F_X2_knotsAtWell σ x2_4))))
def F_X2_allKnots (σ : St) : Int32 := (F_X2_allKnots_L4 7 σ (0 : Int32) (0 : Int32))
set_option maxHeartbeats 4000000 in
set_option maxRecDepth 20000 in
theorem c_X2_allKnots (l : Launch) (D : va_G) (cI cZ : ClassId) (z : Nat) (ad : Nat → Nat) (σ τ : St) : gM l yX2_allKnots cX2_allKnots 3 (some .int) 4 D cI cZ z (gws ad cI cZ σ τ) [.ref (ad 26)] (some (.int (F_X2_allKnots σ))) (gws ad cI cZ σ τ) := by
  refine g_met (own := RX2) (by decide) rfl (Nat.le_of_ble_eq_true rfl) (fun p e s m below meth c ls Q E hr hlk h hl hQ => ?_)
  have hx := E.1
  have hb := E.2.1
  have hF : (F_X2_allKnots σ) = (F_X2_allKnots σ) := rfl
  have hl : lv_has ls 3 [(0, .ref (ad 26))] := hl
  refine lv_iconst (v := 0) hx hb dX2_allKnots_0 (by decide) ?_
  refine lv_istore_n (lv' := [(1, .int (0 : Int32)), (0, .ref (ad 26))]) hx hb dX2_allKnots_1 rfl hl (by decide) rfl (fun ls hl => ?_)
  refine lv_iconst (v := 0) hx hb dX2_allKnots_2 (by decide) ?_
  refine lv_istore_n (lv' := [(2, .int (0 : Int32)), (1, .int (0 : Int32)), (0, .ref (ad 26))]) hx hb dX2_allKnots_3 rfl hl (by decide) rfl (fun ls hl => ?_)
  have L4 : ∀ (n : Nat) (x2_4 : Int32) (x1_4 : Int32) (H : Heap) (locs : List Loc) (ls : Array Slot), (0 ≤ x2_4.toInt ∧ x2_4.toInt ≤ 6 ∧ x2_4.toInt + n = 7) → F_X2_allKnots_L4 n σ x2_4 x1_4 = (F_X2_allKnots σ) → gH D z s (gws ad cI cZ σ τ) H locs → lv_has ls 3 [(2, .int x2_4), (1, .int x1_4), (0, .ref (ad 26))] → W p l e (rmH 4) s m ([.ref (ad 26)] : List Value).toArray below meth c H locs 0 0 Q (F0 m 4 ls []) := by
    clear hF h hl
    intro n
    induction n with
    | zero =>
      intro x2_4 x1_4 H locs ls hI
      exact absurd hI (by omega)
    | succ n ih4 =>
      intro x2_4 x1_4 H locs ls hI hF h hl
      refine lv_iload_n hx hb dX2_allKnots_4 rfl (lv_at hl 0 rfl) ?_
      refine lv_bipush (v := 6) hx hb dX2_allKnots_5 (by decide) ?_
      refine lv_icmp_ge (tgt := 24) hx hb dX2_allKnots_7 (by decide) (fun c2 => ?_) (fun c2 => ?_)
      · have ic2 : 6 ≤ x2_4.toInt := i_le c2
        have hF := (if_pos c2).symm.trans hF
        refine lv_iload_n hx hb dX2_allKnots_24 rfl (lv_at hl 1 rfl) ?_
        exact g_iret E hr hlk h hQ hF rfl dX2_allKnots_25
      · have ic2 : x2_4.toInt < 6 := i_nle c2
        have hF := (if_neg c2).symm.trans hF
        refine lv_iload_n hx hb dX2_allKnots_10 rfl (lv_at hl 1 rfl) ?_
        refine lv_aload_n hx hb dX2_allKnots_11 rfl (lv_at hl 2 rfl) ?_
        refine lv_iload_n hx hb dX2_allKnots_12 rfl (lv_at hl 0 rfl) ?_
        refine g_callVi (rest := [.int x1_4]) E h (c_X2_knotsAtWell l D cI cZ z ad σ τ x2_4) mw_612 cbX2_knotsAtWell 26 rfl rfl ⟨by decide, by decide⟩ rfl rfl hl.1 (Nat.le_of_ble_eq_true rfl) ⟨by decide, by decide⟩ dX2_allKnots_13 (fun H locs h => ?_)
        refine lv_iadd hx hb dX2_allKnots_16 ?_
        refine lv_istore_n (lv' := [(1, .int (x1_4 + (F_X2_knotsAtWell σ x2_4))), (2, .int x2_4), (0, .ref (ad 26))]) hx hb dX2_allKnots_17 rfl hl (by decide) rfl (fun ls hl => ?_)
        refine lv_iinc (v := (x2_4 + (1 : Int32))) (lv' := [(2, .int (x2_4 + (1 : Int32))), (1, .int (x1_4 + (F_X2_knotsAtWell σ x2_4))), (0, .ref (ad 26))]) hx hb dX2_allKnots_18 hl (k := 1) rfl rfl (by decide) rfl (fun ls hl => ?_)
        refine lv_goto (tgt := 4) hx hb dX2_allKnots_21 (by decide) ?_
        have e4_2 : (x2_4 + (1 : Int32)).toInt = _ := ti_of (oI_add (oI_at x2_4) (oI_lit (x := 1) (a := 1) rfl)) (by omega)
        exact ih4 (x2_4 + (1 : Int32)) (x1_4 + (F_X2_knotsAtWell σ x2_4)) _ _ ls (by omega) hF h (lv_sub hl [0, 1, 2] rfl)
  have q4_2 : (0 : Int32).toInt = 0 := rfl
  have q4_1 : (0 : Int32).toInt = 0 := rfl
  exact L4 7 (0 : Int32) (0 : Int32) _ _ ls (by omega) hF h (lv_sub hl [0, 1, 2] rfl)

def F_X2_allDues_L4 : Nat → St → Int32 → Int32 → Int32
  | 0, _, _, _ => 0
  | n + 1, σ, x2_4, x1_4 => (if (6 : Int32) ≤ x2_4 then x1_4 else (F_X2_allDues_L4 n σ (x2_4 + (1 : Int32)) (x1_4 + (F_X2_duesBy σ x2_4))))
def F_X2_allDues (σ : St) : Int32 := (F_X2_allDues_L4 7 σ (0 : Int32) (0 : Int32))
set_option maxHeartbeats 4000000 in
set_option maxRecDepth 20000 in
theorem c_X2_allDues (l : Launch) (D : va_G) (cI cZ : ClassId) (z : Nat) (ad : Nat → Nat) (σ τ : St) : gM l yX2_allDues cX2_allDues 3 (some .int) 4 D cI cZ z (gws ad cI cZ σ τ) [.ref (ad 26)] (some (.int (F_X2_allDues σ))) (gws ad cI cZ σ τ) := by
  refine g_met (own := RX2) (by decide) rfl (Nat.le_of_ble_eq_true rfl) (fun p e s m below meth c ls Q E hr hlk h hl hQ => ?_)
  have hx := E.1
  have hb := E.2.1
  have hF : (F_X2_allDues σ) = (F_X2_allDues σ) := rfl
  have hl : lv_has ls 3 [(0, .ref (ad 26))] := hl
  refine lv_iconst (v := 0) hx hb dX2_allDues_0 (by decide) ?_
  refine lv_istore_n (lv' := [(1, .int (0 : Int32)), (0, .ref (ad 26))]) hx hb dX2_allDues_1 rfl hl (by decide) rfl (fun ls hl => ?_)
  refine lv_iconst (v := 0) hx hb dX2_allDues_2 (by decide) ?_
  refine lv_istore_n (lv' := [(2, .int (0 : Int32)), (1, .int (0 : Int32)), (0, .ref (ad 26))]) hx hb dX2_allDues_3 rfl hl (by decide) rfl (fun ls hl => ?_)
  have L4 : ∀ (n : Nat) (x2_4 : Int32) (x1_4 : Int32) (H : Heap) (locs : List Loc) (ls : Array Slot), (0 ≤ x2_4.toInt ∧ x2_4.toInt ≤ 6 ∧ x2_4.toInt + n = 7) → F_X2_allDues_L4 n σ x2_4 x1_4 = (F_X2_allDues σ) → gH D z s (gws ad cI cZ σ τ) H locs → lv_has ls 3 [(2, .int x2_4), (1, .int x1_4), (0, .ref (ad 26))] → W p l e (rmH 4) s m ([.ref (ad 26)] : List Value).toArray below meth c H locs 0 0 Q (F0 m 4 ls []) := by
    clear hF h hl
    intro n
    induction n with
    | zero =>
      intro x2_4 x1_4 H locs ls hI
      exact absurd hI (by omega)
    | succ n ih4 =>
      intro x2_4 x1_4 H locs ls hI hF h hl
      refine lv_iload_n hx hb dX2_allDues_4 rfl (lv_at hl 0 rfl) ?_
      refine lv_bipush (v := 6) hx hb dX2_allDues_5 (by decide) ?_
      refine lv_icmp_ge (tgt := 24) hx hb dX2_allDues_7 (by decide) (fun c2 => ?_) (fun c2 => ?_)
      · have ic2 : 6 ≤ x2_4.toInt := i_le c2
        have hF := (if_pos c2).symm.trans hF
        refine lv_iload_n hx hb dX2_allDues_24 rfl (lv_at hl 1 rfl) ?_
        exact g_iret E hr hlk h hQ hF rfl dX2_allDues_25
      · have ic2 : x2_4.toInt < 6 := i_nle c2
        have hF := (if_neg c2).symm.trans hF
        refine lv_iload_n hx hb dX2_allDues_10 rfl (lv_at hl 1 rfl) ?_
        refine lv_aload_n hx hb dX2_allDues_11 rfl (lv_at hl 2 rfl) ?_
        refine lv_iload_n hx hb dX2_allDues_12 rfl (lv_at hl 0 rfl) ?_
        refine g_callVi (rest := [.int x1_4]) E h (c_X2_duesBy l D cI cZ z ad σ τ x2_4) mw_487 cbX2_duesBy 26 rfl rfl ⟨by decide, by decide⟩ rfl rfl hl.1 (Nat.le_of_ble_eq_true rfl) ⟨by decide, by decide⟩ dX2_allDues_13 (fun H locs h => ?_)
        refine lv_iadd hx hb dX2_allDues_16 ?_
        refine lv_istore_n (lv' := [(1, .int (x1_4 + (F_X2_duesBy σ x2_4))), (2, .int x2_4), (0, .ref (ad 26))]) hx hb dX2_allDues_17 rfl hl (by decide) rfl (fun ls hl => ?_)
        refine lv_iinc (v := (x2_4 + (1 : Int32))) (lv' := [(2, .int (x2_4 + (1 : Int32))), (1, .int (x1_4 + (F_X2_duesBy σ x2_4))), (0, .ref (ad 26))]) hx hb dX2_allDues_18 hl (k := 1) rfl rfl (by decide) rfl (fun ls hl => ?_)
        refine lv_goto (tgt := 4) hx hb dX2_allDues_21 (by decide) ?_
        have e4_2 : (x2_4 + (1 : Int32)).toInt = _ := ti_of (oI_add (oI_at x2_4) (oI_lit (x := 1) (a := 1) rfl)) (by omega)
        exact ih4 (x2_4 + (1 : Int32)) (x1_4 + (F_X2_duesBy σ x2_4)) _ _ ls (by omega) hF h (lv_sub hl [0, 1, 2] rfl)
  have q4_2 : (0 : Int32).toInt = 0 := rfl
  have q4_1 : (0 : Int32).toInt = 0 := rfl
  exact L4 7 (0 : Int32) (0 : Int32) _ _ ls (by omega) hF h (lv_sub hl [0, 1, 2] rfl)

def F_X2_netOf (σ : St) (a1 : Int32) : Int32 := ((F_X2_duesTo σ a1) - (F_X2_duesBy σ a1))
set_option maxHeartbeats 4000000 in
set_option maxRecDepth 20000 in
theorem c_X2_netOf (l : Launch) (D : va_G) (cI cZ : ClassId) (z : Nat) (ad : Nat → Nat) (σ τ : St) (a1 : Int32) : gM l yX2_netOf cX2_netOf 2 (some .int) 4 D cI cZ z (gws ad cI cZ σ τ) [.ref (ad 26), .int a1] (some (.int (F_X2_netOf σ a1))) (gws ad cI cZ σ τ) := by
  refine g_met (own := RX2) (by decide) rfl (Nat.le_of_ble_eq_true rfl) (fun p e s m below meth c ls Q E hr hlk h hl hQ => ?_)
  have hx := E.1
  have hb := E.2.1
  have hF : (F_X2_netOf σ a1) = (F_X2_netOf σ a1) := rfl
  have hl : lv_has ls 2 [(0, .ref (ad 26)), (1, .int a1)] := hl
  refine lv_aload_n hx hb dX2_netOf_0 rfl (lv_at hl 0 rfl) ?_
  refine lv_iload_n hx hb dX2_netOf_1 rfl (lv_at hl 1 rfl) ?_
  refine g_callVi (rest := []) E h (c_X2_duesTo l D cI cZ z ad σ τ a1) mw_483 cbX2_duesTo 26 rfl rfl ⟨by decide, by decide⟩ rfl rfl hl.1 (Nat.le_of_ble_eq_true rfl) ⟨by decide, by decide⟩ dX2_netOf_2 (fun H locs h => ?_)
  refine lv_aload_n hx hb dX2_netOf_5 rfl (lv_at hl 0 rfl) ?_
  refine lv_iload_n hx hb dX2_netOf_6 rfl (lv_at hl 1 rfl) ?_
  refine g_callVi (rest := [.int (F_X2_duesTo σ a1)]) E h (c_X2_duesBy l D cI cZ z ad σ τ a1) mw_487 cbX2_duesBy 26 rfl rfl ⟨by decide, by decide⟩ rfl rfl hl.1 (Nat.le_of_ble_eq_true rfl) ⟨by decide, by decide⟩ dX2_netOf_7 (fun H locs h => ?_)
  refine lv_isub hx hb dX2_netOf_10 ?_
  exact g_iret E hr hlk h hQ hF rfl dX2_netOf_11
end
