-- ===== PART A: goes FIRST, ahead of the names: the tables' words, and 'selects' of the private methods out of them =====
/-- a private method of a class that the tables say can be made, by its rows of tables_1 -/
def lw_okq (q : MethodName × Nat) : Prop := (q.1.cls ≠ "java/lang/invoke/MethodHandle" ∧ q.1.cls ≠ "java/lang/invoke/VarHandle") ∧ Cond.instantiable q.1.cls q.2 ∈ tables_1 ∧ Cond.privateMethod q.1 ∈ tables_1 ∧ Cond.instanceMethod q.1 ∈ tables_1
theorem lw_p0 : lw_okq (⟨"WhoseThread$Text", "step", "()V"⟩, 5) := ⟨⟨by decide +kernel, by decide +kernel⟩, List.mem_of_getElem? (i := 25) (by decide +kernel), List.mem_of_getElem? (i := 286) (by decide +kernel), List.mem_of_getElem? (i := 287) (by decide +kernel)⟩
theorem lw_p1 : lw_okq (⟨"WhoseThread$Text", "clauseStands", "(LWhoseThread$Telling;)Z"⟩, 5) := ⟨⟨by decide +kernel, by decide +kernel⟩, List.mem_of_getElem? (i := 25) (by decide +kernel), List.mem_of_getElem? (i := 293) (by decide +kernel), List.mem_of_getElem? (i := 294) (by decide +kernel)⟩
theorem lw_p2 : lw_okq (⟨"WhoseThread$Text", "word", "()I"⟩, 5) := ⟨⟨by decide +kernel, by decide +kernel⟩, List.mem_of_getElem? (i := 25) (by decide +kernel), List.mem_of_getElem? (i := 297) (by decide +kernel), List.mem_of_getElem? (i := 298) (by decide +kernel)⟩
theorem lw_p3 : lw_okq (⟨"WhoseThread$Text", "isWord", "(Ljava/lang/String;)Z"⟩, 5) := ⟨⟨by decide +kernel, by decide +kernel⟩, List.mem_of_getElem? (i := 25) (by decide +kernel), List.mem_of_getElem? (i := 302) (by decide +kernel), List.mem_of_getElem? (i := 303) (by decide +kernel)⟩
theorem lw_p4 : lw_okq (⟨"WhoseThread$Text", "overStands", "(LWhoseThread$Telling;)Z"⟩, 5) := ⟨⟨by decide +kernel, by decide +kernel⟩, List.mem_of_getElem? (i := 25) (by decide +kernel), List.mem_of_getElem? (i := 376) (by decide +kernel), List.mem_of_getElem? (i := 377) (by decide +kernel)⟩
theorem lw_p5 : lw_okq (⟨"WhoseThread$Text", "number", "(II)I"⟩, 5) := ⟨⟨by decide +kernel, by decide +kernel⟩, List.mem_of_getElem? (i := 25) (by decide +kernel), List.mem_of_getElem? (i := 380) (by decide +kernel), List.mem_of_getElem? (i := 381) (by decide +kernel)⟩
theorem lw_p6 : lw_okq (⟨"WhoseThread$Text", "knotStands", "(LWhoseThread$Telling;)Z"⟩, 5) := ⟨⟨by decide +kernel, by decide +kernel⟩, List.mem_of_getElem? (i := 25) (by decide +kernel), List.mem_of_getElem? (i := 397) (by decide +kernel), List.mem_of_getElem? (i := 398) (by decide +kernel)⟩
theorem lw_p7 : lw_okq (⟨"WhoseThread$Text", "orderStands", "(LWhoseThread$Telling;)Z"⟩, 5) := ⟨⟨by decide +kernel, by decide +kernel⟩, List.mem_of_getElem? (i := 25) (by decide +kernel), List.mem_of_getElem? (i := 401) (by decide +kernel), List.mem_of_getElem? (i := 402) (by decide +kernel)⟩
theorem lw_p8 : lw_okq (⟨"WhoseThread$Text", "threadStands", "(LWhoseThread$Telling;I)Z"⟩, 5) := ⟨⟨by decide +kernel, by decide +kernel⟩, List.mem_of_getElem? (i := 25) (by decide +kernel), List.mem_of_getElem? (i := 409) (by decide +kernel), List.mem_of_getElem? (i := 410) (by decide +kernel)⟩
theorem lw_p9 : lw_okq (⟨"WhoseThread", "known", "(I)Z"⟩, 10) := ⟨⟨by decide +kernel, by decide +kernel⟩, List.mem_of_getElem? (i := 17) (by decide +kernel), List.mem_of_getElem? (i := 435) (by decide +kernel), List.mem_of_getElem? (i := 436) (by decide +kernel)⟩
theorem lw_p10 : lw_okq (⟨"WhoseThread", "knownPair", "(II)Z"⟩, 10) := ⟨⟨by decide +kernel, by decide +kernel⟩, List.mem_of_getElem? (i := 17) (by decide +kernel), List.mem_of_getElem? (i := 527) (by decide +kernel), List.mem_of_getElem? (i := 528) (by decide +kernel)⟩
theorem lw_p11 : lw_okq (⟨"WhoseThread$Loom", "endDay", "()V"⟩, 9) := ⟨⟨by decide +kernel, by decide +kernel⟩, List.mem_of_getElem? (i := 106) (by decide +kernel), List.mem_of_getElem? (i := 560) (by decide +kernel), List.mem_of_getElem? (i := 561) (by decide +kernel)⟩
theorem lw_p12 : lw_okq (⟨"WhoseThread", "lossAt", "(I)I"⟩, 10) := ⟨⟨by decide +kernel, by decide +kernel⟩, List.mem_of_getElem? (i := 17) (by decide +kernel), List.mem_of_getElem? (i := 595) (by decide +kernel), List.mem_of_getElem? (i := 596) (by decide +kernel)⟩
theorem lw_p13 : lw_okq (⟨"WhoseThread$Dealing", "addDay", "(I)V"⟩, 7) := ⟨⟨by decide +kernel, by decide +kernel⟩, List.mem_of_getElem? (i := 174) (by decide +kernel), List.mem_of_getElem? (i := 616) (by decide +kernel), List.mem_of_getElem? (i := 617) (by decide +kernel)⟩
theorem lw_p14 : lw_okq (⟨"WhoseThread$Dealing", "dealFrom", "(IIIII)V"⟩, 7) := ⟨⟨by decide +kernel, by decide +kernel⟩, List.mem_of_getElem? (i := 174) (by decide +kernel), List.mem_of_getElem? (i := 621) (by decide +kernel), List.mem_of_getElem? (i := 622) (by decide +kernel)⟩
theorem lw_p15 : lw_okq (⟨"WhoseThread$Dealing", "take", "(I)V"⟩, 7) := ⟨⟨by decide +kernel, by decide +kernel⟩, List.mem_of_getElem? (i := 174) (by decide +kernel), List.mem_of_getElem? (i := 625) (by decide +kernel), List.mem_of_getElem? (i := 626) (by decide +kernel)⟩
def lw_privs_1 : List (MethodName × Nat) := [(⟨"WhoseThread$Text", "step", "()V"⟩, 5), (⟨"WhoseThread$Text", "clauseStands", "(LWhoseThread$Telling;)Z"⟩, 5), (⟨"WhoseThread$Text", "word", "()I"⟩, 5), (⟨"WhoseThread$Text", "isWord", "(Ljava/lang/String;)Z"⟩, 5), (⟨"WhoseThread$Text", "overStands", "(LWhoseThread$Telling;)Z"⟩, 5), (⟨"WhoseThread$Text", "number", "(II)I"⟩, 5), (⟨"WhoseThread$Text", "knotStands", "(LWhoseThread$Telling;)Z"⟩, 5), (⟨"WhoseThread$Text", "orderStands", "(LWhoseThread$Telling;)Z"⟩, 5), (⟨"WhoseThread$Text", "threadStands", "(LWhoseThread$Telling;I)Z"⟩, 5), (⟨"WhoseThread", "known", "(I)Z"⟩, 10), (⟨"WhoseThread", "knownPair", "(II)Z"⟩, 10), (⟨"WhoseThread$Loom", "endDay", "()V"⟩, 9), (⟨"WhoseThread", "lossAt", "(I)I"⟩, 10), (⟨"WhoseThread$Dealing", "addDay", "(I)V"⟩, 7), (⟨"WhoseThread$Dealing", "dealFrom", "(IIIII)V"⟩, 7), (⟨"WhoseThread$Dealing", "take", "(I)V"⟩, 7)]
theorem lw_r1 : ∀ q ∈ lw_privs_1, lw_okq q := List.forall_mem_cons.mpr ⟨lw_p0, List.forall_mem_cons.mpr ⟨lw_p1, List.forall_mem_cons.mpr ⟨lw_p2, List.forall_mem_cons.mpr ⟨lw_p3, List.forall_mem_cons.mpr ⟨lw_p4, List.forall_mem_cons.mpr ⟨lw_p5, List.forall_mem_cons.mpr ⟨lw_p6, List.forall_mem_cons.mpr ⟨lw_p7, List.forall_mem_cons.mpr ⟨lw_p8, List.forall_mem_cons.mpr ⟨lw_p9, List.forall_mem_cons.mpr ⟨lw_p10, List.forall_mem_cons.mpr ⟨lw_p11, List.forall_mem_cons.mpr ⟨lw_p12, List.forall_mem_cons.mpr ⟨lw_p13, List.forall_mem_cons.mpr ⟨lw_p14, List.forall_mem_cons.mpr ⟨lw_p15, fun _ h => absurd h List.not_mem_nil⟩⟩⟩⟩⟩⟩⟩⟩⟩⟩⟩⟩⟩⟩⟩⟩
theorem lw_p16 : lw_okq (⟨"WhoseThread$Dealing", "isAhead", "()Z"⟩, 7) := ⟨⟨by decide +kernel, by decide +kernel⟩, List.mem_of_getElem? (i := 174) (by decide +kernel), List.mem_of_getElem? (i := 629) (by decide +kernel), List.mem_of_getElem? (i := 630) (by decide +kernel)⟩
theorem lw_p17 : lw_okq (⟨"WhoseThread$Dealing", "dealTo", "(IIIII)V"⟩, 7) := ⟨⟨by decide +kernel, by decide +kernel⟩, List.mem_of_getElem? (i := 174) (by decide +kernel), List.mem_of_getElem? (i := 636) (by decide +kernel), List.mem_of_getElem? (i := 637) (by decide +kernel)⟩
theorem lw_p18 : lw_okq (⟨"WhoseThread$Tailing", "giveFrom", "(III)V"⟩, 5) := ⟨⟨by decide +kernel, by decide +kernel⟩, List.mem_of_getElem? (i := 204) (by decide +kernel), List.mem_of_getElem? (i := 650) (by decide +kernel), List.mem_of_getElem? (i := 651) (by decide +kernel)⟩
theorem lw_p19 : lw_okq (⟨"WhoseThread$Tailing", "take", "(I)V"⟩, 5) := ⟨⟨by decide +kernel, by decide +kernel⟩, List.mem_of_getElem? (i := 204) (by decide +kernel), List.mem_of_getElem? (i := 654) (by decide +kernel), List.mem_of_getElem? (i := 655) (by decide +kernel)⟩
theorem lw_p20 : lw_okq (⟨"WhoseThread$Tailing", "fits", "(II)Z"⟩, 5) := ⟨⟨by decide +kernel, by decide +kernel⟩, List.mem_of_getElem? (i := 204) (by decide +kernel), List.mem_of_getElem? (i := 661) (by decide +kernel), List.mem_of_getElem? (i := 662) (by decide +kernel)⟩
theorem lw_p21 : lw_okq (⟨"WhoseThread$Tailing", "giveTo", "(IIII)V"⟩, 5) := ⟨⟨by decide +kernel, by decide +kernel⟩, List.mem_of_getElem? (i := 204) (by decide +kernel), List.mem_of_getElem? (i := 665) (by decide +kernel), List.mem_of_getElem? (i := 666) (by decide +kernel)⟩
theorem lw_p22 : lw_okq (⟨"WhoseThreadModel", "readText", "()Z"⟩, 33) := ⟨⟨by decide +kernel, by decide +kernel⟩, List.mem_of_getElem? (i := 708) (by decide +kernel), List.mem_of_getElem? (i := 831) (by decide +kernel), List.mem_of_getElem? (i := 832) (by decide +kernel)⟩
theorem lw_p23 : lw_okq (⟨"WhoseThreadModel", "nextToken", "()V"⟩, 33) := ⟨⟨by decide +kernel, by decide +kernel⟩, List.mem_of_getElem? (i := 708) (by decide +kernel), List.mem_of_getElem? (i := 835) (by decide +kernel), List.mem_of_getElem? (i := 836) (by decide +kernel)⟩
theorem lw_p24 : lw_okq (⟨"WhoseThreadModel", "letterAt", "(I)I"⟩, 33) := ⟨⟨by decide +kernel, by decide +kernel⟩, List.mem_of_getElem? (i := 708) (by decide +kernel), List.mem_of_getElem? (i := 839) (by decide +kernel), List.mem_of_getElem? (i := 840) (by decide +kernel)⟩
theorem lw_p25 : lw_okq (⟨"WhoseThreadModel", "readClause", "()Z"⟩, 33) := ⟨⟨by decide +kernel, by decide +kernel⟩, List.mem_of_getElem? (i := 708) (by decide +kernel), List.mem_of_getElem? (i := 847) (by decide +kernel), List.mem_of_getElem? (i := 848) (by decide +kernel)⟩
theorem lw_p26 : lw_okq (⟨"WhoseThreadModel", "verb", "()I"⟩, 33) := ⟨⟨by decide +kernel, by decide +kernel⟩, List.mem_of_getElem? (i := 708) (by decide +kernel), List.mem_of_getElem? (i := 851) (by decide +kernel), List.mem_of_getElem? (i := 852) (by decide +kernel)⟩
theorem lw_p27 : lw_okq (⟨"WhoseThreadModel", "wordOf", "()J"⟩, 33) := ⟨⟨by decide +kernel, by decide +kernel⟩, List.mem_of_getElem? (i := 708) (by decide +kernel), List.mem_of_getElem? (i := 855) (by decide +kernel), List.mem_of_getElem? (i := 856) (by decide +kernel)⟩
theorem lw_p28 : lw_okq (⟨"WhoseThreadModel", "readThread", "(I)Z"⟩, 33) := ⟨⟨by decide +kernel, by decide +kernel⟩, List.mem_of_getElem? (i := 708) (by decide +kernel), List.mem_of_getElem? (i := 863) (by decide +kernel), List.mem_of_getElem? (i := 864) (by decide +kernel)⟩
theorem lw_p29 : lw_okq (⟨"WhoseThreadModel", "number", "(II)I"⟩, 33) := ⟨⟨by decide +kernel, by decide +kernel⟩, List.mem_of_getElem? (i := 708) (by decide +kernel), List.mem_of_getElem? (i := 867) (by decide +kernel), List.mem_of_getElem? (i := 868) (by decide +kernel)⟩
theorem lw_p30 : lw_okq (⟨"WhoseThreadModel", "readTwo", "(I)Z"⟩, 33) := ⟨⟨by decide +kernel, by decide +kernel⟩, List.mem_of_getElem? (i := 708) (by decide +kernel), List.mem_of_getElem? (i := 871) (by decide +kernel), List.mem_of_getElem? (i := 872) (by decide +kernel)⟩
theorem lw_p31 : lw_okq (⟨"WhoseThreadModel", "isThread", "(I)Z"⟩, 33) := ⟨⟨by decide +kernel, by decide +kernel⟩, List.mem_of_getElem? (i := 708) (by decide +kernel), List.mem_of_getElem? (i := 889) (by decide +kernel), List.mem_of_getElem? (i := 890) (by decide +kernel)⟩
def lw_privs_2 : List (MethodName × Nat) := [(⟨"WhoseThread$Dealing", "isAhead", "()Z"⟩, 7), (⟨"WhoseThread$Dealing", "dealTo", "(IIIII)V"⟩, 7), (⟨"WhoseThread$Tailing", "giveFrom", "(III)V"⟩, 5), (⟨"WhoseThread$Tailing", "take", "(I)V"⟩, 5), (⟨"WhoseThread$Tailing", "fits", "(II)Z"⟩, 5), (⟨"WhoseThread$Tailing", "giveTo", "(IIII)V"⟩, 5), (⟨"WhoseThreadModel", "readText", "()Z"⟩, 33), (⟨"WhoseThreadModel", "nextToken", "()V"⟩, 33), (⟨"WhoseThreadModel", "letterAt", "(I)I"⟩, 33), (⟨"WhoseThreadModel", "readClause", "()Z"⟩, 33), (⟨"WhoseThreadModel", "verb", "()I"⟩, 33), (⟨"WhoseThreadModel", "wordOf", "()J"⟩, 33), (⟨"WhoseThreadModel", "readThread", "(I)Z"⟩, 33), (⟨"WhoseThreadModel", "number", "(II)I"⟩, 33), (⟨"WhoseThreadModel", "readTwo", "(I)Z"⟩, 33), (⟨"WhoseThreadModel", "isThread", "(I)Z"⟩, 33)]
theorem lw_r2 : ∀ q ∈ lw_privs_2, lw_okq q := List.forall_mem_cons.mpr ⟨lw_p16, List.forall_mem_cons.mpr ⟨lw_p17, List.forall_mem_cons.mpr ⟨lw_p18, List.forall_mem_cons.mpr ⟨lw_p19, List.forall_mem_cons.mpr ⟨lw_p20, List.forall_mem_cons.mpr ⟨lw_p21, List.forall_mem_cons.mpr ⟨lw_p22, List.forall_mem_cons.mpr ⟨lw_p23, List.forall_mem_cons.mpr ⟨lw_p24, List.forall_mem_cons.mpr ⟨lw_p25, List.forall_mem_cons.mpr ⟨lw_p26, List.forall_mem_cons.mpr ⟨lw_p27, List.forall_mem_cons.mpr ⟨lw_p28, List.forall_mem_cons.mpr ⟨lw_p29, List.forall_mem_cons.mpr ⟨lw_p30, List.forall_mem_cons.mpr ⟨lw_p31, fun _ h => absurd h List.not_mem_nil⟩⟩⟩⟩⟩⟩⟩⟩⟩⟩⟩⟩⟩⟩⟩⟩
theorem lw_p32 : lw_okq (⟨"WhoseThreadModel", "yearsOf", "(I)I"⟩, 33) := ⟨⟨by decide +kernel, by decide +kernel⟩, List.mem_of_getElem? (i := 708) (by decide +kernel), List.mem_of_getElem? (i := 898) (by decide +kernel), List.mem_of_getElem? (i := 899) (by decide +kernel)⟩
theorem lw_p33 : lw_okq (⟨"WhoseThreadModel", "isWhole", "(I)Z"⟩, 33) := ⟨⟨by decide +kernel, by decide +kernel⟩, List.mem_of_getElem? (i := 708) (by decide +kernel), List.mem_of_getElem? (i := 902) (by decide +kernel), List.mem_of_getElem? (i := 903) (by decide +kernel)⟩
theorem lw_p34 : lw_okq (⟨"WhoseThreadModel", "topOf", "(I)I"⟩, 33) := ⟨⟨by decide +kernel, by decide +kernel⟩, List.mem_of_getElem? (i := 708) (by decide +kernel), List.mem_of_getElem? (i := 914) (by decide +kernel), List.mem_of_getElem? (i := 915) (by decide +kernel)⟩
theorem lw_p35 : lw_okq (⟨"WhoseThreadModel", "wholes", "()I"⟩, 33) := ⟨⟨by decide +kernel, by decide +kernel⟩, List.mem_of_getElem? (i := 708) (by decide +kernel), List.mem_of_getElem? (i := 918) (by decide +kernel), List.mem_of_getElem? (i := 919) (by decide +kernel)⟩
theorem lw_p36 : lw_okq (⟨"WhoseThreadModel", "note", "()V"⟩, 33) := ⟨⟨by decide +kernel, by decide +kernel⟩, List.mem_of_getElem? (i := 708) (by decide +kernel), List.mem_of_getElem? (i := 926) (by decide +kernel), List.mem_of_getElem? (i := 927) (by decide +kernel)⟩
theorem lw_p37 : lw_okq (⟨"WhoseThreadModel", "cutNow", "(I)I"⟩, 33) := ⟨⟨by decide +kernel, by decide +kernel⟩, List.mem_of_getElem? (i := 708) (by decide +kernel), List.mem_of_getElem? (i := 930) (by decide +kernel), List.mem_of_getElem? (i := 931) (by decide +kernel)⟩
theorem lw_p38 : lw_okq (⟨"WhoseThreadModel", "fallsOn", "(I)I"⟩, 33) := ⟨⟨by decide +kernel, by decide +kernel⟩, List.mem_of_getElem? (i := 708) (by decide +kernel), List.mem_of_getElem? (i := 934) (by decide +kernel), List.mem_of_getElem? (i := 935) (by decide +kernel)⟩
theorem lw_p39 : lw_okq (⟨"WhoseThreadModel", "lossOf", "(I)I"⟩, 33) := ⟨⟨by decide +kernel, by decide +kernel⟩, List.mem_of_getElem? (i := 708) (by decide +kernel), List.mem_of_getElem? (i := 938) (by decide +kernel), List.mem_of_getElem? (i := 939) (by decide +kernel)⟩
theorem lw_p40 : lw_okq (⟨"WhoseThreadModel", "areTwo", "(II)Z"⟩, 33) := ⟨⟨by decide +kernel, by decide +kernel⟩, List.mem_of_getElem? (i := 708) (by decide +kernel), List.mem_of_getElem? (i := 949) (by decide +kernel), List.mem_of_getElem? (i := 950) (by decide +kernel)⟩
theorem lw_p41 : lw_okq (⟨"WhoseThreadModel", "liesOver", "(I)I"⟩, 33) := ⟨⟨by decide +kernel, by decide +kernel⟩, List.mem_of_getElem? (i := 708) (by decide +kernel), List.mem_of_getElem? (i := 957) (by decide +kernel), List.mem_of_getElem? (i := 958) (by decide +kernel)⟩
theorem lw_p42 : lw_okq (⟨"WhoseThreadModel", "asTold", "()V"⟩, 33) := ⟨⟨by decide +kernel, by decide +kernel⟩, List.mem_of_getElem? (i := 708) (by decide +kernel), List.mem_of_getElem? (i := 975) (by decide +kernel), List.mem_of_getElem? (i := 976) (by decide +kernel)⟩
theorem lw_p43 : lw_okq (⟨"WhoseThreadModel", "oneDay", "()I"⟩, 33) := ⟨⟨by decide +kernel, by decide +kernel⟩, List.mem_of_getElem? (i := 708) (by decide +kernel), List.mem_of_getElem? (i := 979) (by decide +kernel), List.mem_of_getElem? (i := 980) (by decide +kernel)⟩
theorem lw_p44 : lw_okq (⟨"WhoseThreadModel", "doomBy", "()I"⟩, 33) := ⟨⟨by decide +kernel, by decide +kernel⟩, List.mem_of_getElem? (i := 708) (by decide +kernel), List.mem_of_getElem? (i := 1011) (by decide +kernel), List.mem_of_getElem? (i := 1012) (by decide +kernel)⟩
theorem lw_p45 : lw_okq (⟨"WhoseThreadModel", "exchange", "(II)V"⟩, 33) := ⟨⟨by decide +kernel, by decide +kernel⟩, List.mem_of_getElem? (i := 708) (by decide +kernel), List.mem_of_getElem? (i := 1020) (by decide +kernel), List.mem_of_getElem? (i := 1021) (by decide +kernel)⟩
theorem lw_p46 : lw_okq (⟨"WhoseThreadModel", "nextRow", "(I)Z"⟩, 33) := ⟨⟨by decide +kernel, by decide +kernel⟩, List.mem_of_getElem? (i := 708) (by decide +kernel), List.mem_of_getElem? (i := 1024) (by decide +kernel), List.mem_of_getElem? (i := 1025) (by decide +kernel)⟩
theorem lw_p47 : lw_okq (⟨"WhoseThreadModel", "findMosts", "()V"⟩, 33) := ⟨⟨by decide +kernel, by decide +kernel⟩, List.mem_of_getElem? (i := 708) (by decide +kernel), List.mem_of_getElem? (i := 1032) (by decide +kernel), List.mem_of_getElem? (i := 1033) (by decide +kernel)⟩
def lw_privs_3 : List (MethodName × Nat) := [(⟨"WhoseThreadModel", "yearsOf", "(I)I"⟩, 33), (⟨"WhoseThreadModel", "isWhole", "(I)Z"⟩, 33), (⟨"WhoseThreadModel", "topOf", "(I)I"⟩, 33), (⟨"WhoseThreadModel", "wholes", "()I"⟩, 33), (⟨"WhoseThreadModel", "note", "()V"⟩, 33), (⟨"WhoseThreadModel", "cutNow", "(I)I"⟩, 33), (⟨"WhoseThreadModel", "fallsOn", "(I)I"⟩, 33), (⟨"WhoseThreadModel", "lossOf", "(I)I"⟩, 33), (⟨"WhoseThreadModel", "areTwo", "(II)Z"⟩, 33), (⟨"WhoseThreadModel", "liesOver", "(I)I"⟩, 33), (⟨"WhoseThreadModel", "asTold", "()V"⟩, 33), (⟨"WhoseThreadModel", "oneDay", "()I"⟩, 33), (⟨"WhoseThreadModel", "doomBy", "()I"⟩, 33), (⟨"WhoseThreadModel", "exchange", "(II)V"⟩, 33), (⟨"WhoseThreadModel", "nextRow", "(I)Z"⟩, 33), (⟨"WhoseThreadModel", "findMosts", "()V"⟩, 33)]
theorem lw_r3 : ∀ q ∈ lw_privs_3, lw_okq q := List.forall_mem_cons.mpr ⟨lw_p32, List.forall_mem_cons.mpr ⟨lw_p33, List.forall_mem_cons.mpr ⟨lw_p34, List.forall_mem_cons.mpr ⟨lw_p35, List.forall_mem_cons.mpr ⟨lw_p36, List.forall_mem_cons.mpr ⟨lw_p37, List.forall_mem_cons.mpr ⟨lw_p38, List.forall_mem_cons.mpr ⟨lw_p39, List.forall_mem_cons.mpr ⟨lw_p40, List.forall_mem_cons.mpr ⟨lw_p41, List.forall_mem_cons.mpr ⟨lw_p42, List.forall_mem_cons.mpr ⟨lw_p43, List.forall_mem_cons.mpr ⟨lw_p44, List.forall_mem_cons.mpr ⟨lw_p45, List.forall_mem_cons.mpr ⟨lw_p46, List.forall_mem_cons.mpr ⟨lw_p47, fun _ h => absurd h List.not_mem_nil⟩⟩⟩⟩⟩⟩⟩⟩⟩⟩⟩⟩⟩⟩⟩⟩
theorem lw_p48 : lw_okq (⟨"WhoseThreadModel", "tailOf", "(I)I"⟩, 33) := ⟨⟨by decide +kernel, by decide +kernel⟩, List.mem_of_getElem? (i := 708) (by decide +kernel), List.mem_of_getElem? (i := 1036) (by decide +kernel), List.mem_of_getElem? (i := 1037) (by decide +kernel)⟩
theorem lw_p49 : lw_okq (⟨"WhoseThreadModel", "mayHave", "(II)Z"⟩, 33) := ⟨⟨by decide +kernel, by decide +kernel⟩, List.mem_of_getElem? (i := 708) (by decide +kernel), List.mem_of_getElem? (i := 1040) (by decide +kernel), List.mem_of_getElem? (i := 1041) (by decide +kernel)⟩
theorem lw_p50 : lw_okq (⟨"WhoseThreadModel", "canGive", "(II)I"⟩, 33) := ⟨⟨by decide +kernel, by decide +kernel⟩, List.mem_of_getElem? (i := 708) (by decide +kernel), List.mem_of_getElem? (i := 1048) (by decide +kernel), List.mem_of_getElem? (i := 1049) (by decide +kernel)⟩
def lw_privs_4 : List (MethodName × Nat) := [(⟨"WhoseThreadModel", "tailOf", "(I)I"⟩, 33), (⟨"WhoseThreadModel", "mayHave", "(II)Z"⟩, 33), (⟨"WhoseThreadModel", "canGive", "(II)I"⟩, 33)]
theorem lw_r4 : ∀ q ∈ lw_privs_4, lw_okq q := List.forall_mem_cons.mpr ⟨lw_p48, List.forall_mem_cons.mpr ⟨lw_p49, List.forall_mem_cons.mpr ⟨lw_p50, fun _ h => absurd h List.not_mem_nil⟩⟩⟩
def lw_privs : List (MethodName × Nat) := lw_privs_1 ++ (lw_privs_2 ++ (lw_privs_3 ++ (lw_privs_4)))
def lw_tbl : List Cond := k2_sels lw_privs ++ tables_1
theorem lw_privs_ok : ∀ q ∈ lw_privs, lw_okq q := by
  show ∀ q ∈ lw_privs_1 ++ (lw_privs_2 ++ (lw_privs_3 ++ (lw_privs_4))), lw_okq q
  exact List.forall_mem_append.mpr ⟨lw_r1, List.forall_mem_append.mpr ⟨lw_r2, List.forall_mem_append.mpr ⟨lw_r3, lw_r4⟩⟩⟩

def RX0 : String := "WhoseThread$Dealing"
def TX0 : u_T := fun k => match k with
  | 0 => ("WhoseThread$Dealing", "told", "LWhoseThread$Telling;", true)
  | 1 => ("WhoseThread$Dealing", "now", "LWhoseThread$Loom;", true)
  | 2 => ("WhoseThread$Dealing", "days", "[I", true)
  | 3 => ("WhoseThread$Dealing", "row", "[I", true)
  | 4 => ("WhoseThread$Dealing", "slots", "I", false)
  | 5 => ("WhoseThread$Dealing", "first", "[I", true)
  | _ => ("WhoseThread$Dealing", "least", "I", false)
def tyX0 : Nat → FieldType := fun k => match k with
  | 0 => .object "WhoseThread$Telling"
  | 1 => .object "WhoseThread$Loom"
  | 2 => .array .int
  | 3 => .array .int
  | 4 => .int
  | 5 => .array .int
  | _ => .int
abbrev wsX00 : List Cond := u_ws RX0 TX0 7
theorem nmX0 : ∀ a, a < 7 → ∀ b, b < 7 → a ≠ b → (TX0 a).2.1 ≠ (TX0 b).2.1 := by decide +kernel
theorem tyX0_ok : ∀ k, k < 7 → parseFieldDescriptor (TX0 k).2.2.1 = some (tyX0 k) := by decide +kernel
abbrev cX0_init : ByteArray := prog_2_method_1_code
def yX0_init : MethodName := ⟨RX0, "<init>", "(LWhoseThread$Telling;LWhoseThread$Loom;)V"⟩
abbrev cX0_deal : ByteArray := prog_2_method_2_code
def yX0_deal : MethodName := ⟨RX0, "deal", "()V"⟩
abbrev cX0_addDay : ByteArray := prog_2_method_3_code
def yX0_addDay : MethodName := ⟨RX0, "addDay", "(I)V"⟩
abbrev cX0_dealFrom : ByteArray := prog_2_method_4_code
def yX0_dealFrom : MethodName := ⟨RX0, "dealFrom", "(IIIII)V"⟩
abbrev cX0_dealTo : ByteArray := prog_2_method_5_code
def yX0_dealTo : MethodName := ⟨RX0, "dealTo", "(IIIII)V"⟩
abbrev cX0_take : ByteArray := prog_2_method_6_code
def yX0_take : MethodName := ⟨RX0, "take", "(I)V"⟩
abbrev cX0_isAhead : ByteArray := prog_2_method_7_code
def yX0_isAhead : MethodName := ⟨RX0, "isAhead", "()Z"⟩
def RX1 : String := "WhoseThread$Loom"
def TX1 : u_T := fun k => match k with
  | 0 => ("WhoseThread$Loom", "told", "LWhoseThread$Telling;", true)
  | 1 => ("WhoseThread$Loom", "day", "I", false)
  | 2 => ("WhoseThread$Loom", "lost", "I", false)
  | 3 => ("WhoseThread$Loom", "whole", "I", false)
  | 4 => ("WhoseThread$Loom", "cut", "I", false)
  | 5 => ("WhoseThread$Loom", "colours", "[I", true)
  | 6 => ("WhoseThread$Loom", "over", "[I", true)
  | 7 => ("WhoseThread$Loom", "knots", "[I", true)
  | _ => ("WhoseThread$Loom", "cutDays", "[I", true)
def tyX1 : Nat → FieldType := fun k => match k with
  | 0 => .object "WhoseThread$Telling"
  | 1 => .int
  | 2 => .int
  | 3 => .int
  | 4 => .int
  | 5 => .array .int
  | 6 => .array .int
  | 7 => .array .int
  | _ => .array .int
abbrev wsX10 : List Cond := u_ws RX1 TX1 9
theorem nmX1 : ∀ a, a < 9 → ∀ b, b < 9 → a ≠ b → (TX1 a).2.1 ≠ (TX1 b).2.1 := by decide +kernel
theorem tyX1_ok : ∀ k, k < 9 → parseFieldDescriptor (TX1 k).2.2.1 = some (tyX1 k) := by decide +kernel
abbrev cX1_init : ByteArray := prog_3_method_1_code
def yX1_init : MethodName := ⟨RX1, "<init>", "(LWhoseThread$Telling;)V"⟩
abbrev cX1_begin : ByteArray := prog_3_method_2_code
def yX1_begin : MethodName := ⟨RX1, "begin", "()V"⟩
abbrev cX1_copyFrom : ByteArray := prog_3_method_3_code
def yX1_copyFrom : MethodName := ⟨RX1, "copyFrom", "(LWhoseThread$Loom;)V"⟩
abbrev cX1_isWhole : ByteArray := prog_3_method_4_code
def yX1_isWhole : MethodName := ⟨RX1, "isWhole", "(I)Z"⟩
abbrev cX1_fateOf : ByteArray := prog_3_method_5_code
def yX1_fateOf : MethodName := ⟨RX1, "fateOf", "(I)I"⟩
abbrev cX1_topOf : ByteArray := prog_3_method_6_code
def yX1_topOf : MethodName := ⟨RX1, "topOf", "(II)I"⟩
abbrev cX1_fallOf : ByteArray := prog_3_method_7_code
def yX1_fallOf : MethodName := ⟨RX1, "fallOf", "(II)I"⟩
abbrev cX1_cutAt : ByteArray := prog_3_method_8_code
def yX1_cutAt : MethodName := ⟨RX1, "cutAt", "(I)I"⟩
abbrev cX1_endDays : ByteArray := prog_3_method_9_code
def yX1_endDays : MethodName := ⟨RX1, "endDays", "(I)V"⟩
abbrev cX1_endDay : ByteArray := prog_3_method_10_code
def yX1_endDay : MethodName := ⟨RX1, "endDay", "()V"⟩
abbrev cX1_liesOver : ByteArray := prog_3_method_11_code
def yX1_liesOver : MethodName := ⟨RX1, "liesOver", "(I)I"⟩
abbrev cX1_takeOff : ByteArray := prog_3_method_12_code
def yX1_takeOff : MethodName := ⟨RX1, "takeOff", "(I)V"⟩
abbrev cX1_canGive : ByteArray := prog_3_method_13_code
def yX1_canGive : MethodName := ⟨RX1, "canGive", "(II)I"⟩
def RX2 : String := "WhoseThread$Past"
def TX2 : u_T := fun k => match k with
  | 0 => ("WhoseThread$Past", "ring", "[LWhoseThread$Loom;", true)
  | 1 => ("WhoseThread$Past", "next", "I", false)
  | _ => ("WhoseThread$Past", "held", "I", false)
def tyX2 : Nat → FieldType := fun k => match k with
  | 0 => .array (.object "WhoseThread$Loom")
  | 1 => .int
  | _ => .int
abbrev wsX20 : List Cond := u_ws RX2 TX2 3
theorem nmX2 : ∀ a, a < 3 → ∀ b, b < 3 → a ≠ b → (TX2 a).2.1 ≠ (TX2 b).2.1 := by decide +kernel
theorem tyX2_ok : ∀ k, k < 3 → parseFieldDescriptor (TX2 k).2.2.1 = some (tyX2 k) := by decide +kernel
abbrev cX2_init : ByteArray := prog_4_method_1_code
def yX2_init : MethodName := ⟨RX2, "<init>", "(LWhoseThread$Telling;)V"⟩
abbrev cX2_remember : ByteArray := prog_4_method_2_code
def yX2_remember : MethodName := ⟨RX2, "remember", "(LWhoseThread$Loom;)V"⟩
abbrev cX2_bringBack : ByteArray := prog_4_method_3_code
def yX2_bringBack : MethodName := ⟨RX2, "bringBack", "(LWhoseThread$Loom;)V"⟩
def RX3 : String := "WhoseThread$Tailing"
def TX3 : u_T := fun k => match k with
  | 0 => ("WhoseThread$Tailing", "told", "LWhoseThread$Telling;", true)
  | 1 => ("WhoseThread$Tailing", "now", "LWhoseThread$Loom;", true)
  | 2 => ("WhoseThread$Tailing", "row", "[I", true)
  | 3 => ("WhoseThread$Tailing", "first", "[I", true)
  | _ => ("WhoseThread$Tailing", "most", "I", false)
def tyX3 : Nat → FieldType := fun k => match k with
  | 0 => .object "WhoseThread$Telling"
  | 1 => .object "WhoseThread$Loom"
  | 2 => .array .int
  | 3 => .array .int
  | _ => .int
abbrev wsX30 : List Cond := u_ws RX3 TX3 5
theorem nmX3 : ∀ a, a < 5 → ∀ b, b < 5 → a ≠ b → (TX3 a).2.1 ≠ (TX3 b).2.1 := by decide +kernel
theorem tyX3_ok : ∀ k, k < 5 → parseFieldDescriptor (TX3 k).2.2.1 = some (tyX3 k) := by decide +kernel
abbrev cX3_init : ByteArray := prog_5_method_1_code
def yX3_init : MethodName := ⟨RX3, "<init>", "(LWhoseThread$Telling;LWhoseThread$Loom;)V"⟩
abbrev cX3_give : ByteArray := prog_5_method_2_code
def yX3_give : MethodName := ⟨RX3, "give", "()V"⟩
abbrev cX3_giveFrom : ByteArray := prog_5_method_3_code
def yX3_giveFrom : MethodName := ⟨RX3, "giveFrom", "(III)V"⟩
abbrev cX3_giveTo : ByteArray := prog_5_method_4_code
def yX3_giveTo : MethodName := ⟨RX3, "giveTo", "(IIII)V"⟩
abbrev cX3_fits : ByteArray := prog_5_method_5_code
def yX3_fits : MethodName := ⟨RX3, "fits", "(II)Z"⟩
abbrev cX3_take : ByteArray := prog_5_method_6_code
def yX3_take : MethodName := ⟨RX3, "take", "(I)V"⟩
def RX4 : String := "WhoseThread$Telling"
def TX4 : u_T := fun k => match k with
  | 0 => ("WhoseThread$Telling", "threads", "I", false)
  | 1 => ("WhoseThread$Telling", "orders", "I", false)
  | 2 => ("WhoseThread$Telling", "kinds", "[I", true)
  | 3 => ("WhoseThread$Telling", "lengths", "[I", true)
  | 4 => ("WhoseThread$Telling", "colours", "[I", true)
  | 5 => ("WhoseThread$Telling", "over", "[I", true)
  | 6 => ("WhoseThread$Telling", "knots", "[I", true)
  | 7 => ("WhoseThread$Telling", "orderThreads", "[I", true)
  | _ => ("WhoseThread$Telling", "orderDays", "[I", true)
def tyX4 : Nat → FieldType := fun k => match k with
  | 0 => .int
  | 1 => .int
  | 2 => .array .int
  | 3 => .array .int
  | 4 => .array .int
  | 5 => .array .int
  | 6 => .array .int
  | 7 => .array .int
  | _ => .array .int
abbrev wsX40 : List Cond := u_ws RX4 TX4 9
theorem nmX4 : ∀ a, a < 9 → ∀ b, b < 9 → a ≠ b → (TX4 a).2.1 ≠ (TX4 b).2.1 := by decide +kernel
theorem tyX4_ok : ∀ k, k < 9 → parseFieldDescriptor (TX4 k).2.2.1 = some (tyX4 k) := by decide +kernel
abbrev cX4_init : ByteArray := prog_6_method_1_code
def yX4_init : MethodName := ⟨RX4, "<init>", "()V"⟩
abbrev cX4_copyFrom : ByteArray := prog_6_method_2_code
def yX4_copyFrom : MethodName := ⟨RX4, "copyFrom", "(LWhoseThread$Telling;)V"⟩
abbrev cX4_hasRoomFor : ByteArray := prog_6_method_3_code
def yX4_hasRoomFor : MethodName := ⟨RX4, "hasRoomFor", "(I)Z"⟩
abbrev cX4_addThread : ByteArray := prog_6_method_4_code
def yX4_addThread : MethodName := ⟨RX4, "addThread", "(III)V"⟩
abbrev cX4_addOrder : ByteArray := prog_6_method_5_code
def yX4_addOrder : MethodName := ⟨RX4, "addOrder", "(II)V"⟩
abbrev cX4_empty : ByteArray := prog_6_method_6_code
def yX4_empty : MethodName := ⟨RX4, "empty", "()V"⟩
abbrev cX4_loosen : ByteArray := prog_6_method_7_code
def yX4_loosen : MethodName := ⟨RX4, "loosen", "()V"⟩
abbrev cX4_all : ByteArray := prog_6_method_8_code
def yX4_all : MethodName := ⟨RX4, "all", "()I"⟩
abbrev cX4_isOf : ByteArray := prog_6_method_9_code
def yX4_isOf : MethodName := ⟨RX4, "isOf", "(II)Z"⟩
abbrev cX4_isEndless : ByteArray := prog_6_method_10_code
def yX4_isEndless : MethodName := ⟨RX4, "isEndless", "(I)Z"⟩
abbrev cX4_yearsOn : ByteArray := prog_6_method_11_code
def yX4_yearsOn : MethodName := ⟨RX4, "yearsOn", "(II)I"⟩
abbrev cX4_lossOf : ByteArray := prog_6_method_12_code
def yX4_lossOf : MethodName := ⟨RX4, "lossOf", "(II)I"⟩
abbrev cX4_lasting : ByteArray := prog_6_method_13_code
def yX4_lasting : MethodName := ⟨RX4, "lasting", "(II)I"⟩
def RX5 : String := "WhoseThread$Text"
def TX5 : u_T := fun k => match k with
  | 0 => ("WhoseThread$Text", "letters", "[I", true)
  | 1 => ("WhoseThread$Text", "length", "I", false)
  | 2 => ("WhoseThread$Text", "clauses", "I", false)
  | 3 => ("WhoseThread$Text", "begin", "I", false)
  | _ => ("WhoseThread$Text", "end", "I", false)
def tyX5 : Nat → FieldType := fun k => match k with
  | 0 => .array .int
  | 1 => .int
  | 2 => .int
  | 3 => .int
  | _ => .int
abbrev wsX50 : List Cond := u_ws RX5 TX5 5
theorem nmX5 : ∀ a, a < 5 → ∀ b, b < 5 → a ≠ b → (TX5 a).2.1 ≠ (TX5 b).2.1 := by decide +kernel
theorem tyX5_ok : ∀ k, k < 5 → parseFieldDescriptor (TX5 k).2.2.1 = some (tyX5 k) := by decide +kernel
abbrev cX5_init : ByteArray := prog_7_method_1_code
def yX5_init : MethodName := ⟨RX5, "<init>", "()V"⟩
abbrev cX5_add : ByteArray := prog_7_method_2_code
def yX5_add : MethodName := ⟨RX5, "add", "(I)V"⟩
abbrev cX5_firstFault : ByteArray := prog_7_method_3_code
def yX5_firstFault : MethodName := ⟨RX5, "firstFault", "(LWhoseThread$Telling;)I"⟩
abbrev cX5_clauseStands : ByteArray := prog_7_method_4_code
def yX5_clauseStands : MethodName := ⟨RX5, "clauseStands", "(LWhoseThread$Telling;)Z"⟩
abbrev cX5_threadStands : ByteArray := prog_7_method_5_code
def yX5_threadStands : MethodName := ⟨RX5, "threadStands", "(LWhoseThread$Telling;I)Z"⟩
abbrev cX5_overStands : ByteArray := prog_7_method_6_code
def yX5_overStands : MethodName := ⟨RX5, "overStands", "(LWhoseThread$Telling;)Z"⟩
abbrev cX5_knotStands : ByteArray := prog_7_method_7_code
def yX5_knotStands : MethodName := ⟨RX5, "knotStands", "(LWhoseThread$Telling;)Z"⟩
abbrev cX5_orderStands : ByteArray := prog_7_method_8_code
def yX5_orderStands : MethodName := ⟨RX5, "orderStands", "(LWhoseThread$Telling;)Z"⟩
abbrev cX5_step : ByteArray := prog_7_method_9_code
def yX5_step : MethodName := ⟨RX5, "step", "()V"⟩
abbrev cX5_sortOf : ByteArray := prog_7_method_10_code
def yX5_sortOf : MethodName := ⟨RX5, "sortOf", "(I)I"⟩
abbrev cX5_number : ByteArray := prog_7_method_11_code
def yX5_number : MethodName := ⟨RX5, "number", "(II)I"⟩
abbrev cX5_word : ByteArray := prog_7_method_12_code
def yX5_word : MethodName := ⟨RX5, "word", "()I"⟩
abbrev cX5_isWord : ByteArray := prog_7_method_13_code
def yX5_isWord : MethodName := ⟨RX5, "isWord", "(Ljava/lang/String;)Z"⟩
def RX6 : String := "WhoseThread"
def TX6 : u_T := fun k => match k with
  | 0 => ("WhoseThread", "text", "LWhoseThread$Text;", true)
  | 1 => ("WhoseThread", "told", "LWhoseThread$Telling;", true)
  | 2 => ("WhoseThread", "trial", "LWhoseThread$Telling;", true)
  | 3 => ("WhoseThread", "now", "LWhoseThread$Loom;", true)
  | 4 => ("WhoseThread", "spare", "LWhoseThread$Loom;", true)
  | 5 => ("WhoseThread", "past", "LWhoseThread$Past;", true)
  | 6 => ("WhoseThread", "kept", "[LWhoseThread$Loom;", true)
  | 7 => ("WhoseThread", "keptBits", "I", false)
  | 8 => ("WhoseThread", "dealing", "LWhoseThread$Dealing;", true)
  | _ => ("WhoseThread", "tailing", "LWhoseThread$Tailing;", true)
def tyX6 : Nat → FieldType := fun k => match k with
  | 0 => .object "WhoseThread$Text"
  | 1 => .object "WhoseThread$Telling"
  | 2 => .object "WhoseThread$Telling"
  | 3 => .object "WhoseThread$Loom"
  | 4 => .object "WhoseThread$Loom"
  | 5 => .object "WhoseThread$Past"
  | 6 => .array (.object "WhoseThread$Loom")
  | 7 => .int
  | 8 => .object "WhoseThread$Dealing"
  | _ => .object "WhoseThread$Tailing"
abbrev wsX60 : List Cond := u_ws RX6 TX6 10
theorem nmX6 : ∀ a, a < 10 → ∀ b, b < 10 → a ≠ b → (TX6 a).2.1 ≠ (TX6 b).2.1 := by decide +kernel
theorem tyX6_ok : ∀ k, k < 10 → parseFieldDescriptor (TX6 k).2.2.1 = some (tyX6 k) := by decide +kernel
abbrev cX6_init : ByteArray := prog_1_method_1_code
def yX6_init : MethodName := ⟨RX6, "<init>", "()V"⟩
abbrev cX6_write : ByteArray := prog_1_method_2_code
def yX6_write : MethodName := ⟨RX6, "write", "(I)I"⟩
abbrev cX6_erase : ByteArray := prog_1_method_3_code
def yX6_erase : MethodName := ⟨RX6, "erase", "()I"⟩
abbrev cX6_fault : ByteArray := prog_1_method_4_code
def yX6_fault : MethodName := ⟨RX6, "fault", "()I"⟩
abbrev cX6_loom : ByteArray := prog_1_method_5_code
def yX6_loom : MethodName := ⟨RX6, "loom", "()I"⟩
abbrev cX6_thread : ByteArray := prog_1_method_6_code
def yX6_thread : MethodName := ⟨RX6, "thread", "(II)I"⟩
abbrev cX6_as : ByteArray := prog_1_method_7_code
def yX6_as : MethodName := ⟨RX6, "as", "(II)I"⟩
abbrev cX6_order : ByteArray := prog_1_method_8_code
def yX6_order : MethodName := ⟨RX6, "order", "(II)I"⟩
abbrev cX6_top : ByteArray := prog_1_method_9_code
def yX6_top : MethodName := ⟨RX6, "top", "(I)I"⟩
abbrev cX6_cut : ByteArray := prog_1_method_10_code
def yX6_cut : MethodName := ⟨RX6, "cut", "(I)I"⟩
abbrev cX6_put : ByteArray := prog_1_method_11_code
def yX6_put : MethodName := ⟨RX6, "put", "(II)I"⟩
abbrev cX6_lift : ByteArray := prog_1_method_12_code
def yX6_lift : MethodName := ⟨RX6, "lift", "(I)I"⟩
abbrev cX6_knot : ByteArray := prog_1_method_13_code
def yX6_knot : MethodName := ⟨RX6, "knot", "(III)I"⟩
abbrev cX6_dye : ByteArray := prog_1_method_14_code
def yX6_dye : MethodName := ⟨RX6, "dye", "(II)I"⟩
abbrev cX6_go : ByteArray := prog_1_method_15_code
def yX6_go : MethodName := ⟨RX6, "go", "(I)I"⟩
abbrev cX6_undo : ByteArray := prog_1_method_16_code
def yX6_undo : MethodName := ⟨RX6, "undo", "()I"⟩
abbrev cX6_keep : ByteArray := prog_1_method_17_code
def yX6_keep : MethodName := ⟨RX6, "keep", "(I)I"⟩
abbrev cX6_back : ByteArray := prog_1_method_18_code
def yX6_back : MethodName := ⟨RX6, "back", "(I)I"⟩
abbrev cX6_takes : ByteArray := prog_1_method_19_code
def yX6_takes : MethodName := ⟨RX6, "takes", "(I)I"⟩
abbrev cX6_loss : ByteArray := prog_1_method_20_code
def yX6_loss : MethodName := ⟨RX6, "loss", "(I)I"⟩
abbrev cX6_lifts : ByteArray := prog_1_method_21_code
def yX6_lifts : MethodName := ⟨RX6, "lifts", "(II)I"⟩
abbrev cX6_doom : ByteArray := prog_1_method_22_code
def yX6_doom : MethodName := ⟨RX6, "doom", "(I)I"⟩
abbrev cX6_swapped : ByteArray := prog_1_method_23_code
def yX6_swapped : MethodName := ⟨RX6, "swapped", "(I)I"⟩
abbrev cX6_tails : ByteArray := prog_1_method_24_code
def yX6_tails : MethodName := ⟨RX6, "tails", "(I)I"⟩
abbrev cX6_given : ByteArray := prog_1_method_25_code
def yX6_given : MethodName := ⟨RX6, "given", "(III)I"⟩
abbrev cX6_cat : ByteArray := prog_1_method_26_code
def yX6_cat : MethodName := ⟨RX6, "cat", "(II)I"⟩
abbrev cX6_mean : ByteArray := prog_1_method_27_code
def yX6_mean : MethodName := ⟨RX6, "mean", "(I)I"⟩
abbrev cX6_whose : ByteArray := prog_1_method_28_code
def yX6_whose : MethodName := ⟨RX6, "whose", "(I)I"⟩
abbrev cX6_fourth : ByteArray := prog_1_method_29_code
def yX6_fourth : MethodName := ⟨RX6, "fourth", "(I)I"⟩
abbrev cX6_count : ByteArray := prog_1_method_30_code
def yX6_count : MethodName := ⟨RX6, "count", "(I)I"⟩
abbrev cX6_known : ByteArray := prog_1_method_31_code
def yX6_known : MethodName := ⟨RX6, "known", "(I)Z"⟩
abbrev cX6_knownPair : ByteArray := prog_1_method_32_code
def yX6_knownPair : MethodName := ⟨RX6, "knownPair", "(II)Z"⟩
abbrev cX6_lossAt : ByteArray := prog_1_method_33_code
def yX6_lossAt : MethodName := ⟨RX6, "lossAt", "(I)I"⟩
abbrev cX6_bit : ByteArray := prog_1_method_34_code
def yX6_bit : MethodName := ⟨RX6, "bit", "(I)I"⟩
abbrev cX6_has : ByteArray := prog_1_method_35_code
def yX6_has : MethodName := ⟨RX6, "has", "(II)Z"⟩
abbrev cX6_bitsIn : ByteArray := prog_1_method_36_code
def yX6_bitsIn : MethodName := ⟨RX6, "bitsIn", "([I)I"⟩
abbrev cX6_lowest : ByteArray := prog_1_method_37_code
def yX6_lowest : MethodName := ⟨RX6, "lowest", "(III)I"⟩
abbrev cX6_spread : ByteArray := prog_1_method_38_code
def yX6_spread : MethodName := ⟨RX6, "spread", "([III)I"⟩
abbrev cX6_makesRing : ByteArray := prog_1_method_39_code
def yX6_makesRing : MethodName := ⟨RX6, "makesRing", "([III)Z"⟩
def RX7 : String := "WhoseThreadModel"
def TX7 : u_T := fun k => match k with
  | 0 => ("WhoseThreadModel", "kinds", "[I", true)
  | 1 => ("WhoseThreadModel", "lengths", "[I", true)
  | 2 => ("WhoseThreadModel", "threads", "I", false)
  | 3 => ("WhoseThreadModel", "whom", "[I", true)
  | 4 => ("WhoseThreadModel", "when", "[I", true)
  | 5 => ("WhoseThreadModel", "orders", "I", false)
  | 6 => ("WhoseThreadModel", "toldAs", "[I", true)
  | 7 => ("WhoseThreadModel", "st", "[I", true)
  | 8 => ("WhoseThreadModel", "text", "[I", true)
  | 9 => ("WhoseThreadModel", "letters", "I", false)
  | 10 => ("WhoseThreadModel", "place", "I", false)
  | 11 => ("WhoseThreadModel", "token", "I", false)
  | 12 => ("WhoseThreadModel", "value", "I", false)
  | 13 => ("WhoseThreadModel", "begins", "I", false)
  | 14 => ("WhoseThreadModel", "readThreads", "I", false)
  | 15 => ("WhoseThreadModel", "readTold", "[I", true)
  | 16 => ("WhoseThreadModel", "readOvers", "[I", true)
  | 17 => ("WhoseThreadModel", "readKnots", "[I", true)
  | 18 => ("WhoseThreadModel", "readOrders", "I", false)
  | 19 => ("WhoseThreadModel", "readWhom", "[I", true)
  | 20 => ("WhoseThreadModel", "readWhen", "[I", true)
  | 21 => ("WhoseThreadModel", "clauses", "I", false)
  | 22 => ("WhoseThreadModel", "ahead", "[I", true)
  | 23 => ("WhoseThreadModel", "undoMany", "I", false)
  | 24 => ("WhoseThreadModel", "overNow", "[I", true)
  | 25 => ("WhoseThreadModel", "dueOn", "[I", true)
  | 26 => ("WhoseThreadModel", "isKept", "[Z", true)
  | 27 => ("WhoseThreadModel", "kept", "[I", true)
  | 28 => ("WhoseThreadModel", "aside", "[I", true)
  | 29 => ("WhoseThreadModel", "doomed", "I", false)
  | 30 => ("WhoseThreadModel", "open", "[I", true)
  | 31 => ("WhoseThreadModel", "bestDays", "[I", true)
  | _ => ("WhoseThreadModel", "mosts", "[I", true)
def tyX7 : Nat → FieldType := fun k => match k with
  | 0 => .array .int
  | 1 => .array .int
  | 2 => .int
  | 3 => .array .int
  | 4 => .array .int
  | 5 => .int
  | 6 => .array .int
  | 7 => .array .int
  | 8 => .array .int
  | 9 => .int
  | 10 => .int
  | 11 => .int
  | 12 => .int
  | 13 => .int
  | 14 => .int
  | 15 => .array .int
  | 16 => .array .int
  | 17 => .array .int
  | 18 => .int
  | 19 => .array .int
  | 20 => .array .int
  | 21 => .int
  | 22 => .array .int
  | 23 => .int
  | 24 => .array .int
  | 25 => .array .int
  | 26 => .array .boolean
  | 27 => .array .int
  | 28 => .array .int
  | 29 => .int
  | 30 => .array .int
  | 31 => .array .int
  | _ => .array .int
abbrev wsX70 : List Cond := u_ws RX7 TX7 33
theorem nmX7 : ∀ a, a < 33 → ∀ b, b < 33 → a ≠ b → (TX7 a).2.1 ≠ (TX7 b).2.1 := by decide +kernel
theorem tyX7_ok : ∀ k, k < 33 → parseFieldDescriptor (TX7 k).2.2.1 = some (tyX7 k) := by decide +kernel
abbrev cX7_init : ByteArray := prog_9_method_1_code
def yX7_init : MethodName := ⟨RX7, "<init>", "()V"⟩
abbrev cX7_in : ByteArray := prog_9_method_2_code
def yX7_in : MethodName := ⟨RX7, "in", "(JJJ)Z"⟩
abbrev cX7_has : ByteArray := prog_9_method_3_code
def yX7_has : MethodName := ⟨RX7, "has", "(II)Z"⟩
abbrev cX7_ones : ByteArray := prog_9_method_4_code
def yX7_ones : MethodName := ⟨RX7, "ones", "(I)I"⟩
abbrev cX7_isThread : ByteArray := prog_9_method_5_code
def yX7_isThread : MethodName := ⟨RX7, "isThread", "(I)Z"⟩
abbrev cX7_write : ByteArray := prog_9_method_6_code
def yX7_write : MethodName := ⟨RX7, "write", "(I)I"⟩
abbrev cX7_erase : ByteArray := prog_9_method_7_code
def yX7_erase : MethodName := ⟨RX7, "erase", "()I"⟩
abbrev cX7_letterAt : ByteArray := prog_9_method_8_code
def yX7_letterAt : MethodName := ⟨RX7, "letterAt", "(I)I"⟩
abbrev cX7_nextToken : ByteArray := prog_9_method_9_code
def yX7_nextToken : MethodName := ⟨RX7, "nextToken", "()V"⟩
abbrev cX7_wordOf : ByteArray := prog_9_method_10_code
def yX7_wordOf : MethodName := ⟨RX7, "wordOf", "()J"⟩
abbrev cX7_spelt : ByteArray := prog_9_method_11_code
def yX7_spelt : MethodName := ⟨RX7, "spelt", "(IIIIIII)J"⟩
abbrev cX7_verb : ByteArray := prog_9_method_12_code
def yX7_verb : MethodName := ⟨RX7, "verb", "()I"⟩
abbrev cX7_number : ByteArray := prog_9_method_13_code
def yX7_number : MethodName := ⟨RX7, "number", "(II)I"⟩
abbrev cX7_isAbove : ByteArray := prog_9_method_14_code
def yX7_isAbove : MethodName := ⟨RX7, "isAbove", "([III)Z"⟩
abbrev cX7_readThread : ByteArray := prog_9_method_15_code
def yX7_readThread : MethodName := ⟨RX7, "readThread", "(I)Z"⟩
abbrev cX7_readTwo : ByteArray := prog_9_method_16_code
def yX7_readTwo : MethodName := ⟨RX7, "readTwo", "(I)Z"⟩
abbrev cX7_readClause : ByteArray := prog_9_method_17_code
def yX7_readClause : MethodName := ⟨RX7, "readClause", "()Z"⟩
abbrev cX7_readText : ByteArray := prog_9_method_18_code
def yX7_readText : MethodName := ⟨RX7, "readText", "()Z"⟩
abbrev cX7_fault : ByteArray := prog_9_method_19_code
def yX7_fault : MethodName := ⟨RX7, "fault", "()I"⟩
abbrev cX7_loom : ByteArray := prog_9_method_20_code
def yX7_loom : MethodName := ⟨RX7, "loom", "()I"⟩
abbrev cX7_isWhole : ByteArray := prog_9_method_21_code
def yX7_isWhole : MethodName := ⟨RX7, "isWhole", "(I)Z"⟩
abbrev cX7_wholes : ByteArray := prog_9_method_22_code
def yX7_wholes : MethodName := ⟨RX7, "wholes", "()I"⟩
abbrev cX7_yearsOf : ByteArray := prog_9_method_23_code
def yX7_yearsOf : MethodName := ⟨RX7, "yearsOf", "(I)I"⟩
abbrev cX7_thread : ByteArray := prog_9_method_24_code
def yX7_thread : MethodName := ⟨RX7, "thread", "(II)I"⟩
abbrev cX7_as : ByteArray := prog_9_method_25_code
def yX7_as : MethodName := ⟨RX7, "as", "(II)I"⟩
abbrev cX7_order : ByteArray := prog_9_method_26_code
def yX7_order : MethodName := ⟨RX7, "order", "(II)I"⟩
abbrev cX7_topOf : ByteArray := prog_9_method_27_code
def yX7_topOf : MethodName := ⟨RX7, "topOf", "(I)I"⟩
abbrev cX7_top : ByteArray := prog_9_method_28_code
def yX7_top : MethodName := ⟨RX7, "top", "(I)I"⟩
abbrev cX7_fallsOn : ByteArray := prog_9_method_29_code
def yX7_fallsOn : MethodName := ⟨RX7, "fallsOn", "(I)I"⟩
abbrev cX7_lossOf : ByteArray := prog_9_method_30_code
def yX7_lossOf : MethodName := ⟨RX7, "lossOf", "(I)I"⟩
abbrev cX7_cutNow : ByteArray := prog_9_method_31_code
def yX7_cutNow : MethodName := ⟨RX7, "cutNow", "(I)I"⟩
abbrev cX7_note : ByteArray := prog_9_method_32_code
def yX7_note : MethodName := ⟨RX7, "note", "()V"⟩
abbrev cX7_cut : ByteArray := prog_9_method_33_code
def yX7_cut : MethodName := ⟨RX7, "cut", "(I)I"⟩
abbrev cX7_areTwo : ByteArray := prog_9_method_34_code
def yX7_areTwo : MethodName := ⟨RX7, "areTwo", "(II)Z"⟩
abbrev cX7_put : ByteArray := prog_9_method_35_code
def yX7_put : MethodName := ⟨RX7, "put", "(II)I"⟩
abbrev cX7_liesOver : ByteArray := prog_9_method_36_code
def yX7_liesOver : MethodName := ⟨RX7, "liesOver", "(I)I"⟩
abbrev cX7_lift : ByteArray := prog_9_method_37_code
def yX7_lift : MethodName := ⟨RX7, "lift", "(I)I"⟩
abbrev cX7_knot : ByteArray := prog_9_method_38_code
def yX7_knot : MethodName := ⟨RX7, "knot", "(III)I"⟩
abbrev cX7_dye : ByteArray := prog_9_method_39_code
def yX7_dye : MethodName := ⟨RX7, "dye", "(II)I"⟩
abbrev cX7_oneDay : ByteArray := prog_9_method_40_code
def yX7_oneDay : MethodName := ⟨RX7, "oneDay", "()I"⟩
abbrev cX7_asTold : ByteArray := prog_9_method_41_code
def yX7_asTold : MethodName := ⟨RX7, "asTold", "()V"⟩
abbrev cX7_go : ByteArray := prog_9_method_42_code
def yX7_go : MethodName := ⟨RX7, "go", "(I)I"⟩
abbrev cX7_undo : ByteArray := prog_9_method_43_code
def yX7_undo : MethodName := ⟨RX7, "undo", "()I"⟩
abbrev cX7_keep : ByteArray := prog_9_method_44_code
def yX7_keep : MethodName := ⟨RX7, "keep", "(I)I"⟩
abbrev cX7_back : ByteArray := prog_9_method_45_code
def yX7_back : MethodName := ⟨RX7, "back", "(I)I"⟩
abbrev cX7_takes : ByteArray := prog_9_method_46_code
def yX7_takes : MethodName := ⟨RX7, "takes", "(I)I"⟩
abbrev cX7_loss : ByteArray := prog_9_method_47_code
def yX7_loss : MethodName := ⟨RX7, "loss", "(I)I"⟩
abbrev cX7_lifts : ByteArray := prog_9_method_48_code
def yX7_lifts : MethodName := ⟨RX7, "lifts", "(II)I"⟩
abbrev cX7_doomBy : ByteArray := prog_9_method_49_code
def yX7_doomBy : MethodName := ⟨RX7, "doomBy", "()I"⟩
abbrev cX7_doom : ByteArray := prog_9_method_50_code
def yX7_doom : MethodName := ⟨RX7, "doom", "(I)I"⟩
abbrev cX7_nextRow : ByteArray := prog_9_method_51_code
def yX7_nextRow : MethodName := ⟨RX7, "nextRow", "(I)Z"⟩
abbrev cX7_exchange : ByteArray := prog_9_method_52_code
def yX7_exchange : MethodName := ⟨RX7, "exchange", "(II)V"⟩
abbrev cX7_swapped : ByteArray := prog_9_method_53_code
def yX7_swapped : MethodName := ⟨RX7, "swapped", "(I)I"⟩
abbrev cX7_tailOf : ByteArray := prog_9_method_54_code
def yX7_tailOf : MethodName := ⟨RX7, "tailOf", "(I)I"⟩
abbrev cX7_mayHave : ByteArray := prog_9_method_55_code
def yX7_mayHave : MethodName := ⟨RX7, "mayHave", "(II)Z"⟩
abbrev cX7_findMosts : ByteArray := prog_9_method_56_code
def yX7_findMosts : MethodName := ⟨RX7, "findMosts", "()V"⟩
abbrev cX7_tails : ByteArray := prog_9_method_57_code
def yX7_tails : MethodName := ⟨RX7, "tails", "(I)I"⟩
abbrev cX7_canGive : ByteArray := prog_9_method_58_code
def yX7_canGive : MethodName := ⟨RX7, "canGive", "(II)I"⟩
abbrev cX7_given : ByteArray := prog_9_method_59_code
def yX7_given : MethodName := ⟨RX7, "given", "(III)I"⟩
abbrev cX7_common : ByteArray := prog_9_method_60_code
def yX7_common : MethodName := ⟨RX7, "common", "(II)I"⟩
abbrev cX7_part : ByteArray := prog_9_method_61_code
def yX7_part : MethodName := ⟨RX7, "part", "(III)I"⟩
abbrev cX7_cat : ByteArray := prog_9_method_62_code
def yX7_cat : MethodName := ⟨RX7, "cat", "(II)I"⟩
abbrev cX7_mean : ByteArray := prog_9_method_63_code
def yX7_mean : MethodName := ⟨RX7, "mean", "(I)I"⟩
abbrev cX7_whose : ByteArray := prog_9_method_64_code
def yX7_whose : MethodName := ⟨RX7, "whose", "(I)I"⟩
abbrev cX7_fourth : ByteArray := prog_9_method_65_code
def yX7_fourth : MethodName := ⟨RX7, "fourth", "(I)I"⟩
abbrev cX7_count : ByteArray := prog_9_method_66_code
def yX7_count : MethodName := ⟨RX7, "count", "(I)I"⟩
def RJ6 : String := "java/lang/Integer"
def TJ6 : u_T := fun k => match k with
  | _ => ("", "", "", false)
def tyJ6 : Nat → FieldType := fun k => match k with
  | _ => .int
abbrev wsJ60 : List Cond := u_ws RJ6 TJ6 0
theorem tyJ6_ok : ∀ k, k < 0 → parseFieldDescriptor (TJ6 k).2.2.1 = some (tyJ6 k) := by decide +kernel
abbrev cJ6_numberOfTrailingZeros_0f7a4 : ByteArray := prog_10_method_48_code
def yJ6_numberOfTrailingZeros_0f7a4 : MethodName := ⟨RJ6, "numberOfTrailingZeros", "(I)I"⟩
abbrev cJ6_bitCount_0f7a4 : ByteArray := prog_10_method_49_code
def yJ6_bitCount_0f7a4 : MethodName := ⟨RJ6, "bitCount", "(I)I"⟩
def RJ9 : String := "java/lang/Math"
def TJ9 : u_T := fun k => match k with
  | _ => ("", "", "", false)
def tyJ9 : Nat → FieldType := fun k => match k with
  | _ => .int
abbrev wsJ90 : List Cond := u_ws RJ9 TJ9 0
theorem tyJ9_ok : ∀ k, k < 0 → parseFieldDescriptor (TJ9 k).2.2.1 = some (tyJ9 k) := by decide +kernel
abbrev cJ9_max_7cf53 : ByteArray := prog_11_method_65_code
def yJ9_max_7cf53 : MethodName := ⟨RJ9, "max", "(II)I"⟩
abbrev cJ9_min_7cf53 : ByteArray := prog_11_method_69_code
def yJ9_min_7cf53 : MethodName := ⟨RJ9, "min", "(II)I"⟩
def RJ0 : String := "java/lang/String"
def TJ0 : u_T := fun k => match k with
  | _ => ("", "", "", false)
def tyJ0 : Nat → FieldType := fun k => match k with
  | _ => .int
abbrev wsJ00 : List Cond := u_ws RJ0 TJ0 0
theorem tyJ0_ok : ∀ k, k < 0 → parseFieldDescriptor (TJ0 k).2.2.1 = some (tyJ0 k) := by decide +kernel
abbrev cJ0_length_8abf5 : ByteArray := prog_12_method_54_code
def yJ0_length_8abf5 : MethodName := ⟨RJ0, "length", "()I"⟩
abbrev cJ0_charAt_5068e : ByteArray := prog_12_method_56_code
def yJ0_charAt_5068e : MethodName := ⟨RJ0, "charAt", "(I)C"⟩
abbrev cJ0_coder_7d493 : ByteArray := prog_12_method_152_code
def yJ0_coder_7d493 : MethodName := ⟨RJ0, "coder", "()B"⟩
abbrev cJ0_isLatin1_aae02 : ByteArray := prog_12_method_154_code
def yJ0_isLatin1_aae02 : MethodName := ⟨RJ0, "isLatin1", "()Z"⟩
abbrev cJ0_checkIndex_df160 : ByteArray := prog_12_method_155_code
def yJ0_checkIndex_df160 : MethodName := ⟨RJ0, "checkIndex", "(II)V"⟩
def RJ1 : String := "java/lang/StringLatin1"
def TJ1 : u_T := fun k => match k with
  | _ => ("", "", "", false)
def tyJ1 : Nat → FieldType := fun k => match k with
  | _ => .int
abbrev wsJ10 : List Cond := u_ws RJ1 TJ1 0
theorem tyJ1_ok : ∀ k, k < 0 → parseFieldDescriptor (TJ1 k).2.2.1 = some (tyJ1 k) := by decide +kernel
abbrev cJ1_charAt_3b067 : ByteArray := prog_13_method_2_code
def yJ1_charAt_3b067 : MethodName := ⟨RJ1, "charAt", "([BI)C"⟩
def RJ2 : String := "java/lang/StringUTF16"
def TJ2 : u_T := fun k => match k with
  | _ => ("", "", "", false)
def tyJ2 : Nat → FieldType := fun k => match k with
  | _ => .int
abbrev wsJ20 : List Cond := u_ws RJ2 TJ2 0
theorem tyJ2_ok : ∀ k, k < 0 → parseFieldDescriptor (TJ2 k).2.2.1 = some (tyJ2 k) := by decide +kernel
abbrev cJ2_getChar_3b067 : ByteArray := prog_14_method_5_code
def yJ2_getChar_3b067 : MethodName := ⟨RJ2, "getChar", "([BI)C"⟩
abbrev cJ2_length_9d52b : ByteArray := prog_14_method_6_code
def yJ2_length_9d52b : MethodName := ⟨RJ2, "length", "([B)I"⟩
abbrev cJ2_charAt_3b067 : ByteArray := prog_14_method_83_code
def yJ2_charAt_3b067 : MethodName := ⟨RJ2, "charAt", "([BI)C"⟩
abbrev cJ2_checkIndex_2214a : ByteArray := prog_14_method_91_code
def yJ2_checkIndex_2214a : MethodName := ⟨RJ2, "checkIndex", "(I[B)V"⟩
def RJ10 : String := "java/lang/System"
def TJ10 : u_T := fun k => match k with
  | _ => ("", "", "", false)
def tyJ10 : Nat → FieldType := fun k => match k with
  | _ => .int
theorem tyJ10_ok : ∀ k, k < 0 → parseFieldDescriptor (TJ10 k).2.2.1 = some (tyJ10 k) := by decide +kernel
def RJ3 : String := "jdk/internal/util/Preconditions"
def TJ3 : u_T := fun k => match k with
  | _ => ("", "", "", false)
def tyJ3 : Nat → FieldType := fun k => match k with
  | _ => .int
abbrev wsJ30 : List Cond := u_ws RJ3 TJ3 0
theorem tyJ3_ok : ∀ k, k < 0 → parseFieldDescriptor (TJ3 k).2.2.1 = some (tyJ3 k) := by decide +kernel
abbrev cJ3_checkIndex_8e157 : ByteArray := prog_16_method_11_code
def yJ3_checkIndex_8e157 : MethodName := ⟨RJ3, "checkIndex", "(IILjava/util/function/BiFunction;)I"⟩
def RL : String := "WhoseThreadLaw"
abbrev cL_law : ByteArray := code
def yL_law : MethodName := ⟨RL, "law", "([I)Z"⟩
abbrev vwCl : List vw_C := [(RX0, TX0, 7), (RX1, TX1, 9), (RX2, TX2, 3), (RX3, TX3, 5), (RX4, TX4, 9), (RX5, TX5, 5), (RX6, TX6, 10), (RX7, TX7, 33)]
